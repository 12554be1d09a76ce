/-! MY PURE ROWS 1: bytes, registers, soundness, what is taken -/
theorem q_i {x : Int32} {a b : Nat} (hx : x = nI b) (ha : a < 2 ^ 31) (hb : b < 2 ^ 31) : nI a = x ↔ a = b := by rw [hx]; exact nI_eq ha hb
theorem q_lt {x : Int32} {a b : Nat} (hx : x = nI b) (ha : a < 2 ^ 31) (hb : b < 2 ^ 31) : nI a < x ↔ a < b := by rw [hx]; exact nI_ltI ha hb
theorem q_gt {x : Int32} {a b : Nat} (hx : x = nI b) (ha : a < 2 ^ 31) (hb : b < 2 ^ 31) : x < nI a ↔ b < a := by rw [hx]; exact nI_ltI hb ha
theorem q_le {x : Int32} {a b : Nat} (hx : x = nI b) (ha : a < 2 ^ 31) (hb : b < 2 ^ 31) : nI a ≤ x ↔ a ≤ b := by rw [hx]; exact nI_leI ha hb
theorem q_ge {x : Int32} {a b : Nat} (hx : x = nI b) (ha : a < 2 ^ 31) (hb : b < 2 ^ 31) : x ≤ nI a ↔ b ≤ a := by rw [hx]; exact nI_leI hb ha
theorem rd {N : Nat} {f : Nat → Int32} {k : Nat} (h : k < N) (hN : N < 2 ^ 31) : sp_X0_read N f (nI k) = f k := by
  unfold sp_X0_read
  rw [if_neg (nI_pos (by omega)), if_neg (fun q => absurd ((nI_leI hN (by omega)).mp q) (by omega)), nI_clamp (by omega)]
theorem rd_w {N : Nat} {f : Nat → Int32} {k : Nat} (h : k + 3 < N) (hN : N < 2 ^ 31) : sp_X0_word N f (nI k) = f k := rd (by omega) hN
theorem rd_a {N : Nat} {f : Nat → Int32} {k : Nat} (h : k + 3 < N) (hN : N < 2 ^ 31) : sp_X0_a N f (nI k) = f (k + 1) := by
  unfold sp_X0_a
  rw [nI_1]
  exact rd (by omega) hN
theorem e_2 (k : Nat) : nI k + 2 = nI (k + 2) := nI_add k 2
theorem e_3 (k : Nat) : nI k + 3 = nI (k + 3) := nI_add k 3
theorem e_4 (k : Nat) : nI k + 4 = nI (k + 4) := nI_add k 4
theorem rd_1 {N : Nat} {f : Nat → Int32} {k : Nat} (h : k + 3 < N) (hN : N < 2 ^ 31) : sp_X0_read N f (nI k + 1) = f (k + 1) := by
  rw [nI_1]
  exact rd (by omega) hN
theorem rd_2 {N : Nat} {f : Nat → Int32} {k : Nat} (h : k + 3 < N) (hN : N < 2 ^ 31) : sp_X0_read N f (nI k + 2) = f (k + 2) := by
  rw [e_2]
  exact rd (by omega) hN
theorem rd_3 {N : Nat} {f : Nat → Int32} {k : Nat} (h : k + 3 < N) (hN : N < 2 ^ 31) : sp_X0_read N f (nI k + 3) = f (k + 3) := by
  rw [e_3]
  exact rd (by omega) hN
theorem rd_n {N : Nat} {f : Nat → Int32} {k b c : Nat} (h : k + 3 < N) (hN : N < 2 ^ 31) (hb : f (k + 2) = nI b) (hc : f (k + 3) = nI c) : sp_X0_n N f (nI k) = nI (256 * b + c) := by
  unfold sp_X0_n
  rw [rd_2 h hN, rd_3 h hN, hb, hc, show (256 : Int32) = nI 256 from rfl, pk_mul, nI_add]
theorem n_N (b c : Nat) : 256 * nI b + nI c = nI (256 * b + c) := by
  rw [show (256 : Int32) = nI 256 from rfl, pk_mul, nI_add]
/-- four numbers below 256 behind each other -/
def By (f : Nat → Int32) (k w a b c : Nat) : Prop := (f k = nI w ∧ f (k + 1) = nI a ∧ f (k + 2) = nI b ∧ f (k + 3) = nI c) ∧ w < 256 ∧ a < 256 ∧ b < 256 ∧ c < 256
theorem isR_T : ∀ a : Fin 256, (sp_X5_isRegister (nI a.val) = 0 ↔ 7 < a.val) := by decide +kernel
theorem isR_N {a : Nat} (h : a < 256) : sp_X5_isRegister (nI a) = 0 ↔ 7 < a := isR_T ⟨a, h⟩
theorem is6_N {a : Nat} (h : a < 256) : nI a = 6 ↔ a = 6 := q_i (b := 6) rfl (by omega) (by decide)
theorem gt7_N {a : Nat} (h : a < 256) : (7 : Int32) < nI a ↔ 7 < a := q_gt (b := 7) rfl (by omega) (by decide)
/-- a word below 19 is one of these -/
theorem w19 {w : Nat} (h : w < 19) : w = 0 ∨ w = 1 ∨ w = 2 ∨ w = 3 ∨ w = 4 ∨ w = 5 ∨ w = 6 ∨ w = 7 ∨ w = 8 ∨ w = 9 ∨ w = 10 ∨ w = 11 ∨ w = 12 ∨ w = 13 ∨ w = 14 ∨ w = 15 ∨ w = 16 ∨ w = 17 ∨ w = 18 := by omega
/-- how many registers: the first ones, by word -/
def nR (w : Nat) : Nat := if w = 0 ∨ w = 12 ∨ w = 15 then 0 else (if w = 1 ∨ 12 ≤ w then 1 else (if 9 ≤ w then 2 else 3))
def okR (w a b c : Nat) : Bool := decide ((0 < nR w → a ≤ 7) ∧ (1 < nR w → b ≤ 7) ∧ (2 < nR w → c ≤ 7))
theorem rO_T : ∀ w : Fin 19, sp_X5_registersOf (nI w.val) = nI (nR w.val) := by decide +kernel
theorem rO_N {w : Nat} (h : w < 19) : sp_X5_registersOf (nI w) = nI (nR w) := rO_T ⟨w, h⟩
theorem nR_3 (w : Nat) : nR w = 0 ∨ nR w = 1 ∨ nR w = 2 ∨ nR w = 3 := by
  unfold nR
  split
  · exact Or.inl rfl
  · split
    · exact Or.inr (Or.inl rfl)
    · split
      · exact Or.inr (Or.inr (Or.inl rfl))
      · exact Or.inr (Or.inr (Or.inr rfl))
theorem hR_N {N : Nat} {f : Nat → Int32} {k w a b c : Nat} (h : k + 3 < N) (hN : N < 2 ^ 31) (hB : By f k w a b c) (hw : w < 19) : sp_X0_hasRegistersOnly N f (nI k) = if okR w a b c then 1 else 0 := by
  obtain ⟨⟨e0, e1, e2, e3⟩, h0, h1, h2, h3⟩ := hB
  unfold sp_X0_hasRegistersOnly okR
  rw [rd_w h hN, rd_1 h hN, rd_2 h hN, rd_3 h hN, e0, e1, e2, e3, rO_N hw]
  simp only [isR_N h1, isR_N h2, isR_N h3]
  rcases nR_3 w with q | q | q | q <;> rw [q]
  · rfl
  · rw [if_neg (by decide), if_pos (by decide)]
    by_cases ha : 7 < a
    · rw [if_pos ha, if_neg (by simp; omega)]
    · rw [if_neg ha, if_pos (by simp; omega)]
  · rw [if_neg (by decide), if_neg (by decide), if_pos (by decide)]
    by_cases ha : 7 < a
    · rw [if_pos ha, if_neg (by simp; omega)]
    · by_cases hb : 7 < b
      · rw [if_neg ha, if_pos hb, if_neg (by simp; omega)]
      · rw [if_neg ha, if_neg hb, if_pos (by simp; omega)]
  · rw [if_neg (by decide), if_neg (by decide), if_neg (by decide)]
    by_cases ha : 7 < a
    · rw [if_pos ha, if_neg (by simp; omega)]
    · by_cases hb : 7 < b
      · rw [if_neg ha, if_pos hb, if_neg (by simp; omega)]
      · by_cases hc : 7 < c
        · rw [if_neg ha, if_neg hb, if_pos hc, if_neg (by simp; omega)]
        · rw [if_neg ha, if_neg hb, if_neg hc, if_pos (by simp; omega)]
/-- sound instructions do not use register 6 -/
def no6 (w a b c : Nat) : Bool := decide ((0 < nR w → a ≠ 6) ∧ (1 < nR w → b ≠ 6) ∧ (2 < nR w → c ≠ 6))
theorem uR_N {N : Nat} {f : Nat → Int32} {k w a b c : Nat} (h : k + 3 < N) (hN : N < 2 ^ 31) (hB : By f k w a b c) (hw : w < 19) : sp_X0_usesRegister N f (nI k) 6 = if no6 w a b c then 0 else 1 := by
  obtain ⟨⟨e0, e1, e2, e3⟩, h0, h1, h2, h3⟩ := hB
  unfold sp_X0_usesRegister no6
  rw [rd_w h hN, rd_1 h hN, rd_2 h hN, rd_3 h hN, e0, e1, e2, e3, rO_N hw]
  simp only [is6_N h1, is6_N h2, is6_N h3]
  rcases nR_3 w with q | q | q | q <;> rw [q]
  · rfl
  · rw [if_neg (by decide), if_pos (by decide)]
    by_cases ha : a = 6
    · rw [if_pos ha, if_neg (by simp; omega)]
    · rw [if_neg ha, if_pos (by simp; omega)]
  · rw [if_neg (by decide), if_neg (by decide), if_pos (by decide)]
    by_cases ha : a = 6
    · rw [if_pos ha, if_neg (by simp; omega)]
    · by_cases hb : b = 6
      · rw [if_neg ha, if_pos hb, if_neg (by simp; omega)]
      · rw [if_neg ha, if_neg hb, if_pos (by simp; omega)]
  · rw [if_neg (by decide), if_neg (by decide), if_neg (by decide)]
    by_cases ha : a = 6
    · rw [if_pos ha, if_neg (by simp; omega)]
    · by_cases hb : b = 6
      · rw [if_neg ha, if_pos hb, if_neg (by simp; omega)]
      · by_cases hc : c = 6
        · rw [if_neg ha, if_neg hb, if_pos hc, if_neg (by simp; omega)]
        · rw [if_neg ha, if_neg hb, if_neg hc, if_pos (by simp; omega)]
theorem hABC_T : ∀ w : Fin 256, sp_X6_hasA (nI w.val) = (if 0 < nR w.val then 1 else 0) ∧ sp_X6_hasB (nI w.val) = (if 1 < nR w.val then 1 else 0) ∧ sp_X6_hasC (nI w.val) = (if 2 < nR w.val then 1 else 0) := by decide +kernel
theorem hA6 {w : Nat} (h : w < 256) : sp_X6_hasA (nI w) = if 0 < nR w then 1 else 0 := (hABC_T ⟨w, h⟩).1
theorem hB6 {w : Nat} (h : w < 256) : sp_X6_hasB (nI w) = if 1 < nR w then 1 else 0 := (hABC_T ⟨w, h⟩).2.1
theorem hC6 {w : Nat} (h : w < 256) : sp_X6_hasC (nI w) = if 2 < nR w then 1 else 0 := (hABC_T ⟨w, h⟩).2.2
theorem aR_N {w a b c : Nat} (h0 : w < 256) (h1 : a < 256) (h2 : b < 256) (h3 : c < 256) : sp_X6_areRegisters (nI w) (nI a) (nI b) (nI c) = if okR w a b c then 1 else 0 := by
  unfold sp_X6_areRegisters okR
  rw [hA6 h0, hB6 h0, hC6 h0]
  simp only [gt7_N h1, gt7_N h2, gt7_N h3]
  rcases nR_3 w with q | q | q | q <;> rw [q]
  · rfl
  · by_cases ha : 7 < a
    · rw [if_neg (by decide), if_pos ha, if_neg (by simp; omega)]
    · rw [if_neg (by decide), if_neg ha, if_pos (by decide), if_pos (by decide), if_pos (by simp; omega)]
  · by_cases ha : 7 < a
    · rw [if_neg (by decide), if_pos ha, if_neg (by simp; omega)]
    · by_cases hb : 7 < b
      · rw [if_neg (by decide), if_neg ha, if_neg (by decide), if_pos hb, if_neg (by simp; omega)]
      · rw [if_neg (by decide), if_neg ha, if_neg (by decide), if_neg hb, if_pos (by decide), if_pos (by simp; omega)]
  · by_cases ha : 7 < a
    · rw [if_neg (by decide), if_pos ha, if_neg (by simp; omega)]
    · by_cases hb : 7 < b
      · rw [if_neg (by decide), if_neg ha, if_neg (by decide), if_pos hb, if_neg (by simp; omega)]
      · by_cases hc : 7 < c
        · rw [if_neg (by decide), if_neg ha, if_neg (by decide), if_neg hb, if_neg (by decide), if_pos hc, if_neg (by simp; omega)]
        · rw [if_neg (by decide), if_neg ha, if_neg (by decide), if_neg hb, if_neg (by decide), if_neg hc, if_pos (by simp; omega)]
def isP (w : Nat) : Bool := decide (w = 12 ∨ w = 13 ∨ w = 15 ∨ w = 18)
theorem hP_T : ∀ w : Fin 256, sp_X5_hasPlace (nI w.val) = (if isP w.val then 1 else 0) ∧ sp_X6_isPlace (nI w.val) = (if isP w.val then 1 else 0) ∧ sp_X3_isProgramWord (nI w.val) = (if w.val < 16 ∨ w.val = 18 then 1 else 0) := by decide +kernel
theorem hP5 {w : Nat} (h : w < 256) : sp_X5_hasPlace (nI w) = if isP w then 1 else 0 := (hP_T ⟨w, h⟩).1
theorem hP6 {w : Nat} (h : w < 256) : sp_X6_isPlace (nI w) = if isP w then 1 else 0 := (hP_T ⟨w, h⟩).2.1
theorem pW_N {w : Nat} (h : w < 256) : sp_X3_isProgramWord (nI w) = if w < 16 ∨ w = 18 then 1 else 0 := (hP_T ⟨w, h⟩).2.2
/-- a sound instruction -/
def snd (n w a b c : Nat) : Bool := decide ((w < 16 ∨ w = 18) ∧ okR w a b c = true ∧ no6 w a b c = true ∧ (isP w = true → 256 * b + c < n))
theorem s5_N {f : Nat → Int32} {n k w a b c : Nat} (hn : n ≤ 60) (hk : k < n) (hB : By f (4 * k) w a b c) : sp_X3_isSound 240 f (nI (4 * n)) (nI (4 * k)) = if snd n w a b c then 1 else 0 := by
  have hB' := hB
  obtain ⟨⟨e0, e1, e2, e3⟩, h0, h1, h2, h3⟩ := hB
  unfold sp_X3_isSound snd
  rw [rd_w (by omega) (by decide), e0, pW_N h0, k_ins hn, rd_n (by omega) (by decide) e2 e3, hP5 h0]
  by_cases hw : w < 16 ∨ w = 18
  · rw [if_pos hw, if_neg (by decide), hR_N (by omega) (by decide) hB' (by omega), uR_N (by omega) (by decide) hB' (by omega)]
    cases okR w a b c
    · simp
    · cases no6 w a b c
      · simp
      · have g3 : nI n ≤ nI (256 * b + c) ↔ n ≤ 256 * b + c := nI_leI (by omega) (by omega)
        simp only [g3]
        cases isP w
        · simp [hw]
        · by_cases hc : n ≤ 256 * b + c
          · simp [hc, hw]
          · have hc2 : 256 * b + c < n := by omega
            simp [hc, hc2, hw]
  · rw [if_neg hw, if_pos rfl, if_neg (by simp [hw])]
theorem ifc {α : Type} {c : Prop} [Decidable c] {b : Bool} (h : c ↔ b = true) (x y : α) : (if c then x else y) = if b then x else y := by
  by_cases hc : c
  · rw [if_pos hc, if_pos (h.mp hc)]
  · rw [if_neg hc, if_neg (fun q => hc (h.mpr q))]
set_option maxHeartbeats 2000000 in
theorem s6_N {f : Nat → Int32} {n k w a b c : Nat} (hn : n ≤ 60) (hk : k < n) (hB : By f (4 * k) w a b c) : sp_X6_isSound f n k = if snd n w a b c then 1 else 0 := by
  obtain ⟨⟨e0, e1, e2, e3⟩, h0, h1, h2, h3⟩ := hB
  unfold sp_X6_isSound snd no6
  rw [e0, e1, e2, e3, aR_N h0 h1 h2 h3, hA6 h0, hB6 h0, hC6 h0, hP6 h0, n_N]
  have g1 : nI w < 16 ↔ w < 16 := q_lt (b := 16) rfl (by omega) (by decide)
  have g2 : nI w = 18 ↔ w = 18 := q_i (b := 18) rfl (by omega) (by decide)
  have g3 : nI n ≤ nI (256 * b + c) ↔ n ≤ 256 * b + c := nI_leI (by omega) (by omega)
  have g4 : 256 * b + c < n ↔ ¬ n ≤ 256 * b + c := by omega
  simp only [g1, g2, g3, g4, is6_N h1, is6_N h2, is6_N h3]
  generalize 256 * b + c = m
  cases okR w a b c
  · simp
  · rcases nR_3 w with q | q | q | q <;> rw [q] <;> by_cases hw : w < 16 <;> by_cases hv : w = 18 <;> cases isP w <;> by_cases hm : n ≤ m <;> by_cases ha : a = 6 <;> by_cases hb : b = 6 <;> by_cases hc : c = 6 <;> simp [ha, hb, hc, hw, hv, hm]
theorem fu_c {P R : Nat → Int32} : ∀ k j, (∀ x, j ≤ x → x < j + k → P x = R x) → fu P k j = fu R k j
  | 0, _, _ => rfl
  | k + 1, j, h => by
    show (if P j = 0 then nI j else fu P k (j + 1)) = (if R j = 0 then nI j else fu R k (j + 1))
    rw [h j (Nat.le_refl j) (by omega), fu_c k (j + 1) (fun x h1 h2 => h x (by omega) (by omega))]
theorem fv_c {P R : Nat → Int32} : ∀ k j, (∀ x, j ≤ x → x < j + k → P x = R x) → fv P k j = fv R k j
  | 0, _, _ => rfl
  | k + 1, j, h => by
    show (if P j = 0 then nI (4 * j) else fv P k (j + 1)) = (if R j = 0 then nI (4 * j) else fv R k (j + 1))
    rw [h j (Nat.le_refl j) (by omega), fv_c k (j + 1) (fun x h1 h2 => h x (by omega) (by omega))]
theorem fu_all {P : Nat → Int32} : ∀ k j, j + k < 2 ^ 31 → fu P k j = -1 → ∀ x, j ≤ x → x < j + k → P x ≠ 0
  | 0, _, _, _ => fun x h1 h2 => by omega
  | k + 1, j, hb, h => by
    have h' : (if P j = 0 then nI j else fu P k (j + 1)) = -1 := h
    by_cases hp : P j = 0
    · rw [if_pos hp] at h'
      exact absurd h' (fun q => nI_pos (n := j) (by omega) (by rw [q]; decide))
    · rw [if_neg hp] at h'
      intro x h1 h2
      by_cases hx : x = j
      · rw [hx]
        exact hp
      · exact fu_all k (j + 1) (by omega) h' x (by omega) (by omega)
/-- all numbers of the program -/
def Pb (gp : Nat → Int32) : Prop := ∀ x, ∃ p : Nat, p < 256 ∧ gp x = nI p
theorem Pb.by4 {gp : Nat → Int32} (h : Pb gp) (k : Nat) : ∃ w a b c, By gp k w a b c := by
  obtain ⟨w, h0, e0⟩ := h k
  obtain ⟨a, h1, e1⟩ := h (k + 1)
  obtain ⟨b, h2, e2⟩ := h (k + 2)
  obtain ⟨c, h3, e3⟩ := h (k + 3)
  exact ⟨w, a, b, c, ⟨e0, e1, e2, e3⟩, h0, h1, h2, h3⟩
theorem By.to {f gp : Nat → Int32} {m k w a b c : Nat} (h : By gp k w a b c) (e : ∀ x, x < m → f x = gp x) (hk : k + 3 < m) : By f k w a b c :=
  ⟨⟨by rw [e _ (by omega)]; exact h.1.1, by rw [e _ (by omega)]; exact h.1.2.1, by rw [e _ (by omega)]; exact h.1.2.2.1, by rw [e _ (by omega)]; exact h.1.2.2.2⟩, h.2⟩
theorem R_wrong {f gp : Nat → Int32} {n : Nat} (hn : n ≤ 60) (hP : Pb gp) (e : ∀ x, x < 4 * n → f x = gp x) : fun_fu 240 f n = fun_fw gp n := by
  unfold fun_fu fun_fw
  by_cases h0 : n = 0
  · rw [if_pos h0, if_pos h0]
  · rw [if_neg h0, if_neg h0]
    refine fu_c n 0 (fun x _ hx => ?_)
    obtain ⟨w, a, b, c, hB⟩ := hP.by4 (4 * x)
    show sp_X3_isSound 240 f (nI (4 * n)) (nI (4 * x)) = sp_X6_isSound gp n x
    rw [s6_N hn (by omega) hB, s5_N hn (by omega) (hB.to e (by omega))]
