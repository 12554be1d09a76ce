/-! the layout in natural numbers -/
def szN (w : Int32) : Nat := if w = 10 then 16 else (if w = 11 then 16 else (if w = 14 then 12 else 4))
def upN (a : Nat) : Nat := (a + 15) / 16 * 16
def alN (d : Int32) (a : Nat) : Nat := if d = 0 then a else upN a
def fwN (w : Int32) (a : Nat) : Nat := if w = 15 then a / 16 * 16 + 12 else (if 16 < a % 16 + szN w then upN a else a)
def lpN (W d : Nat → Int32) : Nat → Nat
  | 0 => 0
  | j + 1 => fwN (W j) (alN (d j) (lpN W d j)) + szN (W j)
theorem szN_is (w : Int32) : szN w = 4 ∨ szN w = 12 ∨ szN w = 16 := by
  unfold szN
  split
  · exact Or.inr (Or.inr rfl)
  · split
    · exact Or.inr (Or.inr rfl)
    · split
      · exact Or.inr (Or.inl rfl)
      · exact Or.inl rfl
theorem szN_15 {w : Int32} (h : w = 15) : szN w = 4 := by
  subst h
  decide
theorem alN_ok {d : Int32} {a j : Nat} (h4 : a % 4 = 0) (h : a ≤ 16 * j) : alN d a % 4 = 0 ∧ alN d a ≤ 16 * j ∧ a ≤ alN d a := by
  unfold alN upN
  split
  · exact ⟨h4, h, Nat.le_refl _⟩
  · omega
theorem fwN_ok {w : Int32} {a j : Nat} (h4 : a % 4 = 0) (h : a ≤ 16 * j) : fwN w a % 4 = 0 ∧ fwN w a + szN w ≤ 16 * j + 16 ∧ a ≤ fwN w a := by
  unfold fwN upN
  split
  · rename_i h15
    rw [szN_15 h15]
    omega
  · have := szN_is w
    split
    · omega
    · omega
theorem lpN_ok (W d : Nat → Int32) : ∀ j, lpN W d j % 4 = 0 ∧ lpN W d j ≤ 16 * j
  | 0 => ⟨rfl, Nat.le_refl _⟩
  | j + 1 => by
    obtain ⟨h1, h2⟩ := lpN_ok W d j
    obtain ⟨h3, h4, h5⟩ := alN_ok (d := d j) h1 h2
    obtain ⟨h6, h7, h8⟩ := fwN_ok (w := W j) h3 h4
    have := szN_is (W j)
    show (fwN (W j) (alN (d j) (lpN W d j)) + szN (W j)) % 4 = 0 ∧ fwN (W j) (alN (d j) (lpN W d j)) + szN (W j) ≤ 16 * (j + 1)
    omega
theorem sz_N (w : Int32) : sp_X2_sizeOf w = nI (szN w) := by
  unfold sp_X2_sizeOf szN
  split
  · rfl
  · split
    · rfl
    · split
      · rfl
      · rfl
theorem bsf_N {a : Nat} (h : a < 2 ^ 20) : sp_X2_bundleStartFrom (nI a) = nI (upN a) := by
  unfold sp_X2_bundleStartFrom upN
  rw [show (16 : Int32) = nI 16 from rfl, show (1 : Int32) = nI 1 from rfl, nI_add, pk_sub (by omega), pk_div (by omega) (by decide) (by decide), pk_mul]
  exact congrArg nI (by omega)
theorem fw_N {a : Nat} (w : Int32) (h : a < 2 ^ 20) : sp_X2_firstWritten (nI a) w = nI (fwN w a) := by
  unfold sp_X2_firstWritten fwN
  rw [show (16 : Int32) = nI 16 from rfl, pk_rem (by omega) (by decide) (by decide)]
  by_cases h15 : w = 15
  · rw [if_pos h15, if_pos h15, show (4 : Int32) = nI 4 from rfl, pk_sub (by omega), nI_add, pk_sub (by omega)]
    exact congrArg nI (by omega)
  · rw [if_neg h15, if_neg h15, sz_N, nI_add, bsf_N h]
    have hs := szN_is w
    by_cases hc : 16 < a % 16 + szN w
    · rw [if_pos hc, if_pos ((nI_ltI (by decide) (by omega)).mpr hc)]
    · rw [if_neg hc, if_neg (fun q => hc ((nI_ltI (by decide) (by omega)).mp q))]
theorem we_N (e N : Nat) (f : Nat → Int32) (fro : Int32) : sp_X2_writeOne_end (nI e) N f fro = nI (e + szN (sp_X0_word N f fro)) := by
  unfold sp_X2_writeOne_end
  generalize sp_X0_word N f fro = w
  unfold sp_X2_append_end sp_X2_appendN_end szN
  have e1 : nI e + 4 = nI (e + 4) := nI_add e 4
  have e2 : nI e + 4 + 4 + 4 = nI (e + 12) := by rw [e1, show (4 : Int32) = nI 4 from rfl, nI_add, nI_add]
  have e3 : nI e + 4 + 4 + 4 + 4 = nI (e + 16) := by rw [e2, show (4 : Int32) = nI 4 from rfl, nI_add]
  by_cases h10 : w = 10
  · rw [if_pos h10, if_pos h10, e3]
  · by_cases h11 : w = 11
    · rw [if_neg h10, if_neg h10, if_pos h11, if_pos h11, e3]
    · by_cases h14 : w = 14
      · rw [if_neg h10, if_neg h10, if_neg h11, if_neg h11, if_neg (by rw [h14]; decide), if_neg (by rw [h14]; decide), if_pos h14, if_pos h14, e2]
      · simp only [if_neg h10, if_neg h11, if_neg h14, ite_self, e1]
def p2N (c : Nat) : Nat := if c ≤ 1 then 1 else (if c ≤ 2 then 2 else (if c ≤ 4 then 4 else (if c ≤ 8 then 8 else (if c ≤ 16 then 16 else (if c ≤ 32 then 32 else 64)))))
theorem p2_tab : ∀ c : Fin 65, sp_X2_powerOf2From (nI c.val) = nI (p2N c.val) := by decide +kernel
theorem p2_N {c : Nat} (h : c ≤ 64) : sp_X2_powerOf2From (nI c) = nI (p2N c) := p2_tab ⟨c, by omega⟩
theorem p2N_le (c : Nat) : p2N c ≤ 64 ∧ 1 ≤ p2N c := by
  unfold p2N
  repeat' split
  all_goals omega
theorem pat_N (N : Nat) (f fl : Nat → Int32) : ∀ j, j ≤ 60 → pat N f fl j = nI (lpN (fun x => sp_X0_word N f (nI (4 * x))) fl j)
  | 0, _ => rfl
  | j + 1, h => by
    have ih := pat_N N f fl j (by omega)
    obtain ⟨h1, h2⟩ := lpN_ok (fun x => sp_X0_word N f (nI (4 * x))) fl j
    obtain ⟨h3, h4, h5⟩ := alN_ok (d := fl j) h1 h2
    have e : pAl fl j (pat N f fl j) = nI (alN (fl j) (lpN (fun x => sp_X0_word N f (nI (4 * x))) fl j)) := by
      unfold pAl alN
      rw [ih, bsf_N (by omega)]
      split
      · rfl
      · rfl
    show sp_X2_firstWritten (pAl fl j (pat N f fl j)) (sp_X0_word N f (nI (4 * j))) + sp_X2_sizeOf (sp_X0_word N f (nI (4 * j))) = _
    rw [e, fw_N _ (by omega), sz_N, nI_add]
    rfl
theorem pst_N (N : Nat) (f fl : Nat → Int32) {j : Nat} (h : j ≤ 60) : pst N f fl j = nI (alN (fl j) (lpN (fun x => sp_X0_word N f (nI (4 * x))) fl j)) := by
  obtain ⟨h1, h2⟩ := lpN_ok (fun x => sp_X0_word N f (nI (4 * x))) fl j
  unfold pst pAl alN
  rw [pat_N N f fl j h, bsf_N (by omega)]
  split
  · rfl
  · rfl
theorem na_N (N : Nat) (f fl fp fa : Nat → Int32) {j n : Nat} (hj : j < n) (hn : n ≤ 60) : sp_X2_newAddress (va_cpy (pln N f fl n fp) fa 0 0 60) (nI n) (nI j) = nI (alN (fl j) (lpN (fun x => sp_X0_word N f (nI (4 * x))) fl j)) := by
  unfold sp_X2_newAddress
  rw [if_neg (nI_pos (by omega)), if_neg (fun q => absurd ((nI_leI (by omega) (by omega)).mp q) (by omega)), if_neg (fun q => absurd ((nI_leI (by omega) (by omega)).mp q) (by omega)), nI_clamp (by omega), pk_cpy_in (by omega) (by omega)]
  rw [show 0 + (j - 0) = j by omega]
  unfold pln
  rw [if_pos hj, pst_N N f fl (by omega)]
def tW (f : Nat → Int32) : Nat → Int32 := fun x => sp_X0_word 240 f (nI (4 * x))
def tL (f fl : Nat → Int32) (n : Nat) : Nat → Int32 := ml 240 f n fl
def tE (f fl : Nat → Int32) (n : Nat) : Nat → Nat := lpN (tW f) (tL f fl n)
def tK (f fl : Nat → Int32) (n : Nat) : Nat → Nat := fun j => (fwN (tW f j) (alN (tL f fl n j) (tE f fl n j)) - tE f fl n j) / 4
def tB (f fl : Nat → Int32) (n : Nat) : Nat := p2N (tE f fl n n / 16 + 1)
def tA (f fl fp fa : Nat → Int32) (n : Nat) : Nat → Int32 := va_cpy (pln 240 f (tL f fl n) n fp) fa 0 0 60
def tC (base : Int32) (f fl fp fa : Nat → Int32) (n : Nat) (f2 : Nat → Int32) : Nat → Int32 := wa (tA f fl fp fa n) base (nI n) 240 f 1024 (sp_X0_length (nI (16 * tB f fl n)) - 16) (tE f fl n) (tK f fl n) n (kz (16 * tB f fl n) 1024 (kz 0 1024 f2))
theorem tK_e (f fl : Nat → Int32) (n j : Nat) : tE f fl n j + 4 * tK f fl n j = fwN (tW f j) (alN (tL f fl n j) (tE f fl n j)) := by
  unfold tK tE
  obtain ⟨h1, h2⟩ := lpN_ok (tW f) (tL f fl n) j
  obtain ⟨h3, h4, h5⟩ := alN_ok (d := tL f fl n j) h1 h2
  obtain ⟨h6, h7, h8⟩ := fwN_ok (w := tW f j) h3 h4
  omega
theorem tT (f fl fp fa : Nat → Int32) {n : Nat} (hn : n ≤ 60) : ∀ j, j < n → sp_X2_firstWritten (sp_X2_newAddress (tA f fl fp fa n) (nI n) (nI j)) (sp_X0_word 240 f (nI (4 * j))) = nI (tE f fl n j + 4 * tK f fl n j) := by
  intro j hj
  obtain ⟨h1, h2⟩ := lpN_ok (tW f) (tL f fl n) j
  obtain ⟨h3, h4, h5⟩ := alN_ok (d := tL f fl n j) h1 h2
  have e : sp_X2_newAddress (tA f fl fp fa n) (nI n) (nI j) = nI (alN (tL f fl n j) (tE f fl n j)) := na_N 240 f (tL f fl n) fp fa hj hn
  have hb : alN (tL f fl n j) (tE f fl n j) ≤ 16 * j := h4
  rw [e, fw_N _ (by omega), tK_e]
  rfl
theorem tEe (f fl : Nat → Int32) {n : Nat} : ∀ j, j < n → sp_X2_writeOne_end (nI (tE f fl n j + 4 * tK f fl n j)) 240 f (nI (4 * j)) = nI (tE f fl n (j + 1)) := by
  intro j hj
  rw [we_N, tK_e]
  rfl
theorem tbb (f fl : Nat → Int32) {n : Nat} (hn : n ≤ 60) : ∀ j, j < n → tE f fl n j + 4 * tK f fl n j < 2 ^ 31 := by
  intro j hj
  rw [tK_e]
  obtain ⟨h1, h2⟩ := lpN_ok (tW f) (tL f fl n) j
  obtain ⟨h3, h4, h5⟩ := alN_ok (d := tL f fl n j) h1 h2
  obtain ⟨h6, h7, h8⟩ := fwN_ok (w := tW f j) h3 h4
  have h9 : fwN (tW f j) (alN (tL f fl n j) (tE f fl n j)) + szN (tW f j) ≤ 16 * j + 16 := h7
  omega
theorem tB_le (f fl : Nat → Int32) (n : Nat) : tB f fl n ≤ 64 ∧ 1 ≤ tB f fl n := p2N_le _
theorem tB_N (f fl : Nat → Int32) {n : Nat} (hn : n ≤ 60) : sp_X2_powerOf2From (pat 240 f (ml 240 f n fl) n / 16 + 1) = nI (tB f fl n) := by
  rw [pat_N 240 f _ n hn, show (16 : Int32) = nI 16 from rfl, show (1 : Int32) = nI 1 from rfl]
  obtain ⟨h1, h2⟩ := lpN_ok (fun x => sp_X0_word 240 f (nI (4 * x))) (ml 240 f n fl) n
  rw [pk_div (by omega) (by decide) (by decide), nI_add, p2_N (by omega)]
  rfl
theorem k_le64 {n : Nat} (h : n ≤ 64) : nI n ≤ 64 := (nI_leI (by omega) (by decide)).mpr h
