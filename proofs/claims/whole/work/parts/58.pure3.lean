/-! MY PURE ROWS 3: rewriting -/
theorem wd_x (g : Nat → Int32) (e : Nat) (w a b c : Int32) (x : Nat) : sp_X6_write_draft g e w a b c x = if x = e + 3 then c else (if x = e + 2 then b else (if x = e + 1 then a else (if x = e then w else g x))) := rfl
theorem wd_ag {g1 g2 : Nat → Int32} {e : Nat} {w a b c : Int32} (h : ∀ x, x < e → g1 x = g2 x) : ∀ x, x < e + 4 → sp_X6_write_draft g1 e w a b c x = sp_X6_write_draft g2 e w a b c x := by
  intro x hx
  rw [wd_x, wd_x]
  by_cases h3 : x = e + 3
  · rw [if_pos h3, if_pos h3]
  · by_cases h2 : x = e + 2
    · rw [if_neg h3, if_neg h3, if_pos h2, if_pos h2]
    · by_cases h1 : x = e + 1
      · rw [if_neg h3, if_neg h3, if_neg h2, if_neg h2, if_pos h1, if_pos h1]
      · by_cases h0 : x = e
        · rw [if_neg h3, if_neg h3, if_neg h2, if_neg h2, if_neg h1, if_neg h1, if_pos h0, if_pos h0]
        · rw [if_neg h3, if_neg h3, if_neg h2, if_neg h2, if_neg h1, if_neg h1, if_neg h0, if_neg h0, h x (by omega)]
theorem wd_out {g : Nat → Int32} {e x : Nat} {w a b c : Int32} (h : x < e ∨ e + 4 ≤ x) : sp_X6_write_draft g e w a b c x = g x := by
  rw [wd_x, if_neg (by omega), if_neg (by omega), if_neg (by omega), if_neg (by omega)]
abbrev isB (v : Int32) : Prop := ∃ p : Nat, p < 256 ∧ v = nI p
theorem wd_Pb {g : Nat → Int32} {e : Nat} {w a b c : Int32} (h : Pb g) (hw : isB w) (ha : isB a) (hb : isB b) (hc : isB c) : Pb (sp_X6_write_draft g e w a b c) := by
  intro x
  rw [wd_x]
  by_cases h3 : x = e + 3
  · rw [if_pos h3]
    exact hc
  · by_cases h2 : x = e + 2
    · rw [if_neg h3, if_pos h2]
      exact hb
    · by_cases h1 : x = e + 1
      · rw [if_neg h3, if_neg h2, if_pos h1]
        exact ha
      · by_cases h0 : x = e
        · rw [if_neg h3, if_neg h2, if_neg h1, if_pos h0]
          exact hw
        · rw [if_neg h3, if_neg h2, if_neg h1, if_neg h0]
          exact h x
theorem wc_N {C : Nat → Int32} {e : Nat} {w a b c : Int32} (h : e + 4 ≤ 1024) : sp_X0_write_cells 1024 C (nI e) w a b c = sp_X6_write_draft C e w a b c := by
  unfold sp_X0_write_cells sp_X6_write_draft
  have e1 : nI 1024 - 4 = nI 1020 := by decide
  rw [if_neg (nI_pos (by omega)), e1, if_neg (fun q => absurd ((nI_ltI (by decide) (by omega)).mp q) (by omega)), nI_1, e_2, e_3, nI_clamp (by omega), nI_clamp (by omega), nI_clamp (by omega), nI_clamp (by omega)]
theorem fil_N {C : Nat → Int32} {e : Nat} : ∀ t, e + 4 * t ≤ 1024 → fil 1024 e t C = fl6 e t C
  | 0, _ => rfl
  | t + 1, h => by
    show sp_X0_write_cells 1024 (fil 1024 e t C) (nI (e + 4 * t)) 6 0 0 0 = sp_X6_write_draft (fl6 e t C) (e + 4 * t) 6 0 0 0
    rw [wc_N (by omega), fil_N t (by omega)]
theorem fl6_add {g : Nat → Int32} {e t : Nat} : ∀ u, fl6 (e + 4 * t) u (fl6 e t g) = fl6 e (t + u) g
  | 0 => rfl
  | u + 1 => by
    show sp_X6_write_draft (fl6 (e + 4 * t) u (fl6 e t g)) (e + 4 * t + 4 * u) 6 0 0 0 = sp_X6_write_draft (fl6 e (t + u) g) (e + 4 * (t + u)) 6 0 0 0
    rw [fl6_add u, show e + 4 * t + 4 * u = e + 4 * (t + u) by omega]
theorem fl6_ag {g1 g2 : Nat → Int32} {e : Nat} (h : ∀ x, x < e → g1 x = g2 x) : ∀ t, ∀ x, x < e + 4 * t → fl6 e t g1 x = fl6 e t g2 x
  | 0 => h
  | t + 1 => fun x hx => wd_ag (e := e + 4 * t) (fl6_ag h t) x (by omega)
theorem fl6_out {g : Nat → Int32} {e : Nat} : ∀ t, ∀ x, e + 4 * t ≤ x → fl6 e t g x = g x
  | 0 => fun _ _ => rfl
  | t + 1 => fun x hx => by
    show sp_X6_write_draft (fl6 e t g) (e + 4 * t) 6 0 0 0 x = g x
    rw [wd_out (by omega), fl6_out t x (by omega)]
theorem isB_k {v : Int32} (p : Nat) (e : v = nI p) (h : p < 256) : isB v := ⟨p, h, e⟩
theorem fl6_Pb {g : Nat → Int32} {e : Nat} (h : Pb g) : ∀ t, Pb (fl6 e t g)
  | 0 => h
  | t + 1 => wd_Pb (fl6_Pb h t) (isB_k 6 rfl (by decide)) (isB_k 0 rfl (by decide)) (isB_k 0 rfl (by decide)) (isB_k 0 rfl (by decide))
/-- the filling before an instruction, in one -/
def mK (gp : Nat → Int32) (n j : Nat) : Nat := (mF gp n j - mE gp n j) / 4
theorem mE_ok (gp : Nat → Int32) (n j : Nat) : mE gp n j % 4 = 0 ∧ mE gp n j ≤ 16 * j := lpN_ok (mW gp) (mD gp n) j
theorem mA_ok (gp : Nat → Int32) (n j : Nat) : mA gp n j % 4 = 0 ∧ mA gp n j ≤ 16 * j ∧ mE gp n j ≤ mA gp n j := alN_ok (mE_ok gp n j).1 (mE_ok gp n j).2
theorem mF_ok (gp : Nat → Int32) (n j : Nat) : mF gp n j % 4 = 0 ∧ mF gp n j + szN (mW gp j) ≤ 16 * j + 16 ∧ mA gp n j ≤ mF gp n j := fwN_ok (mA_ok gp n j).1 (mA_ok gp n j).2.1
theorem mE_s (gp : Nat → Int32) (n j : Nat) : mE gp n (j + 1) = mF gp n j + szN (mW gp j) := rfl
theorem mK_e (gp : Nat → Int32) (n j : Nat) : mE gp n j + 4 * mK gp n j = mF gp n j := by
  unfold mK
  have h1 := mE_ok gp n j
  have h2 := mA_ok gp n j
  have h3 := mF_ok gp n j
  omega
theorem mG_N (gp : Nat → Int32) (n j : Nat) (g0 : Nat → Int32) : mG2 gp n j (mG1 gp n j g0) = fl6 (mE gp n j) (mK gp n j) g0 := by
  have hE := mE_ok gp n j
  have hA := mA_ok gp n j
  have hK := mK_e gp n j
  have h1 : ∃ t, mG1 gp n j g0 = fl6 (mE gp n j) t g0 ∧ mE gp n j + 4 * t = mA gp n j := by
    unfold mG1
    by_cases hd : mD gp n j = 0
    · refine ⟨0, by rw [if_pos hd]; rfl, ?_⟩
      unfold mA alN
      rw [if_pos hd]
      rfl
    · refine ⟨f0 (mE gp n j), by rw [if_neg hd], ?_⟩
      unfold mA alN
      rw [if_neg hd]
      exact f0_up hE.1
  obtain ⟨t, e1, e2⟩ := h1
  have h2 : ∃ u, mG2 gp n j (mG1 gp n j g0) = fl6 (mA gp n j) u (mG1 gp n j g0) ∧ mA gp n j + 4 * u = mF gp n j := by
    unfold mG2 mF fwN
    by_cases h15 : gp (4 * j) = 15
    · refine ⟨f12 (mA gp n j), by rw [if_pos h15], ?_⟩
      rw [if_pos (show mW gp j = 15 from h15)]
      exact f12_e hA.1
    · by_cases h16 : 16 < mA gp n j % 16 + szN (mW gp j)
      · refine ⟨f0 (mA gp n j), by rw [if_neg h15, if_pos h16], ?_⟩
        rw [if_neg (show ¬ mW gp j = 15 from h15), if_pos h16]
        exact f0_up hA.1
      · refine ⟨0, by rw [if_neg h15, if_neg h16]; rfl, ?_⟩
        rw [if_neg (show ¬ mW gp j = 15 from h15), if_neg h16]
        rfl
  obtain ⟨u, e3, e4⟩ := h2
  rw [e3, e1, ← e2, fl6_add]
  exact congrArg (fun z => fl6 (mE gp n j) z g0) (by omega)
/-- a base of a region -/
abbrev isBase (x : Int32) : Prop := x = 0 ∨ x = 1024 ∨ x = 2048 ∨ x = 3072
theorem hi_N {m : Nat} (h : m < 65536) : (nI m >>> (8 &&& 31)) &&& 255 = nI m / 256 ∧ nI m &&& 255 = nI m - nI m / 256 * 256 ∧ isB (nI m / 256) ∧ isB (nI m - nI m / 256 * 256) := by
  have e1 : nI m / 256 = nI (m / 256) := pk_div (d := 256) (by omega) (by decide) (by decide)
  have e2 : nI m - nI m / 256 * 256 = nI (m % 256) := pk_rem (d := 256) (by omega) (by decide) (by decide)
  have e3 : (nI m >>> (8 &&& 31)) = nI (m / 2 ^ 8) := pk_shrN (by omega) (8 &&& 31) 8 (by decide)
  have e4 : nI (m / 2 ^ 8) &&& 255 = nI (m / 2 ^ 8 % 2 ^ 8) := pk_andN (by omega) 8 (by decide)
  have e5 : nI m &&& 255 = nI (m % 2 ^ 8) := pk_andN (by omega) 8 (by decide)
  refine ⟨?_, ?_, ?_, ?_⟩
  · rw [e3, e4, e1]
    exact congrArg nI (by omega)
  · rw [e5, e2]
  · exact ⟨m / 256, by omega, e1⟩
  · exact ⟨m % 256, by omega, e2⟩
theorem base_N {x : Int32} (h : isBase x) : (x >>> (8 &&& 31)) &&& 255 = x / 256 ∧ x &&& 255 = 0 ∧ isB (x / 256) := by
  rcases h with rfl | rfl | rfl | rfl
  · exact ⟨by decide, by decide, ⟨0, by decide, by decide⟩⟩
  · exact ⟨by decide, by decide, ⟨4, by decide, by decide⟩⟩
  · exact ⟨by decide, by decide, ⟨8, by decide, by decide⟩⟩
  · exact ⟨by decide, by decide, ⟨12, by decide, by decide⟩⟩
theorem mMn_N (gp : Nat → Int32) (j : Nat) {w : Nat} (e0 : gp (4 * j) = nI w) (h0 : w < 256) : mMn gp j = if w = 10 ∨ w = 11 then 4 else (if w = 14 then 3 else 1) := by
  unfold mMn
  rw [e0]
  have g1 : nI w = 10 ↔ w = 10 := q_i (b := 10) rfl (by omega) (by decide)
  have g2 : nI w = 11 ↔ w = 11 := q_i (b := 11) rfl (by omega) (by decide)
  have g3 : nI w = 14 ↔ w = 14 := q_i (b := 14) rfl (by omega) (by decide)
  simp only [g1, g2, g3]
  by_cases h1 : w = 10
  · rw [if_pos h1, if_pos (Or.inl h1)]
  · by_cases h2 : w = 11
    · rw [if_neg h1, if_pos h2, if_pos (Or.inr h2)]
    · rw [if_neg h1, if_neg h2, if_neg (show ¬ (w = 10 ∨ w = 11) by omega)]
/-- one instruction: both write the same -/
theorem wo_N {f gp C fa : Nat → Int32} {base kn : Int32} {to : Int32} {j e w a b c n m : Nat} (hj : j < n) (hn : n ≤ 60) (hB : By gp (4 * j) w a b c) (hF : By f (4 * j) w a b c) (hw : w < 16 ∨ w = 18) (he : e + szN (mW gp j) ≤ 1024) (hb : isBase base) (hm : m < 65536) (hto : isP w = true → sp_X2_newAddress fa kn (nI (256 * b + c)) = to ∧ ∃ mt : Nat, mt < 65536 ∧ to = nI mt) :
    sp_X2_writeOne_cells6 fa base kn (nI e) 240 f 1024 C (nI (4 * j)) (nI m) = dW gp base (nI m) to j e C := by
  have ra : sp_X0_a 240 f (nI (4 * j)) = nI a := by rw [rd_a (by omega) (by decide), hF.1.2.1]
  have rb : sp_X0_b 240 f (nI (4 * j)) = nI b := by unfold sp_X0_b; rw [rd_2 (by omega) (by decide), hF.1.2.2.1]
  have rc : sp_X0_c 240 f (nI (4 * j)) = nI c := by unfold sp_X0_c; rw [rd_3 (by omega) (by decide), hF.1.2.2.2]
  have rw' : sp_X0_word 240 f (nI (4 * j)) = nI w := by rw [rd_w (by omega) (by decide), hF.1.1]
  have rn := rd_n (f := f) (k := 4 * j) (N := 240) (by omega) (by decide) hF.1.2.2.1 hF.1.2.2.2
  have h0 := hB.2.1
  have hM := mMn_N gp j hB.1.1 h0
  have hs := mMn_sz gp j
  rw [hs, hM] at he
  unfold sp_X2_writeOne_cells6 dW sp_X2_append_cells sp_X2_appendN_cells sp_X2_append_end sp_X2_appendN_end
  rw [ra, rb, rc, rw', rn, hB.1.1, hB.1.2.1, hB.1.2.2.1, hB.1.2.2.2, hP6 h0, hM]
  clear hM hs
  have g10 : nI w = 10 ↔ w = 10 := q_i (b := 10) rfl (by omega) (by decide)
  have g11 : nI w = 11 ↔ w = 11 := q_i (b := 11) rfl (by omega) (by decide)
  have g12 : nI w = 12 ↔ w = 12 := q_i (b := 12) rfl (by omega) (by decide)
  have g13 : nI w = 13 ↔ w = 13 := q_i (b := 13) rfl (by omega) (by decide)
  have g14 : nI w = 14 ↔ w = 14 := q_i (b := 14) rfl (by omega) (by decide)
  have g15 : nI w = 15 ↔ w = 15 := q_i (b := 15) rfl (by omega) (by decide)
  have g16 : nI w = 16 ↔ w = 16 := q_i (b := 16) rfl (by omega) (by decide)
  have g17 : nI w = 17 ↔ w = 17 := q_i (b := 17) rfl (by omega) (by decide)
  have g18 : nI w = 18 ↔ w = 18 := q_i (b := 18) rfl (by omega) (by decide)
  have k1 : ((1023 : Int32) >>> (8 &&& 31)) &&& 255 = 3 := by decide
  have k2 : (1023 : Int32) &&& 255 = 255 := by decide
  rw [k1, k2, (base_N hb).1, (base_N hb).2.1, (hi_N hm).1, (hi_N hm).2.1]
  simp only [g10, g11, g12, g13, g14, g15, g16, g17, g18]
  by_cases w4 : w = 10 ∨ w = 11
  · rw [if_pos w4] at he
    simp only [if_pos w4]
    rw [if_pos (show nI 4 = 4 from rfl), e_4, e_4, e_4, wc_N (by omega), wc_N (by omega), wc_N (by omega), wc_N (by omega)]
    by_cases w10 : w = 10
    · rw [if_pos w10]
    · rw [if_neg w10, if_pos (by omega)]
  · rw [if_neg w4] at he
    simp only [if_neg w4]
    rw [if_neg (by omega), if_neg (by omega)]
    by_cases w14 : w = 14
    · rw [if_pos w14] at he
      simp only [if_pos w14]
      rw [if_neg (by omega), if_neg (by omega), if_neg (show ¬ nI 3 = 4 by decide), if_pos (show nI 3 = 3 from rfl), e_4, e_4, wc_N (by omega), wc_N (by omega), wc_N (by omega)]
    · rw [if_neg w14] at he
      simp only [if_neg w14]
      rw [if_neg (show ¬ nI 1 = 4 by decide), if_neg (show ¬ nI 1 = 3 by decide), wc_N (by omega), wc_N (by omega), wc_N (by omega)]
      by_cases hp : isP w = true
      · obtain ⟨t0, mt, hmt, t1⟩ := hto hp
        rw [t0, t1, (hi_N hmt).1, (hi_N hmt).2.1, hp]
        rw [if_neg (show ¬ (if true = true then (1 : Int32) else 0) = 0 by decide)]
        have hp' : w = 12 ∨ w = 13 ∨ w = 15 ∨ w = 18 := of_decide_eq_true hp
        by_cases w18 : w = 18
        · rw [if_neg (by omega), if_neg (by omega), if_neg (by omega), if_neg (by omega), if_neg (by omega), if_pos w18, if_pos w18]
        · rw [if_neg w18, if_neg w18]
          by_cases w12 : w = 12
          · rw [if_pos w12]
          · by_cases w13 : w = 13
            · rw [if_neg w12, if_pos w13]
            · rw [if_neg w12, if_neg w13, if_pos (by omega)]
      · have hp' : ¬ (w = 12 ∨ w = 13 ∨ w = 15 ∨ w = 18) := fun q => hp (decide_eq_true q)
        have hpf : isP w = false := by simpa using hp
        rw [hpf, if_pos (show (if false = true then (1 : Int32) else 0) = 0 from rfl), if_neg (by omega), if_neg (by omega), if_neg (by omega), if_neg (by omega), if_neg (by omega), if_neg (by omega)]
