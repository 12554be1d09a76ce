/-! MY PURE ROWS 4: rewriting, all of it -/
theorem lpN_c {W V d q : Nat → Int32} : ∀ j, (∀ x, x < j → W x = V x ∧ d x = q x) → lpN W d j = lpN V q j
  | 0, _ => rfl
  | j + 1, h => by
    show fwN (W j) (alN (d j) (lpN W d j)) + szN (W j) = fwN (V j) (alN (q j) (lpN V q j)) + szN (V j)
    rw [lpN_c j (fun x hx => h x (by omega)), (h j (by omega)).1, (h j (by omega)).2]
theorem ml_N {f gp fl : Nat → Int32} {n : Nat} (hn : n ≤ 60) (hP : Pb gp) (e : ∀ x, x < 4 * n → f x = gp x) : ∀ j, j ≤ n → ∀ x, x < 60 → ml 240 f j fl x = led6 gp (nI x) j
  | 0, _, x, hx => by
    show (if 0 ≤ x ∧ x < 60 then (0 : Int32) else fl x) = 0
    rw [if_pos ⟨Nat.zero_le x, hx⟩]
  | j + 1, hj, x, hx => by
    have ih := ml_N (fl := fl) hn hP e j (by omega) x hx
    obtain ⟨w, a, b, c, hB⟩ := hP.by4 (4 * j)
    have hF := hB.to (f := f) e (by omega)
    have h0 := hB.2.1
    have h2 := hB.2.2.2.1
    have h3 := hB.2.2.2.2
    show mlS 240 f j (ml 240 f j fl) x = ldS gp (nI x) j (led6 gp (nI x) j)
    unfold mlS ldS
    rw [rd_w (by omega) (by decide), rd_n (by omega) (by decide) hF.1.2.2.1 hF.1.2.2.2, hF.1.1, hB.1.1, hB.1.2.2.1, hB.1.2.2.2, n_N, hP5 h0, hP6 h0]
    rw [if_neg (nI_pos (n := 256 * b + c) (by omega)), nI_clamp (n := 256 * b + c) (by omega)]
    have hx2 : nI (256 * b + c) = nI x ↔ 256 * b + c = x := nI_eq (by omega) (by omega)
    have h60 : nI 60 ≤ nI (256 * b + c) ↔ 60 ≤ 256 * b + c := nI_leI (by decide) (by omega)
    simp only [hx2, h60]
    generalize 256 * b + c = m
    cases isP w
    · rw [if_pos (show (if false = true then (1 : Int32) else 0) = 0 from rfl), if_pos (show (if false = true then (1 : Int32) else 0) = 0 from rfl), ih]
      rcases led6_b gp (nI x) j with q | q <;> rw [q] <;> rfl
    · rw [if_neg (show ¬ (if true = true then (1 : Int32) else 0) = 0 by decide), if_neg (show ¬ (if true = true then (1 : Int32) else 0) = 0 by decide)]
      by_cases h6 : 60 ≤ m
      · rw [if_pos h6, if_neg (show ¬ m = x by omega), ih]
        rcases led6_b gp (nI x) j with q | q <;> rw [q] <;> rfl
      · rw [if_neg h6]
        show (if x = m then (1 : Int32) else ml 240 f j fl x) = _
        by_cases hm : m = x
        · rw [if_pos hm.symm, if_pos hm]
          rcases led6_b gp (nI x) j with q | q <;> rw [q] <;> rfl
        · rw [if_neg (Ne.symm hm), if_neg hm, ih]
          rcases led6_b gp (nI x) j with q | q <;> rw [q] <;> rfl
section RW
variable {f gp fl : Nat → Int32} {n : Nat}
theorem tW_N (hn : n ≤ 60) (e : ∀ x, x < 4 * n → f x = gp x) : ∀ x, x < n → tW f x = mW gp x := by
  intro x hx
  unfold tW mW
  rw [rd_w (by omega) (by decide), e _ (by omega)]
theorem tL_N (hn : n ≤ 60) (hP : Pb gp) (e : ∀ x, x < 4 * n → f x = gp x) : ∀ x, x < n → tL f fl n x = mD gp n x := fun x hx => ml_N hn hP e n (Nat.le_refl n) x (by omega)
theorem tE_N (hn : n ≤ 60) (hP : Pb gp) (e : ∀ x, x < 4 * n → f x = gp x) {j : Nat} (hj : j ≤ n) : tE f fl n j = mE gp n j := lpN_c j (fun x hx => ⟨tW_N hn e x (by omega), tL_N hn hP e x (by omega)⟩)
theorem tAl_N (hn : n ≤ 60) (hP : Pb gp) (e : ∀ x, x < 4 * n → f x = gp x) {j : Nat} (hj : j < n) : alN (tL f fl n j) (tE f fl n j) = mA gp n j := by
  unfold mA
  rw [tE_N hn hP e (by omega), tL_N hn hP e j hj]
theorem tK_N (hn : n ≤ 60) (hP : Pb gp) (e : ∀ x, x < 4 * n → f x = gp x) {j : Nat} (hj : j < n) : tK f fl n j = mK gp n j := by
  unfold tK mK mF
  rw [tAl_N hn hP e hj, tE_N hn hP e (by omega), tW_N hn e j hj]
theorem tB_E (hn : n ≤ 60) (hP : Pb gp) (e : ∀ x, x < 4 * n → f x = gp x) : tB f fl n = rB (mE gp n n) := by
  unfold tB rB
  rw [tE_N hn hP e (Nat.le_refl n)]
theorem nA_N {fp fa : Nat → Int32} (hn : n ≤ 60) (hP : Pb gp) (e : ∀ x, x < 4 * n → f x = gp x) {j : Nat} (hj : j < n) : sp_X2_newAddress (tA f fl fp fa n) (nI n) (nI j) = nI (mA gp n j) := by
  have h := na_N 240 f (tL f fl n) fp fa hj hn
  rw [← tAl_N (fl := fl) hn hP e hj]
  exact h
theorem tA_N {fp fa gn : Nat → Int32} (hn : n ≤ 60) (hP : Pb gp) (e : ∀ x, x < 4 * n → f x = gp x) {x : Nat} (hx : x < n) : tA f fl fp fa n x = na6 gp n (na6 gp n gn n) n x := by
  have h := nA_N (fl := fl) (fp := fp) (fa := fa) hn hP e hx
  unfold sp_X2_newAddress at h
  rw [if_neg (nI_pos (by omega)), if_neg (fun q => absurd ((nI_leI (by omega) (by omega)).mp q) (by omega)), if_neg (fun q => absurd ((nI_leI (by omega) (by omega)).mp q) (by omega)), nI_clamp (by omega)] at h
  rw [h]
  unfold na6
  rw [if_pos hx]
end RW
/-- where each instruction that names a place leads -/
def tT6 (gp : Nat → Int32) : Nat → Nat := fun x => (256 * gp (4 * x + 2) + gp (4 * x + 3)).toNatClampNeg
theorem snd_all {gp : Nat → Int32} {n : Nat} (hn : n ≤ 60) (h : fun_fw gp n = -1) {j w a b c : Nat} (hj : j < n) (hB : By gp (4 * j) w a b c) : (w < 16 ∨ w = 18) ∧ (isP w = true → 256 * b + c < n) := by
  unfold fun_fw at h
  rw [if_neg (by omega)] at h
  have h1 := fu_all n 0 (by omega) h j (by omega) (by omega)
  have h1' : sp_X6_isSound gp n j ≠ 0 := h1
  rw [s6_N hn hj hB] at h1'
  have h2 : snd n w a b c = true := by
    cases hs : snd n w a b c
    · rw [hs] at h1'
      exact absurd rfl h1'
    · rfl
  have h3 := of_decide_eq_true h2
  exact ⟨h3.1, h3.2.2.2⟩
theorem tT_N {gp : Nat → Int32} {j w a b c : Nat} (hB : By gp (4 * j) w a b c) : tT6 gp j = 256 * b + c := by
  have h2 := hB.2.2.2.1
  have h3 := hB.2.2.2.2
  unfold tT6
  rw [hB.1.2.2.1, hB.1.2.2.2, n_N, nI_clamp (by omega)]
theorem tT_0 {gp : Nat → Int32} {n : Nat} (hn : n ≤ 60) (hP : Pb gp) : fun_fw gp n = -1 → ∀ x, x < n → ¬ sp_X6_isPlace (gp (4 * x)) = 0 → 256 * gp (4 * x + 2) + gp (4 * x + 3) = nI (tT6 gp x) ∧ tT6 gp x < 60 := by
  intro h x hx hp
  obtain ⟨w, a, b, c, hB⟩ := hP.by4 (4 * x)
  rw [tT_N hB, hB.1.2.2.1, hB.1.2.2.2, n_N]
  rw [hB.1.1, hP6 hB.2.1] at hp
  have hp2 : isP w = true := by
    cases hs : isP w
    · rw [hs] at hp
      exact absurd rfl hp
    · rfl
  exact ⟨rfl, by have := (snd_all hn h hx hB).2 hp2; omega⟩
theorem dr_s (gp : Nat → Int32) (n : Nat) (xB mk : Int32) (gn : Nat → Int32) (T : Nat → Nat) (j : Nat) (g : Nat → Int32) : dr6 gp n xB mk gn T (j + 1) g = dW gp xB mk (na6 gp n gn (j + 1) (T j)) j (mF gp n j) (fl6 (mE gp n j) (mK gp n j) (dr6 gp n xB mk gn T j g)) := by
  show dW gp xB mk (na6 gp n gn (j + 1) (T j)) j (mF gp n j) (mG2 gp n j (mG1 gp n j (dr6 gp n xB mk gn T j g))) = _
  rw [mG_N]
theorem wa_N {f gp fl fp fa gn C : Nat → Int32} {n m : Nat} {base : Int32} (hn : n ≤ 60) (hP : Pb gp) (e : ∀ x, x < 4 * n → f x = gp x) (hs : fun_fw gp n = -1) (hb : isBase base) (hm : m < 65536) : ∀ j, j ≤ n → wa (tA f fl fp fa n) base (nI n) 240 f 1024 (nI m) (tE f fl n) (tK f fl n) j C = dr6 gp n base (nI m) (na6 gp n gn n) (tT6 gp) j C
  | 0, _ => rfl
  | j + 1, hj => by
    have ih := wa_N (fl := fl) (fp := fp) (fa := fa) (gn := gn) (C := C) hn hP e hs hb hm j (by omega)
    obtain ⟨w, a, b, c, hB⟩ := hP.by4 (4 * j)
    have hF := hB.to (f := f) e (by omega)
    have h1 := snd_all hn hs (by omega) hB
    have hEo := mE_ok gp n j
    have hFo := mF_ok gp n j
    have hKe := mK_e gp n j
    have hsz := szN_is (mW gp j)
    rw [dr_s, ← ih]
    show sp_X2_writeOne_cells6 (tA f fl fp fa n) base (nI n) (nI (tE f fl n j + 4 * tK f fl n j)) 240 f 1024 (fil 1024 (tE f fl n j) (tK f fl n j) (wa (tA f fl fp fa n) base (nI n) 240 f 1024 (nI m) (tE f fl n) (tK f fl n) j C)) (nI (4 * j)) (nI m) = _
    rw [tE_N hn hP e (by omega), tK_N hn hP e (by omega), hKe, fil_N _ (by omega)]
    refine wo_N (by omega) hn hB hF h1.1 (by omega) hb hm (fun hp => ?_)
    have hlt := h1.2 hp
    have hAo := mA_ok gp n (256 * b + c)
    have e1 : na6 gp n (na6 gp n gn n) (j + 1) (tT6 gp j) = nI (mA gp n (256 * b + c)) := by
      rw [tT_N hB]
      unfold na6
      by_cases hq : 256 * b + c < j + 1
      · rw [if_pos hq]
      · rw [if_neg hq, if_pos hlt]
    rw [e1]
    exact ⟨nA_N hn hP e hlt, mA gp n (256 * b + c), by omega, rfl⟩
/-- what one instruction writes: agreeing below, nothing behind, bytes -/
theorem dW_ag {gp g1 g2 : Nat → Int32} {xB mk to : Int32} {j e : Nat} (h : ∀ x, x < e → g1 x = g2 x) : ∀ x, x < e + szN (mW gp j) → dW gp xB mk to j e g1 x = dW gp xB mk to j e g2 x := by
  have hs := mMn_sz gp j
  unfold dW
  by_cases h4 : nI (mMn gp j) = 4
  · have : mMn gp j = 4 := by
      rcases mMn_is gp j with q | q | q
      · exact q
      · rw [q] at h4; exact absurd h4 (by decide)
      · rw [q] at h4; exact absurd h4 (by decide)
    rw [if_pos h4, if_pos h4]
    intro x hx
    exact wd_ag (wd_ag (wd_ag (wd_ag h))) x (by omega)
  · rw [if_neg h4, if_neg h4]
    by_cases h3 : nI (mMn gp j) = 3
    · have : mMn gp j = 3 := by
        rcases mMn_is gp j with q | q | q
        · rw [q] at h4; exact absurd rfl h4
        · exact q
        · rw [q] at h3; exact absurd h3 (by decide)
      rw [if_pos h3, if_pos h3]
      intro x hx
      exact wd_ag (wd_ag (wd_ag h)) x (by omega)
    · have : mMn gp j = 1 := by
        rcases mMn_is gp j with q | q | q
        · rw [q] at h4; exact absurd rfl h4
        · rw [q] at h3; exact absurd rfl h3
        · exact q
      rw [if_neg h3, if_neg h3]
      intro x hx
      split
      · exact wd_ag h x (by omega)
      · split
        · exact wd_ag h x (by omega)
        · exact wd_ag h x (by omega)
theorem dW_out {gp g : Nat → Int32} {xB mk to : Int32} {j e x : Nat} (hx : e + szN (mW gp j) ≤ x) : dW gp xB mk to j e g x = g x := by
  have hs := mMn_sz gp j
  unfold dW
  by_cases h4 : nI (mMn gp j) = 4
  · have : mMn gp j = 4 := by
      rcases mMn_is gp j with q | q | q
      · exact q
      · rw [q] at h4; exact absurd h4 (by decide)
      · rw [q] at h4; exact absurd h4 (by decide)
    rw [if_pos h4, wd_out (by omega), wd_out (by omega), wd_out (by omega), wd_out (by omega)]
  · rw [if_neg h4]
    by_cases h3 : nI (mMn gp j) = 3
    · have : mMn gp j = 3 := by
        rcases mMn_is gp j with q | q | q
        · rw [q] at h4; exact absurd rfl h4
        · exact q
        · rw [q] at h3; exact absurd h3 (by decide)
      rw [if_pos h3, wd_out (by omega), wd_out (by omega), wd_out (by omega)]
    · have : mMn gp j = 1 := by
        rcases mMn_is gp j with q | q | q
        · rw [q] at h4; exact absurd rfl h4
        · rw [q] at h3; exact absurd rfl h3
        · exact q
      rw [if_neg h3]
      split
      · exact wd_out (by omega)
      · split
        · exact wd_out (by omega)
        · exact wd_out (by omega)
theorem dW_Pb {gp g : Nat → Int32} {xB to : Int32} {m j e : Nat} (hP : Pb gp) (hg : Pb g) (hb : isBase xB) (hm : m < 65536) (hto : ¬ sp_X6_isPlace (gp (4 * j)) = 0 → ∃ mt : Nat, mt < 65536 ∧ to = nI mt) : Pb (dW gp xB (nI m) to j e g) := by
  have i6 : isB 6 := isB_k 6 rfl (by decide)
  have i0 : isB 0 := isB_k 0 rfl (by decide)
  have i9 : isB 9 := isB_k 9 rfl (by decide)
  have i16 : isB 16 := isB_k 16 rfl (by decide)
  have i17 : isB 17 := isB_k 17 rfl (by decide)
  have i14 : isB 14 := isB_k 14 rfl (by decide)
  have i3 : isB 3 := isB_k 3 rfl (by decide)
  have i1 : isB 1 := isB_k 1 rfl (by decide)
  have i255 : isB 255 := isB_k 255 rfl (by decide)
  unfold dW
  split
  · exact wd_Pb (wd_Pb (wd_Pb (wd_Pb hg i9 i6 (hP _) (hP _)) i16 i6 i3 i255) i17 i6 (base_N hb).2.2 i0) (hP _) (hP _) i6 i0
  · split
    · exact wd_Pb (wd_Pb (wd_Pb hg i6 i6 (hP _) (hP _)) i16 i6 (hi_N hm).2.2.1 (hi_N hm).2.2.2) i14 i6 i0 i0
    · by_cases hp : sp_X6_isPlace (gp (4 * j)) = 0
      · rw [if_pos hp]
        exact wd_Pb hg (hP _) (hP _) (hP _) (hP _)
      · obtain ⟨mt, hmt, e1⟩ := hto hp
        rw [if_neg hp, e1]
        split
        · exact wd_Pb hg i1 (hP _) (hi_N hmt).2.2.1 (hi_N hmt).2.2.2
        · exact wd_Pb hg (hP _) (hP _) (hi_N hmt).2.2.1 (hi_N hmt).2.2.2
theorem dr_ag {gp gn g1 g2 : Nat → Int32} {n : Nat} {xB mk : Int32} {T : Nat → Nat} : ∀ j, ∀ x, x < mE gp n j → dr6 gp n xB mk gn T j g1 x = dr6 gp n xB mk gn T j g2 x
  | 0 => fun x hx => absurd hx (Nat.not_lt_zero x)
  | j + 1 => fun x hx => by
    rw [dr_s, dr_s]
    refine dW_ag (fun y hy => fl6_ag (dr_ag j) _ y ?_) x ?_
    · have := mK_e gp n j
      omega
    · rw [← mE_s]
      exact hx
theorem dr_out {gp gn g : Nat → Int32} {n : Nat} {xB mk : Int32} {T : Nat → Nat} : ∀ j, ∀ x, mE gp n j ≤ x → dr6 gp n xB mk gn T j g x = g x
  | 0 => fun _ _ => rfl
  | j + 1 => fun x hx => by
    rw [mE_s] at hx
    have h1 := mK_e gp n j
    have h2 := mE_ok gp n j
    have h3 := mF_ok gp n j
    have h4 := mA_ok gp n j
    rw [dr_s, dW_out hx, fl6_out _ x (by omega), dr_out j x (by omega)]
theorem dr_Pb {gp gn g : Nat → Int32} {n m : Nat} {xB : Int32} (hn : n ≤ 60) (hP : Pb gp) (hg : Pb g) (hs : fun_fw gp n = -1) (hb : isBase xB) (hm : m < 65536) : ∀ j, j ≤ n → Pb (dr6 gp n xB (nI m) (na6 gp n gn n) (tT6 gp) j g)
  | 0, _ => hg
  | j + 1, hj => by
    rw [dr_s]
    refine dW_Pb hP (fl6_Pb (dr_Pb hn hP hg hs hb hm j (by omega)) _) hb hm (fun hp => ?_)
    obtain ⟨w, a, b, c, hB⟩ := hP.by4 (4 * j)
    have h1 := snd_all hn hs (by omega) hB
    rw [hB.1.1, hP6 hB.2.1] at hp
    have hp2 : isP w = true := by
      cases hs : isP w
      · rw [hs] at hp
        exact absurd rfl hp
      · rfl
    have hlt := h1.2 hp2
    have hAo := mA_ok gp n (256 * b + c)
    refine ⟨mA gp n (256 * b + c), by omega, ?_⟩
    rw [tT_N hB]
    unfold na6
    by_cases hq : 256 * b + c < j + 1
    · rw [if_pos hq]
    · rw [if_neg hq, if_pos hlt]
/-- the bytes of the reference behind rewriting -/
def rY (gp : Nat → Int32) (n : Nat) (xB : Int32) (gn gd gb : Nat → Int32) : Nat → Int32 := by6 (mE gp n n + 4) (sp_X6_write_draft (dr6 gp n xB (nI (16 * rB (mE gp n n) - 16)) (na6 gp n gn n) (tT6 gp) n (sp_X6_write_draft (dr6 gp n xB 0 gn (tT6 gp) n gd) (mE gp n n) 0 0 0 0)) (mE gp n n) 0 0 0 0) gb (16 * rB (mE gp n n))
theorem rB_ge {e : Nat} (h : e ≤ 960) : e + 1 ≤ 16 * rB e := by
  unfold rB p2N
  split
  · omega
  · split
    · omega
    · split
      · omega
      · split
        · omega
        · split
          · omega
          · split
            · omega
            · omega
theorem rw_N {f gp fl fp fa gn gd gb f2 : Nat → Int32} {n : Nat} {base : Int32} (hn : n ≤ 60) (hP : Pb gp) (hQ : Pb gb) (e : ∀ x, x < 4 * n → f x = gp x) (hs : fun_fw gp n = -1) (hb : isBase base) :
    (∀ x, x < 16 * rB (mE gp n n) → tC base f fl fp fa n f2 x = rY gp n base gn gd gb x) ∧ (∀ x, 16 * rB (mE gp n n) ≤ x → x < 1024 → tC base f fl fp fa n f2 x = 0) ∧ Pb (rY gp n base gn gd gb) := by
  have hE := mE_ok gp n n
  have hr := rB_le (mE gp n n)
  have hg := rB_ge (e := mE gp n n) (by omega)
  have hmk : sp_X0_length (nI (16 * tB f fl n)) - 16 = nI (16 * rB (mE gp n n) - 16) := by
    unfold sp_X0_length
    rw [tB_E hn hP e, s_16 (by omega)]
  have hC : tC base f fl fp fa n f2 = dr6 gp n base (nI (16 * rB (mE gp n n) - 16)) (na6 gp n gn n) (tT6 gp) n (kz (16 * tB f fl n) 1024 (kz 0 1024 f2)) := by
    unfold tC
    rw [hmk]
    exact wa_N hn hP e hs hb (by omega) n (Nat.le_refl n)
  have hZ : ∀ x, x < 1024 → kz (16 * tB f fl n) 1024 (kz 0 1024 f2) x = 0 := by
    intro x hx
    unfold kz
    rw [if_pos (show 0 ≤ x ∧ x < 1024 from ⟨Nat.zero_le x, hx⟩)]
    exact ite_self 0
  have hrm : 16 * rB (mE gp n n) ≤ 1024 := by omega
  have hY : ∀ x, x < 16 * rB (mE gp n n) → rY gp n base gn gd gb x = (if x < mE gp n n then dr6 gp n base (nI (16 * rB (mE gp n n) - 16)) (na6 gp n gn n) (tT6 gp) n (fun _ => 0) x else 0) := by
    intro x hx
    unfold rY by6
    rw [if_pos hx]
    by_cases h1 : x < mE gp n n
    · rw [if_pos (by omega), if_pos h1, wd_out (Or.inl h1)]
      exact dr_ag n x h1
    · rw [if_neg h1]
      by_cases h2 : x < mE gp n n + 4
      · rw [if_pos h2, wd_x]
        split
        · rfl
        · split
          · rfl
          · split
            · rfl
            · split
              · rfl
              · omega
      · rw [if_neg h2]
  refine ⟨fun x hx => ?_, fun x h1 h2 => ?_, fun x => ?_⟩
  · rw [hC, hY x hx]
    by_cases h1 : x < mE gp n n
    · rw [if_pos h1]
      exact dr_ag n x h1
    · rw [if_neg h1, dr_out n x (by omega)]
      exact hZ x (by omega)
  · rw [hC, dr_out n x (by omega)]
    exact hZ x h2
  · by_cases hx : x < 16 * rB (mE gp n n)
    · rw [hY x hx]
      split
      · exact dr_Pb hn hP (fun _ => ⟨0, by decide, rfl⟩) hs hb (by omega) n (Nat.le_refl n) x
      · exact ⟨0, by decide, rfl⟩
    · unfold rY by6
      rw [if_neg hx]
      exact hQ x
