/-! MY PURE ROWS 2: the verifier -/
theorem gs_T : ∀ b : Fin 65, (sp_X4_isGoodSize (nI (16 * b.val)) = 0 ↔ (nI b.val = 0 ∨ ¬ nI b.val &&& nI (b.val - 1) = 0)) := by decide +kernel
theorem is_N {f gb : Nat → Int32} {M m : Nat} {w z : Int32} (e : ∀ x, x < M → f x = gb x) (hm : m + 3 < M) (hM : M ≤ 1024) : sp_X0_is 1024 f (nI m) w 6 z = sp_X6_isThere gb m w z := by
  unfold sp_X0_is sp_X6_isThere sp_X0_n
  rw [rd_w (by omega) (by decide), rd_a (by omega) (by decide), rd_2 (by omega) (by decide), rd_3 (by omega) (by decide), e _ (by omega), e _ (by omega), e _ (by omega), e _ (by omega)]
theorem s_8 {k : Nat} (h : 8 ≤ k) : nI k - 8 = nI (k - 8) := pk_sub (b := 8) h
theorem s_4 {k : Nat} (h : 4 ≤ k) : nI k - 4 = nI (k - 4) := pk_sub (b := 4) h
theorem s_16 {k : Nat} (h : 16 ≤ k) : nI k - 16 = nI (k - 16) := pk_sub (b := 16) h
theorem rem16 {k : Nat} (h : k < 2 ^ 31) : nI k - nI k / 16 * 16 = nI (k % 16) := pk_rem (d := 16) h (by decide) (by decide)
theorem tk_N {f gb : Nat → Int32} {n k : Nat} {base : Int32} (hn : n ≤ 64) (hk : k < 4 * n) (hP : Pb gb) (e : ∀ x, x < 16 * n → f x = gb x) : sp_X4_isTaken 1024 f (nI (16 * n)) (nI (4 * k)) base = sp_X6_isTaken gb base n k := by
  obtain ⟨w, a, b, c, hB⟩ := hP.by4 (4 * k)
  have hF := hB.to (f := f) e (by omega)
  have e0 := hB.1.1
  have e1 := hB.1.2.1
  have e2 := hB.1.2.2.1
  have e3 := hB.1.2.2.2
  obtain ⟨h0, h1, h2, h3⟩ := hB.2
  have hm : 4 * k % 16 < 16 := Nat.mod_lt _ (by decide)
  have c1 : (if nI (4 * k % 16) < 8 then (0 : Int32) else if sp_X0_is 1024 f (nI (4 * k) - 8) 16 6 1023 = 0 then 0 else if sp_X0_is 1024 f (nI (4 * k) - 4) 17 6 base = 0 then 0 else 1) = (if nI (4 * k % 16) < 8 then 0 else if sp_X6_isThere gb (4 * k - 8) 16 1023 = 0 then 0 else if sp_X6_isThere gb (4 * k - 4) 17 base = 0 then 0 else 1) := by
    by_cases h8 : 4 * k % 16 < 8
    · rw [if_pos ((q_lt (x := 8) (b := 8) rfl (by omega) (by decide)).mpr h8), if_pos ((q_lt (x := 8) (b := 8) rfl (by omega) (by decide)).mpr h8)]
    · rw [s_8 (by omega), s_4 (by omega), is_N e (by omega) (by omega), is_N e (by omega) (by omega)]
  have c2 : (if nI (4 * k % 16) < 4 then (0 : Int32) else if sp_X0_is 1024 f (nI (4 * k) - 4) 16 6 (nI (16 * n) - 16) = 0 then 0 else 1) = (if nI (4 * k % 16) < 4 then 0 else if sp_X6_isThere gb (4 * k - 4) 16 (nI (16 * n - 16)) = 0 then 0 else 1) := by
    by_cases h8 : 4 * k % 16 < 4
    · rw [if_pos ((q_lt (x := 4) (b := 4) rfl (by omega) (by decide)).mpr h8), if_pos ((q_lt (x := 4) (b := 4) rfl (by omega) (by decide)).mpr h8)]
    · rw [s_4 (by omega), s_16 (by omega), is_N e (by omega) (by omega)]
  have r01 : ∀ x : Int32, x = 0 ∨ x = 1 → (if x = 0 then (0 : Int32) else 1) = x := by
    intro x hx
    rcases hx with rfl | rfl <;> rfl
  unfold sp_X4_isTaken sp_X4_isBehindRegionMask sp_X4_isBehindCodeMask sp_X4_leadsToBundle sp_X0_has sp_X0_length sp_X5_isBundleStart
  rw [rem16 (by omega), c1, c2, rd_w (by omega) (by decide), rd_n (by omega) (by decide) hF.1.2.2.1 hF.1.2.2.2, hF.1.1]
  have ra : sp_X0_a 1024 f (nI (4 * k)) = nI a := by rw [rd_a (by omega) (by decide), hF.1.2.1]
  have rb : sp_X0_b 1024 f (nI (4 * k)) = nI b := by unfold sp_X0_b; rw [rd_2 (by omega) (by decide), hF.1.2.2.1]
  have rc : sp_X0_c 1024 f (nI (4 * k)) = nI c := by unfold sp_X0_c; rw [rd_3 (by omega) (by decide), hF.1.2.2.2]
  rw [ra, rb, rc]
  unfold sp_X6_isTaken
  rw [e0, e1, e2, e3, n_N, aR_N h0 h1 h2 h3, rem16 (by omega)]
  by_cases hw : w < 18
  · rw [if_neg (fun q => absurd ((q_gt (x := 17) (b := 17) rfl (by omega) (by decide)).mp q) (by omega)), if_neg (fun q => absurd ((q_ge (x := 18) (b := 18) rfl (by omega) (by decide)).mp q) (by omega)), hR_N (by omega) (by decide) hF (by omega)]
    cases okR w a b c
    · rfl
    · rw [if_neg (show ¬ (if true = true then (1 : Int32) else 0) = 0 by decide), if_neg (show ¬ (if true = true then (1 : Int32) else 0) = 0 by decide)]
      have hpos : ¬ nI (256 * b + c) < 0 := nI_pos (by omega)
      rw [if_neg hpos]
      generalize nI (256 * b + c) = m
      generalize nI ((256 * b + c) % 16) = m16
      have q1 : ∀ x : Int32, x = (if nI (4 * k % 16) < 8 then 0 else if sp_X6_isThere gb (4 * k - 8) 16 1023 = 0 then 0 else if sp_X6_isThere gb (4 * k - 4) 17 base = 0 then 0 else 1) → x = 0 ∨ x = 1 := fun x hx => by
        rw [hx]
        exact k_if01 (Or.inl rfl) (k_if01 (Or.inl rfl) (k_if01 (Or.inl rfl) (Or.inr rfl)))
      have q2 : ∀ x : Int32, x = (if nI (4 * k % 16) < 4 then 0 else if sp_X6_isThere gb (4 * k - 4) 16 (nI (16 * n - 16)) = 0 then 0 else 1) → x = 0 ∨ x = 1 := fun x hx => by
        rw [hx]
        exact k_if01 (Or.inl rfl) (k_if01 (Or.inl rfl) (Or.inr rfl))
      generalize hX1 : (if nI (4 * k % 16) < 8 then (0 : Int32) else if sp_X6_isThere gb (4 * k - 8) 16 1023 = 0 then 0 else if sp_X6_isThere gb (4 * k - 4) 17 base = 0 then 0 else 1) = X1
      generalize hX2 : (if nI (4 * k % 16) < 4 then (0 : Int32) else if sp_X6_isThere gb (4 * k - 4) 16 (nI (16 * n - 16)) = 0 then 0 else 1) = X2
      rw [r01 X1 (q1 X1 hX1.symm), r01 X2 (q2 X2 hX2.symm)]
      by_cases w12 : nI w = 12
      · simp [w12]
      · by_cases w13 : nI w = 13
        · simp [w13]
        · by_cases w15 : nI w = 15
          · simp only [w15]
            by_cases hz : m16 = 0 <;> by_cases hy : nI (16 * n) ≤ m <;> simp [hz, hy]
          · by_cases w10 : nI w = 10
            · simp [w10]
            · by_cases w11 : nI w = 11
              · simp [w11]
              · by_cases w14 : nI w = 14
                · simp [w14]
                · simp [w12, w13, w15, w10, w11, w14]
  · rw [if_pos ((q_gt (x := 17) (b := 17) rfl (by omega) (by decide)).mpr (by omega)), if_pos ((q_ge (x := 18) (b := 18) rfl (by omega) (by decide)).mpr (by omega))]
theorem R_verify {f gb : Nat → Int32} {n : Nat} {base : Int32} (hn : n ≤ 64) (hP : Pb gb) (e : ∀ x, x < 16 * n → f x = gb x) : fun_fv 1024 f n base = fun_vf gb base n := by
  unfold fun_fv fun_vf
  have hg := gs_T ⟨n, by omega⟩
  have hf : fv (fun x => sp_X4_isTaken 1024 f (nI (16 * n)) (nI (4 * x)) base) (4 * n) 0 = fv (fun x => sp_X6_isTaken gb base n x) (4 * n) 0 := fv_c (4 * n) 0 (fun x _ hx => tk_N hn (by omega) hP e)
  rw [hf]
  by_cases h0 : nI n = 0
  · rw [if_pos (hg.mpr (Or.inl h0)), if_pos h0]
  · by_cases h1 : nI n &&& nI (n - 1) = 0
    · rw [if_neg (fun q => by rcases hg.mp q with z | z; exact h0 z; exact z h1), if_neg h0, if_pos h1]
    · rw [if_pos (hg.mpr (Or.inr h1)), if_neg h0, if_neg h1]
