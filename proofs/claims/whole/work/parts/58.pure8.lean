/-! MY PURE ROWS 8: the two states, call by call -/
def RelP (f : Nat → Int32) (n : Nat) (f2 : Nat → Int32) (b : Nat) (fa : Nat → Int32) (base : Int32) (k : Nat) (gp gn gb : Nat → Int32) : Prop :=
  n ≤ 60 ∧ b ≤ 64 ∧ k ≤ 60 ∧ isBase base ∧ Pb gp ∧ Pb gb ∧ (∀ x, x < 4 * n → f x = gp x) ∧ (∀ x, x < 16 * b → f2 x = gb x) ∧ (∀ x, 16 * b ≤ x → x < 1024 → f2 x = 0) ∧ ∀ x, x < k → fa x = gn x ∧ fa x ≠ -1
theorem iB_e (v : Int32) : sp_X5_isByte v = sp_X6_isByte v := by
  unfold sp_X5_isByte sp_X6_isByte
  by_cases h0 : v < 0
  · rw [if_pos h0, if_pos h0]
  · rw [if_neg h0, if_neg h0]
    obtain ⟨j, hj, rfl⟩ := nI_of h0
    have g1 : (255 : Int32) < nI j ↔ 255 < j := q_gt (x := 255) (b := 255) rfl hj (by decide)
    have g2 : (256 : Int32) ≤ nI j ↔ 256 ≤ j := q_ge (x := 256) (b := 256) rfl hj (by decide)
    simp only [g1, g2]
    by_cases h : 255 < j
    · rw [if_pos h, if_pos (show 256 ≤ j from h)]
    · rw [if_neg h, if_neg (show ¬ 256 ≤ j from h)]
theorem iB_b {v : Int32} (h : ¬ sp_X6_isByte v = 0) : isB v := by
  unfold sp_X6_isByte at h
  by_cases h0 : v < 0
  · rw [if_pos h0] at h
    exact absurd rfl h
  · rw [if_neg h0] at h
    obtain ⟨j, hj, rfl⟩ := nI_of h0
    by_cases h1 : (256 : Int32) ≤ nI j
    · rw [if_pos h1] at h
      exact absurd rfl h
    · exact ⟨j, Nat.lt_of_not_le (fun q => h1 ((q_ge (x := 256) (b := 256) rfl hj (by decide)).mpr q)), rfl⟩
theorem aB_e (w a b c : Int32) : sp_X5_areBytes w a b c = sp_X6_areBytes w a b c := by
  unfold sp_X5_areBytes sp_X6_areBytes
  rw [iB_e, iB_e, iB_e, iB_e]
theorem aB_b {w a b c : Int32} (h : ¬ sp_X6_areBytes w a b c = 0) : isB w ∧ isB a ∧ isB b ∧ isB c := by
  unfold sp_X6_areBytes at h
  by_cases h1 : sp_X6_isByte w = 0
  · rw [if_pos h1] at h
    exact absurd rfl h
  · by_cases h2 : sp_X6_isByte a = 0
    · rw [if_neg h1, if_pos h2] at h
      exact absurd rfl h
    · by_cases h3 : sp_X6_isByte b = 0
      · rw [if_neg h1, if_neg h2, if_pos h3] at h
        exact absurd rfl h
      · by_cases h4 : sp_X6_isByte c = 0
        · rw [if_neg h1, if_neg h2, if_neg h3, if_pos h4] at h
          exact absurd rfl h
        · exact ⟨iB_b h1, iB_b h2, iB_b h3, iB_b h4⟩
theorem wc2_N {C : Nat → Int32} {e : Nat} {w a b c : Int32} (h : e + 4 ≤ 240) : sp_X0_write_cells 240 C (nI e) w a b c = sp_X6_write_draft C e w a b c := by
  unfold sp_X0_write_cells sp_X6_write_draft
  have e1 : nI 240 - 4 = nI 236 := by decide
  rw [if_neg (nI_pos (by omega)), e1, if_neg (fun q => absurd ((nI_ltI (by decide) (by omega)).mp q) (by omega)), nI_1, e_2, e_3, nI_clamp (by omega), nI_clamp (by omega), nI_clamp (by omega), nI_clamp (by omega)]
theorem put_N (gp : Nat → Int32) (k : Nat) (w a b c : Int32) : sp_X6_put_program gp k w a b c = sp_X6_write_draft gp (4 * k) w a b c := rfl
/-- what is written alike stays alike -/
theorem wd_al {g1 g2 : Nat → Int32} {e M : Nat} {w a b c : Int32} (h : ∀ x, x < M → (x < e ∨ e + 4 ≤ x) → g1 x = g2 x) : ∀ x, x < M → sp_X6_write_draft g1 e w a b c x = sp_X6_write_draft g2 e w a b c x := by
  intro x hx
  rw [wd_x, wd_x]
  by_cases h3 : x = e + 3
  · rw [if_pos h3, if_pos h3]
  · by_cases h2 : x = e + 2
    · rw [if_neg h3, if_neg h3, if_pos h2, if_pos h2]
    · by_cases h1 : x = e + 1
      · rw [if_neg h3, if_neg h3, if_neg h2, if_neg h2, if_pos h1, if_pos h1]
      · by_cases h0 : x = e
        · rw [if_neg h3, if_neg h3, if_neg h2, if_neg h2, if_neg h1, if_neg h1, if_pos h0, if_pos h0]
        · rw [if_neg h3, if_neg h3, if_neg h2, if_neg h2, if_neg h1, if_neg h1, if_neg h0, if_neg h0, h x hx (by omega)]
section Calls
variable {f f2 fa gp gn gb : Nat → Int32} {n b k : Nat} {base : Int32}
theorem M_add (h : RelP f n f2 b fa base k gp gn gb) (w0 a0 b0 c0 : Int32) : sp_X6_add_thrown n w0 a0 b0 c0 = sp_X5_add_x n w0 a0 b0 c0 ∧ (sp_X5_add_x n w0 a0 b0 c0 = 0 → sp_X6_add n w0 a0 b0 c0 = sp_X5_add n w0 a0 b0 c0) ∧ ∃ n' : Nat, sp_X5_add_length n w0 a0 b0 c0 = nI (4 * n') ∧ sp_X6_add_count n w0 a0 b0 c0 = nI n' ∧ RelP (sp_X5_add_cells1 f n w0 a0 b0 c0) n' f2 b fa base k (sp_X6_add_program gp n w0 a0 b0 c0) gn gb := by
  obtain ⟨hn, hb, hk, hB, hP, hQ, e1, e2, e3, e4⟩ := h
  unfold sp_X6_add_thrown sp_X5_add_x sp_X6_add sp_X5_add sp_X5_add_length sp_X6_add_count sp_X5_add_cells1 sp_X6_add_program
  rw [aB_e]
  by_cases hA : sp_X6_areBytes w0 a0 b0 c0 = 0
  · simp only [if_pos hA]
    exact ⟨trivial, fun q => absurd q (by decide), n, rfl, rfl, hn, hb, hk, hB, hP, hQ, e1, e2, e3, e4⟩
  · simp only [if_neg hA]
    obtain ⟨i1, i2, i3, i4⟩ := aB_b hA
    have g1 : nI n < 60 ↔ n < 60 := q_lt (x := 60) (b := 60) rfl (by omega) (by decide)
    have g2 : nI n = 60 ↔ n = 60 := q_i (x := 60) (b := 60) rfl (by omega) (by decide)
    simp only [g1, g2]
    by_cases h6 : n < 60
    · simp only [if_pos h6, if_neg (show ¬ n = 60 by omega)]
      refine ⟨trivial, fun _ => ?_, n + 1, rfl, rfl, by omega, hb, hk, hB, ?_, hQ, ?_, e2, e3, e4⟩
      · exact congrArg nI (by omega)
      · rw [put_N]
        exact wd_Pb hP i1 i2 i3 i4
      · rw [put_N, wc2_N (by omega)]
        refine wd_al (fun x hx hd => ?_)
        show (if 4 * (n + 1) ≤ x ∧ x < 240 then (0 : Int32) else f x) = gp x
        rw [if_neg (by omega)]
        exact e1 x (by omega)
    · simp only [if_neg h6, if_pos (show n = 60 by omega)]
      exact ⟨trivial, fun q => absurd q (by decide), n, rfl, rfl, hn, hb, hk, hB, hP, hQ, e1, e2, e3, e4⟩
theorem M_set (h : RelP f n f2 b fa base k gp gn gb) (pl w0 a0 b0 c0 : Int32) : sp_X6_set_thrown n pl w0 a0 b0 c0 = sp_X5_set_x n pl w0 a0 b0 c0 ∧ RelP (sp_X5_set_cells1 f n pl w0 a0 b0 c0) n f2 b fa base k (sp_X6_set_program gp n pl w0 a0 b0 c0) gn gb := by
  obtain ⟨hn, hb, hk, hB, hP, hQ, e1, e2, e3, e4⟩ := h
  unfold sp_X6_set_thrown sp_X5_set_x sp_X5_set_cells1 sp_X6_set_program
  rw [aB_e]
  by_cases h0 : pl < 0
  · simp only [if_pos h0]
    exact ⟨trivial, hn, hb, hk, hB, hP, hQ, e1, e2, e3, e4⟩
  · simp only [if_neg h0]
    obtain ⟨j, hj, rfl⟩ := nI_of h0
    have g1 : nI j < nI n ↔ j < n := nI_ltI hj (by omega)
    have g2 : nI n ≤ nI j ↔ n ≤ j := nI_leI (by omega) hj
    simp only [g1, g2]
    by_cases h1 : j < n
    · simp only [if_pos h1, if_neg (show ¬ n ≤ j by omega)]
      by_cases hA : sp_X6_areBytes w0 a0 b0 c0 = 0
      · simp only [if_pos hA]
        exact ⟨trivial, hn, hb, hk, hB, hP, hQ, e1, e2, e3, e4⟩
      · simp only [if_neg hA]
        obtain ⟨i1, i2, i3, i4⟩ := aB_b hA
        refine ⟨trivial, hn, hb, hk, hB, ?_, hQ, ?_, e2, e3, e4⟩
        · rw [put_N]
          exact wd_Pb hP i1 i2 i3 i4
        · rw [put_N, nI_clamp hj, show (4 : Int32) * nI j = nI (4 * j) from pk_mul 4 j, wc2_N (by omega)]
          exact wd_al (fun x hx _ => e1 x hx)
    · simp only [if_neg h1, if_pos (show n ≤ j by omega)]
      exact ⟨trivial, hn, hb, hk, hB, hP, hQ, e1, e2, e3, e4⟩
theorem M_cut (h : RelP f n f2 b fa base k gp gn gb) (p0 : Int32) : sp_X6_cut_thrown n p0 = sp_X5_cut_x n p0 ∧ (sp_X5_cut_x n p0 = 0 → sp_X6_cut n p0 = sp_X5_cut n p0) ∧ ∃ n' : Nat, sp_X5_cut_length n p0 = nI (4 * n') ∧ sp_X6_cut_count n p0 = nI n' ∧ RelP (sp_X5_cut_cells1 f n p0) n' f2 b fa base k gp gn gb := by
  obtain ⟨hn, hb, hk, hB, hP, hQ, e1, e2, e3, e4⟩ := h
  unfold sp_X6_cut_thrown sp_X5_cut_x sp_X6_cut sp_X5_cut sp_X5_cut_length sp_X6_cut_count sp_X5_cut_cells1
  refine ⟨rfl, fun _ => rfl, ?_⟩
  by_cases h0 : p0 < 0
  · simp only [if_pos h0]
    exact ⟨n, rfl, rfl, hn, hb, hk, hB, hP, hQ, e1, e2, e3, e4⟩
  · simp only [if_neg h0]
    by_cases h1 : p0 ≤ nI n
    · simp only [if_pos h1]
      refine ⟨n - p0.toNatClampNeg, rfl, rfl, by omega, hb, hk, hB, hP, hQ, fun x hx => ?_, e2, e3, e4⟩
      show (if 4 * (n - p0.toNatClampNeg) ≤ x ∧ x < 240 then (0 : Int32) else f x) = gp x
      rw [if_neg (by omega)]
      exact e1 x (by omega)
    · simp only [if_neg h1]
      exact ⟨n, rfl, rfl, hn, hb, hk, hB, hP, hQ, e1, e2, e3, e4⟩
theorem M_wrong (h : RelP f n f2 b fa base k gp gn gb) : sp_X5_wrong f n = sp_X6_wrong gp n := R_wrong h.1 h.2.2.2.2.1 h.2.2.2.2.2.2.1
theorem M_rewrite (h : RelP f n f2 b fa base k gp gn gb) (fl fp gd : Nat → Int32) : sp_X5_rewrite_x f n = (if fun_fw gp n = -1 then 0 else 2) ∧ sp_X5_rewrite f n fl = (if fun_fw gp n = -1 then nI (rB (mE gp n n)) else 0) ∧ ∃ b' k' : Nat, sp_X5_rewrite_length f n b fl = nI (16 * b') ∧ (if fun_fw gp n = -1 then nI (16 * rB (mE gp n n)) else nI (16 * b)) = nI (16 * b') ∧ sp_X5_rewrite_known f n (nI k) = nI k' ∧ (if fun_fw gp n = -1 then nI n else nI k) = nI k' ∧
    RelP f n (sp_X5_rewrite_cells3 f n f2 fl fp fa base) b' (sp_X5_rewrite_addresses f n fl fp fa) base k' gp (if fun_fw gp n = -1 then na6 gp n (na6 gp n gn n) n else gn) (if fun_fw gp n = -1 then by6 (mE gp n n + 4) (sp_X6_write_draft (dr6 gp n base (nI (16 * rB (mE gp n n) - 16)) (na6 gp n gn n) (tT6 gp) n (sp_X6_write_draft (dr6 gp n base 0 gn (tT6 gp) n gd) (mE gp n n) 0 0 0 0)) (mE gp n n) 0 0 0 0) gb (16 * rB (mE gp n n)) else gb) := by
  obtain ⟨hn, hb, hk, hB, hP, hQ, e1, e2, e3, e4⟩ := h
  unfold sp_X5_rewrite_x sp_X5_rewrite sp_X5_rewrite_length sp_X5_rewrite_known sp_X5_rewrite_cells3 sp_X5_rewrite_addresses
  rw [R_wrong hn hP e1]
  by_cases hs : fun_fw gp n = -1
  · simp only [if_pos hs]
    rw [tB_E hn hP e1]
    have hr := rw_N (f := f) (fl := fl) (fp := fp) (fa := fa) (gn := gn) (gd := gd) (gb := gb) (f2 := f2) hn hP hQ e1 hs hB
    refine ⟨trivial, rfl, rB (mE gp n n), n, rfl, rfl, rfl, rfl, hn, (rB_le _).1, hn, hB, hP, hr.2.2, e1, hr.1, hr.2.1, fun x hx => ⟨tA_N hn hP e1 hx, ?_⟩⟩
    rw [tA_N (gn := gn) hn hP e1 hx]
    unfold na6
    rw [if_pos hx]
    have hAo := mA_ok gp n x
    exact fun q => nI_pos (n := mA gp n x) (by omega) (by rw [q]; decide)
  · simp only [if_neg hs]
    exact ⟨trivial, trivial, b, k, rfl, rfl, rfl, rfl, hn, hb, hk, hB, hP, hQ, e1, e2, e3, e4⟩
theorem M_place (h : RelP f n f2 b fa base k gp gn gb) (p0 : Int32) : sp_X6_place_thrown k p0 = sp_X5_place_x fa (nI k) p0 ∧ (sp_X5_place_x fa (nI k) p0 = 0 → sp_X6_place gn k p0 = sp_X5_place fa (nI k) p0) := by
  obtain ⟨hn, hb, hk, hB, hP, hQ, e1, e2, e3, e4⟩ := h
  unfold sp_X6_place_thrown sp_X5_place_x sp_X6_place sp_X5_place sp_X2_newAddress
  by_cases h0 : p0 < 0
  · simp only [if_pos h0]
    exact ⟨rfl, fun q => absurd q (by decide)⟩
  · simp only [if_neg h0]
    obtain ⟨j, hj, rfl⟩ := nI_of h0
    have g1 : nI j < nI k ↔ j < k := nI_ltI hj (by omega)
    have g2 : nI k ≤ nI j ↔ k ≤ j := nI_leI (by omega) hj
    have g3 : nI 60 ≤ nI j ↔ 60 ≤ j := nI_leI (by decide) hj
    simp only [g1, g2, g3]
    by_cases h1 : j < k
    · simp only [if_pos h1, if_neg (show ¬ k ≤ j by omega), if_neg (show ¬ 60 ≤ j by omega)]
      rw [nI_clamp hj]
      obtain ⟨q1, q2⟩ := e4 j h1
      simp only [if_neg q2]
      exact ⟨trivial, fun _ => q1.symm⟩
    · simp only [if_neg h1, if_pos (show k ≤ j by omega)]
      exact ⟨rfl, fun q => absurd q (by decide)⟩
theorem M_bundles (h : RelP f n f2 b fa base k gp gn gb) (p0 : Int32) : bd_x p0 = sp_X5_bundles_x p0 ∧ ∃ b' k' : Nat, sp_X5_bundles_length b p0 = nI (16 * b') ∧ (if bd_x p0 = 0 then nI (16 * p0.toNatClampNeg) else nI (16 * b)) = nI (16 * b') ∧ sp_X5_bundles_known (nI k) p0 = nI k' ∧ (if bd_x p0 = 0 then 0 else nI k) = nI k' ∧ RelP f n (sp_X5_bundles_cells3 f2 p0) b' fa base k' gp gn (if bd_x p0 = 0 then kz (16 * b) (16 * p0.toNatClampNeg) gb else gb) := by
  obtain ⟨hn, hb, hk, hB, hP, hQ, e1, e2, e3, e4⟩ := h
  refine ⟨rfl, ?_⟩
  unfold bd_x sp_X5_bundles_length sp_X5_bundles_known sp_X5_bundles_cells3 sp_X2_forget_known
  by_cases h0 : p0 < 0
  · simp only [if_pos h0, if_neg (show ¬ (1 : Int32) = 0 by decide)]
    exact ⟨b, k, rfl, rfl, rfl, rfl, hn, hb, hk, hB, hP, hQ, e1, e2, e3, e4⟩
  · simp only [if_neg h0]
    obtain ⟨j, hj, rfl⟩ := nI_of h0
    have g1 : nI j ≤ 64 ↔ j ≤ 64 := q_le (x := 64) (b := 64) rfl hj (by decide)
    simp only [g1]
    by_cases h1 : j ≤ 64
    · simp only [if_pos h1, if_pos (show (0 : Int32) = 0 from rfl)]
      rw [nI_clamp hj]
      refine ⟨j, 0, rfl, rfl, rfl, rfl, hn, h1, by omega, hB, hP, fun x => ?_, e1, fun x hx => ?_, fun x h2 h3 => ?_, fun x hx => absurd hx (Nat.not_lt_zero x)⟩
      · show isB (if 16 * b ≤ x ∧ x < 16 * j then (0 : Int32) else gb x)
        by_cases hc : 16 * b ≤ x ∧ x < 16 * j
        · rw [if_pos hc]
          exact ⟨0, by decide, rfl⟩
        · rw [if_neg hc]
          exact hQ x
      · show (if 16 * j ≤ x ∧ x < 1024 then (0 : Int32) else f2 x) = (if 16 * b ≤ x ∧ x < 16 * j then (0 : Int32) else gb x)
        rw [if_neg (by omega)]
        by_cases hc : 16 * b ≤ x
        · rw [if_pos ⟨hc, hx⟩]
          exact e3 x hc (by omega)
        · rw [if_neg (fun q => hc q.1)]
          exact e2 x (by omega)
      · show (if 16 * j ≤ x ∧ x < 1024 then (0 : Int32) else f2 x) = 0
        rw [if_pos ⟨h2, h3⟩]
    · simp only [if_neg h1, if_neg (show ¬ (1 : Int32) = 0 by decide)]
      exact ⟨b, k, rfl, rfl, rfl, rfl, hn, hb, hk, hB, hP, hQ, e1, e2, e3, e4⟩
theorem has_N {p0 : Int32} (hb : b ≤ 64) : (p0 < 0 ∧ sp_X0_has (nI (16 * b)) p0 = 0) ∨ (¬ p0 < 0 ∧ nI (16 * b) ≤ p0 ∧ ¬ p0 < nI (16 * b) ∧ sp_X0_has (nI (16 * b)) p0 = 0) ∨ ∃ j : Nat, j < 16 * b ∧ p0 = nI j ∧ ¬ p0 < 0 ∧ ¬ nI (16 * b) ≤ p0 ∧ p0 < nI (16 * b) ∧ sp_X0_has (nI (16 * b)) p0 = 1 := by
  unfold sp_X0_has
  by_cases h0 : p0 < 0
  · exact Or.inl ⟨h0, if_pos h0⟩
  · by_cases h1 : nI (16 * b) ≤ p0
    · exact Or.inr (Or.inl ⟨h0, h1, Int32.not_lt.mpr h1, by rw [if_neg h0, if_pos h1]⟩)
    · obtain ⟨j, hj, e⟩ := nI_of h0
      refine Or.inr (Or.inr ⟨j, Nat.lt_of_not_le (fun q => h1 (by rw [e]; exact (nI_leI (by omega) hj).mpr q)), e, h0, h1, Int32.not_le.mp h1, by rw [if_neg h0, if_neg h1]⟩)
theorem M_byteAt (h : RelP f n f2 b fa base k gp gn gb) (p0 : Int32) : sp_X6_byteAt_thrown b p0 = sp_X5_byteAt_x b p0 ∧ (sp_X5_byteAt_x b p0 = 0 → sp_X6_byteAt gb b p0 = sp_X5_byteAt f2 b p0) := by
  obtain ⟨hn, hb, hk, hB, hP, hQ, e1, e2, e3, e4⟩ := h
  unfold sp_X6_byteAt_thrown sp_X5_byteAt_x sp_X6_byteAt sp_X5_byteAt
  rcases has_N (p0 := p0) hb with ⟨h0, q⟩ | ⟨h0, h1, h2, q⟩ | ⟨j, hj, e, h0, h1, h2, q⟩
  · simp only [q, if_pos h0]
    exact ⟨rfl, fun z => absurd z (by decide)⟩
  · simp only [q, if_neg h0, if_neg h2]
    exact ⟨rfl, fun z => absurd z (by decide)⟩
  · simp only [q, if_neg h0, if_pos h2]
    refine ⟨rfl, fun _ => ?_⟩
    rw [if_neg (by decide), e, rd (by omega) (by decide), nI_clamp (by omega), e2 j hj]
theorem M_poke (h : RelP f n f2 b fa base k gp gn gb) (p0 v0 : Int32) : sp_X6_poke_thrown b p0 v0 = sp_X5_poke_x b p0 v0 ∧ (sp_X5_poke_x b p0 v0 = 0 → sp_X6_poke gb b p0 v0 = sp_X5_poke f2 b p0 v0) ∧ RelP f n (sp_X5_poke_cells3 f2 b p0 v0) b fa base k gp gn (sp_X6_poke_bytes gb b p0 v0) := by
  obtain ⟨hn, hb, hk, hB, hP, hQ, e1, e2, e3, e4⟩ := h
  unfold sp_X6_poke_thrown sp_X5_poke_x sp_X6_poke sp_X5_poke sp_X5_poke_cells3 sp_X6_poke_bytes
  rw [iB_e]
  rcases has_N (p0 := p0) hb with ⟨h0, q⟩ | ⟨h0, h1, h2, q⟩ | ⟨j, hj, e, h0, h1, h2, q⟩
  · simp only [q, if_pos h0, if_true]
    exact ⟨trivial, fun z => absurd z (by decide), hn, hb, hk, hB, hP, hQ, e1, e2, e3, e4⟩
  · simp only [q, if_neg h0, if_pos h1, if_true]
    exact ⟨trivial, fun z => absurd z (by decide), hn, hb, hk, hB, hP, hQ, e1, e2, e3, e4⟩
  · simp only [q, if_neg h0, if_neg h1, if_neg (show ¬ (1 : Int32) = 0 by decide)]
    by_cases hv : sp_X6_isByte v0 = 0
    · simp only [if_pos hv]
      exact ⟨trivial, fun z => absurd z (by decide), hn, hb, hk, hB, hP, hQ, e1, e2, e3, e4⟩
    · simp only [if_neg hv]
      have hw : sp_X0_writeByte_cells 1024 f2 p0 v0 = upd f2 j v0 := by
        unfold sp_X0_writeByte_cells
        rw [if_neg h0, if_neg (fun z => absurd ((nI_leI (a := 1024) (b := j) (by decide) (by omega)).mp (by rw [e] at z; exact z)) (by omega)), e, nI_clamp (by omega)]
      refine ⟨trivial, fun _ => ?_, hn, hb, hk, hB, hP, ?_, e1, ?_, ?_, e4⟩
      · rw [e, rd (by omega) (by decide), nI_clamp (by omega), e2 j hj]
      · intro x
        rw [e, nI_clamp (by omega), uu]
        by_cases hx : x = j
        · rw [if_pos hx]
          exact iB_b hv
        · rw [if_neg hx]
          exact hQ x
      · intro x hx
        rw [hw, e, nI_clamp (by omega), uu, uu, e2 x hx]
      · intro x h5 h6
        rw [hw, uu, if_neg (by omega)]
        exact e3 x h5 h6
theorem M_verify (h : RelP f n f2 b fa base k gp gn gb) : sp_X5_verify f2 b base = fun_vf gb base b := R_verify h.2.1 h.2.2.2.2.2.1 h.2.2.2.2.2.2.2.1
end Calls
theorem reg_N (r0 : Int32) : (r0 < 0 ∧ sp_X5_isRegister r0 = 0) ∨ (¬ r0 < 0 ∧ ¬ r0 ≤ 7 ∧ sp_X5_isRegister r0 = 0) ∨ ∃ j : Nat, j ≤ 7 ∧ r0 = nI j ∧ ¬ r0 < 0 ∧ r0 ≤ 7 ∧ sp_X5_isRegister r0 = 1 := by
  unfold sp_X5_isRegister
  by_cases h0 : r0 < 0
  · exact Or.inl ⟨h0, if_pos h0⟩
  · obtain ⟨j, hj, e⟩ := nI_of h0
    have g1 : r0 ≤ 7 ↔ j ≤ 7 := by rw [e]; exact q_le (x := 7) (b := 7) rfl hj (by decide)
    have g2 : (8 : Int32) ≤ r0 ↔ 8 ≤ j := by rw [e]; exact q_ge (x := 8) (b := 8) rfl hj (by decide)
    by_cases h1 : j ≤ 7
    · exact Or.inr (Or.inr ⟨j, h1, e, h0, g1.mpr h1, by rw [if_neg h0, if_neg (fun q => absurd (g2.mp q) (by omega))]⟩)
    · exact Or.inr (Or.inl ⟨h0, fun q => h1 (g1.mp q), by rw [if_neg h0, if_pos (g2.mpr (by omega))]⟩)
theorem M_register (fr : Nat → Int32) (r0 v0 : Int32) : sp_X6_register_thrown r0 = sp_X5_register_x r0 ∧ (sp_X5_register_x r0 = 0 → sp_X6_register fr r0 = sp_X5_register fr r0) ∧ sp_X6_register_registers fr r0 v0 = sp_X5_register_registers fr r0 v0 := by
  unfold sp_X6_register_thrown sp_X5_register_x sp_X6_register sp_X5_register sp_X6_register_registers sp_X5_register_registers
  rcases reg_N r0 with ⟨h0, q⟩ | ⟨h0, h1, q⟩ | ⟨j, hj, e, h0, h1, q⟩
  · simp only [q, if_pos h0]
    exact ⟨rfl, fun z => absurd z (by decide), rfl⟩
  · simp only [q, if_neg h0, if_neg h1]
    exact ⟨rfl, fun z => absurd z (by decide), rfl⟩
  · simp only [q, if_neg h0, if_pos h1]
    refine ⟨rfl, fun _ => ?_, ?_⟩
    · rw [if_neg (by decide), e, val_N hj, nI_clamp (by omega)]
    · rw [if_neg (by decide), e, chg_N hj, nI_clamp (by omega)]
theorem M_registerAt (fr : Nat → Int32) (r0 : Int32) : sp_X6_registerAt_thrown r0 = sp_X5_registerAt_x r0 ∧ (sp_X5_registerAt_x r0 = 0 → sp_X6_registerAt fr r0 = sp_X5_registerAt fr r0) := ⟨(M_register fr r0 0).1, (M_register fr r0 0).2.1⟩
theorem mem_N (p0 : Int32) : (p0 < 0 ∧ sp_X5_isInMemory p0 = 0) ∨ (¬ p0 < 0 ∧ ¬ p0 ≤ 4095 ∧ 4095 < p0 ∧ sp_X5_isInMemory p0 = 0) ∨ (¬ p0 < 0 ∧ p0 ≤ 4095 ∧ ¬ 4095 < p0 ∧ sp_X5_isInMemory p0 = 1) := by
  rw [iim_N]
  by_cases h0 : p0 < 0
  · exact Or.inl ⟨h0, if_pos h0⟩
  · by_cases h1 : p0 ≤ 4095
    · exact Or.inr (Or.inr ⟨h0, h1, Int32.not_lt.mpr h1, by rw [if_neg h0, if_pos h1]⟩)
    · exact Or.inr (Or.inl ⟨h0, h1, Int32.not_le.mp h1, by rw [if_neg h0, if_neg h1]⟩)
theorem M_memory (fm : Nat → Int32) (p0 v0 : Int32) : sp_X6_memory_thrown p0 v0 = sp_X5_memory_x p0 v0 ∧ (sp_X5_memory_x p0 v0 = 0 → sp_X6_memory fm p0 v0 = sp_X5_memory fm p0 v0) ∧ sp_X6_memory_memory fm p0 v0 = sp_X5_memory_cells fm p0 v0 := by
  unfold sp_X6_memory_thrown sp_X5_memory_x sp_X6_memory sp_X5_memory sp_X6_memory_memory sp_X5_memory_cells
  rw [iB_e]
  rcases mem_N p0 with ⟨h0, q⟩ | ⟨h0, h1, h2, q⟩ | ⟨h0, h1, h2, q⟩
  · simp only [q, if_pos h0, if_true]
    exact ⟨trivial, fun z => absurd z (by decide), trivial⟩
  · simp only [q, if_neg h0, if_pos h2, if_true]
    exact ⟨trivial, fun z => absurd z (by decide), trivial⟩
  · simp only [q, if_neg h0, if_neg h2, if_neg (show ¬ (1 : Int32) = 0 by decide)]
    by_cases hv : sp_X6_isByte v0 = 0
    · simp only [if_pos hv]
      exact ⟨trivial, fun z => absurd z (by decide), trivial⟩
    · simp only [if_neg hv]
      exact ⟨trivial, fun _ => (ld_N h0 h1).symm, (st_N h0 h1).symm⟩
theorem M_memoryAt (fm : Nat → Int32) (p0 : Int32) : sp_X6_memoryAt_thrown p0 = sp_X5_memoryAt_x p0 ∧ (sp_X5_memoryAt_x p0 = 0 → sp_X6_memoryAt fm p0 = sp_X5_memoryAt fm p0) := by
  unfold sp_X6_memoryAt_thrown sp_X5_memoryAt_x sp_X6_memoryAt sp_X5_memoryAt
  rcases mem_N p0 with ⟨h0, q⟩ | ⟨h0, h1, h2, q⟩ | ⟨h0, h1, h2, q⟩
  · simp only [q, if_pos h0]
    exact ⟨rfl, fun z => absurd z (by decide)⟩
  · simp only [q, if_neg h0, if_neg h1]
    exact ⟨rfl, fun z => absurd z (by decide)⟩
  · simp only [q, if_neg h0, if_pos h1]
    exact ⟨rfl, fun _ => by rw [if_neg (by decide), ld_N h0 h1]⟩
theorem M_told (gt : Nat → Int32) (p0 : Int32) : sp_X6_told_thrown p0 = sp_X5_told_x p0 ∧ (sp_X5_told_x p0 = 0 → sp_X6_told gt p0 = sp_X5_told (gt 0) (gt 1) (gt 2) (gt 3) (gt 4) (gt 5) p0) := by
  unfold sp_X6_told_thrown sp_X5_told_x sp_X6_told sp_X5_told
  by_cases h0 : p0 < 0
  · have n0 : ¬ p0 = 0 := fun q => by rw [q] at h0; exact absurd h0 (by decide)
    have n1 : ¬ p0 = 1 := fun q => by rw [q] at h0; exact absurd h0 (by decide)
    have n2 : ¬ p0 = 2 := fun q => by rw [q] at h0; exact absurd h0 (by decide)
    have n3 : ¬ p0 = 3 := fun q => by rw [q] at h0; exact absurd h0 (by decide)
    have n4 : ¬ p0 = 4 := fun q => by rw [q] at h0; exact absurd h0 (by decide)
    have n5 : ¬ p0 = 5 := fun q => by rw [q] at h0; exact absurd h0 (by decide)
    simp only [if_pos h0, if_neg n0, if_neg n1, if_neg n2, if_neg n3, if_neg n4, if_neg n5]
    exact ⟨trivial, fun z => absurd z (by decide)⟩
  · simp only [if_neg h0]
    obtain ⟨j, hj, rfl⟩ := nI_of h0
    have g : nI j ≤ 5 ↔ j ≤ 5 := q_le (x := 5) (b := 5) rfl hj (by decide)
    have g0 : nI j = 0 ↔ j = 0 := q_i (x := 0) (b := 0) rfl hj (by decide)
    have g1 : nI j = 1 ↔ j = 1 := q_i (x := 1) (b := 1) rfl hj (by decide)
    have g2 : nI j = 2 ↔ j = 2 := q_i (x := 2) (b := 2) rfl hj (by decide)
    have g3 : nI j = 3 ↔ j = 3 := q_i (x := 3) (b := 3) rfl hj (by decide)
    have g4 : nI j = 4 ↔ j = 4 := q_i (x := 4) (b := 4) rfl hj (by decide)
    have g5 : nI j = 5 ↔ j = 5 := q_i (x := 5) (b := 5) rfl hj (by decide)
    rw [nI_clamp hj]
    simp only [g, g0, g1, g2, g3, g4, g5]
    by_cases h5 : j ≤ 5
    · rcases (show j = 0 ∨ j = 1 ∨ j = 2 ∨ j = 3 ∨ j = 4 ∨ j = 5 by omega) with rfl | rfl | rfl | rfl | rfl | rfl
      · exact ⟨rfl, fun _ => rfl⟩
      · exact ⟨rfl, fun _ => rfl⟩
      · exact ⟨rfl, fun _ => rfl⟩
      · exact ⟨rfl, fun _ => rfl⟩
      · exact ⟨rfl, fun _ => rfl⟩
      · exact ⟨rfl, fun _ => rfl⟩
    · rw [if_neg h5, if_neg (show ¬ j = 0 by omega), if_neg (show ¬ j = 1 by omega), if_neg (show ¬ j = 2 by omega), if_neg (show ¬ j = 3 by omega), if_neg (show ¬ j = 4 by omega), if_neg (show ¬ j = 5 by omega)]
      exact ⟨rfl, fun z => absurd z (by decide)⟩
/-- numbers below 256, as naturals -/
def unf (gp : Nat → Int32) : Nat → Nat := fun x => (gp x).toNatClampNeg
theorem unf_lt {gp : Nat → Int32} (h : Pb gp) : ∀ x, unf gp x < 256 := by
  intro x
  obtain ⟨p, hp, e⟩ := h x
  unfold unf
  rw [e, nI_clamp (by omega)]
  exact hp
theorem unf_N {gp : Nat → Int32} (h : Pb gp) : ∀ x, nI (unf gp x) = gp x := by
  intro x
  obtain ⟨p, hp, e⟩ := h x
  unfold unf
  rw [e, nI_clamp (by omega)]
theorem unf_k {gp : Nat → Int32} (h : Pb gp) : kf (unf gp) = gp := funext (unf_N h)
theorem M_run {f f2 fa gp gn gb : Nat → Int32} {n b k : Nat} {base : Int32} (h : RelP f n f2 b fa base k gp gn gb) (fr fm gt : Nat → Int32) (pr sa st : Int32) : rn_x st sa = sp_X5_run_x sa st ∧
    sp_X5_run f n f2 b base fr fm pr sa st = (if rn_x st sa = 0 then (m6_run (unf gp) (unf gb) base n b pr st.toNatClampNeg (fr, fm, rn_t gt sa)).1 else 0) ∧
    sp_X5_run_registers f n f2 b base fr fm pr sa st = (if rn_x st sa = 0 then (m6_run (unf gp) (unf gb) base n b pr st.toNatClampNeg (fr, fm, rn_t gt sa)).2.1 else fr) ∧
    sp_X5_run_cells f n f2 b base fr fm pr sa st = (if rn_x st sa = 0 then (m6_run (unf gp) (unf gb) base n b pr st.toNatClampNeg (fr, fm, rn_t gt sa)).2.2.1 else fm) ∧
    sp_X5_run_address f n f2 b base fr fm (gt 0) pr sa st = (if rn_x st sa = 0 then (m6_run (unf gp) (unf gb) base n b pr st.toNatClampNeg (fr, fm, rn_t gt sa)).2.2.2 else gt) 0 ∧
    sp_X5_run_steps f n f2 b base fr fm (gt 1) pr sa st = (if rn_x st sa = 0 then (m6_run (unf gp) (unf gb) base n b pr st.toNatClampNeg (fr, fm, rn_t gt sa)).2.2.2 else gt) 1 ∧
    sp_X5_run_strays f n f2 b base fr fm (gt 2) pr sa st = (if rn_x st sa = 0 then (m6_run (unf gp) (unf gb) base n b pr st.toNatClampNeg (fr, fm, rn_t gt sa)).2.2.2 else gt) 2 ∧
    sp_X5_run_slips f n f2 b base fr fm (gt 3) pr sa st = (if rn_x st sa = 0 then (m6_run (unf gp) (unf gb) base n b pr st.toNatClampNeg (fr, fm, rn_t gt sa)).2.2.2 else gt) 3 ∧
    sp_X5_run_regionStores f n f2 b base fr fm (gt 4) pr sa st = (if rn_x st sa = 0 then (m6_run (unf gp) (unf gb) base n b pr st.toNatClampNeg (fr, fm, rn_t gt sa)).2.2.2 else gt) 4 ∧
    sp_X5_run_latestStray f n f2 b base fr fm (gt 5) pr sa st = (if rn_x st sa = 0 then (m6_run (unf gp) (unf gb) base n b pr st.toNatClampNeg (fr, fm, rn_t gt sa)).2.2.2 else gt) 5 := by
  obtain ⟨hn, hb, hk, hB, hP, hQ, e1, e2, e3, e4⟩ := h
  unfold rn_x sp_X5_run_x sp_X5_run sp_X5_run_registers sp_X5_run_cells sp_X5_run_address sp_X5_run_steps sp_X5_run_strays sp_X5_run_slips sp_X5_run_regionStores sp_X5_run_latestStray
  by_cases h1 : st < 1
  · simp only [if_pos h1, if_neg (show ¬ (1 : Int32) = 0 by decide)]
    exact ⟨trivial, trivial, trivial, trivial, trivial, trivial, trivial, trivial, trivial, trivial⟩
  · simp only [if_neg h1]
    by_cases h2 : st ≤ 1000
    · have h2' : ¬ 1000 < st := Int32.not_lt.mpr h2
      simp only [if_pos h2, if_neg h2']
      by_cases h3 : 0 ≤ sa
      · simp only [if_pos h3, if_pos (show (0 : Int32) = 0 from rfl)]
        have hs : RS (fr, fm, sa, 0, 0, 0, 0, -1) (fr, fm, rn_t gt sa) := ⟨rfl, rfl, rfl, rfl, rfl, rfl, rfl, rfl⟩
        by_cases hpr : pr = 0
        · simp only [if_pos hpr]
          obtain ⟨r0, r1, r2, r3, r4, r5, r6, r7, r8⟩ := run0 (P := unf gp) (Q := unf gb) (f := f2) (xB := base) (n := n) (b := b) hpr hb (unf_lt hQ) (fun x hx => by rw [unf_N hQ, e2 x hx]) st.toNatClampNeg _ _ hs
          exact ⟨trivial, r0, r1, r2, r3, r4, r5, r6, r7, r8⟩
        · simp only [if_neg hpr]
          obtain ⟨r0, r1, r2, r3, r4, r5, r6, r7, r8⟩ := run1 (P := unf gp) (Q := unf gb) (f := f) (xB := base) (n := n) (b := b) hpr hn (unf_lt hP) (fun x hx => by rw [unf_N hP, e1 x hx]) st.toNatClampNeg _ _ hs
          exact ⟨trivial, r0, r1, r2, r3, r4, r5, r6, r7, r8⟩
      · simp only [if_neg h3, if_neg (show ¬ (1 : Int32) = 0 by decide)]
        exact ⟨trivial, trivial, trivial, trivial, trivial, trivial, trivial, trivial, trivial, trivial⟩
    · have h2' : 1000 < st := Int32.not_le.mp h2
      simp only [if_neg h2, if_pos h2', if_neg (show ¬ (1 : Int32) = 0 by decide)]
      exact ⟨trivial, trivial, trivial, trivial, trivial, trivial, trivial, trivial, trivial, trivial⟩
theorem M_base (rg : Int32) : k_base rg = k_base6 rg ∧ isBase (k_base rg) := by
  unfold k_base k_base6
  by_cases h0 : rg < 0
  · have h1 : ¬ 0 ≤ rg := Int32.not_le.mpr h0
    have h2 : ¬ 3 < rg := fun q => absurd (Int32.lt_trans q h0) (by decide)
    have h3 : ¬ 0 < rg := fun q => absurd (Int32.lt_trans q h0) (by decide)
    rw [if_neg h1, if_neg h2, if_neg h3]
    exact ⟨rfl, Or.inl rfl⟩
  · have h1 : 0 ≤ rg := Int32.not_lt.mp h0
    rw [if_pos h1]
    obtain ⟨j, hj, rfl⟩ := nI_of h0
    have g1 : (3 : Int32) < nI j ↔ 3 < j := q_gt (x := 3) (b := 3) rfl hj (by decide)
    have g2 : nI j ≤ 3 ↔ j ≤ 3 := q_le (x := 3) (b := 3) rfl hj (by decide)
    simp only [g1, g2]
    by_cases h3 : j ≤ 3
    · rw [if_neg (show ¬ 3 < j by omega), if_pos h3]
      rcases (show j = 0 ∨ j = 1 ∨ j = 2 ∨ j = 3 by omega) with rfl | rfl | rfl | rfl
      · exact ⟨by decide, Or.inl (by decide)⟩
      · exact ⟨by decide, Or.inr (Or.inl (by decide))⟩
      · exact ⟨by decide, Or.inr (Or.inr (Or.inl (by decide)))⟩
      · exact ⟨by decide, Or.inr (Or.inr (Or.inr (by decide)))⟩
    · rw [if_pos (show 3 < j by omega), if_neg h3]
      exact ⟨by decide, Or.inr (Or.inr (Or.inr (by decide)))⟩
