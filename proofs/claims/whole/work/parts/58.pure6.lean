/-! MY PURE ROWS 6: one step, word by word -/
theorem sp0_0 {P Q : Nat → Nat} {f fr fm gt : Nat → Int32} {xB pr : Int32} {n b k : Nat} (hpr : pr = 0) (hb : b ≤ 64) (hk : k % 4 = 0) (hl : k + 3 < 16 * b) (hG : ∀ x, Q x < 256) (e : ∀ x, x < 16 * b → f x = nI (Q x)) (g0 : gt 0 = nI k) (hw : Q k = 0) (hr : okR 0 (Q (k + 1)) (Q (k + 2)) (Q (k + 3)) = true) : ms_ret 1024 f (nI (16 * b)) pr (fr, fm, nI k, gt 1, gt 2, gt 3, gt 4, gt 5) = m6_ret P Q n b pr (fr, fm, gt) ∧ RS (ms_next xB 1024 f (nI (16 * b)) pr (fr, fm, nI k, gt 1, gt 2, gt 3, gt 4, gt 5)) (m6_next P Q xB n b pr (fr, fm, gt)) := by
  have hB : By f k 0 (Q (k + 1)) (Q (k + 2)) (Q (k + 3)) := ⟨⟨by rw [e _ (by omega), hw], e _ (by omega), e _ (by omega), e _ (by omega)⟩, by decide, hG _, hG _, hG _⟩
  have ew : sp_X0_word 1024 f (nI k) = 0 := by rw [rd_w (by omega) (by decide), hB.1.1]; rfl
  have ea : sp_X0_a 1024 f (nI k) = nI (Q (k + 1)) := by rw [rd_a (by omega) (by decide), hB.1.2.1]
  have eb : sp_X0_b 1024 f (nI k) = nI (Q (k + 2)) := by unfold sp_X0_b; rw [rd_2 (by omega) (by decide), hB.1.2.2.1]
  have ec : sp_X0_c 1024 f (nI k) = nI (Q (k + 3)) := by unfold sp_X0_c; rw [rd_3 (by omega) (by decide), hB.1.2.2.2]
  have en := rd_n (f := f) (k := k) (N := 1024) (by omega) (by decide) hB.1.2.2.1 hB.1.2.2.2
  have eR : sp_X0_hasRegistersOnly 1024 f (nI k) = 1 := by rw [hR_N (by omega) (by decide) hB (by decide), hr]; rfl
  have eI : sp_X0_hasInstruction (nI (16 * b)) (nI k) = 1 := hi_T hk (by omega) (by omega)
  have ekw : kf Q k = 0 := by unfold kf; rw [hw]; rfl
  have e6 : sp_X6_areRegisters 0 (nI (Q (k + 1))) (nI (Q (k + 2))) (nI (Q (k + 3))) = 1 := by rw [show (0 : Int32) = nI 0 from rfl]; rw [aR_N (by decide) (hG _) (hG _) (hG _), hr]; rfl
  have ecl : (nI k).toNatClampNeg = k := nI_clamp (by omega)
  have n1 : ¬ nI k < 0 := nI_pos (by omega)
  have n2 : ¬ nI (16 * b) ≤ nI k := fun q => absurd ((nI_leI (by omega) (by omega)).mp q) (by omega)
  have n3 : nI k - nI k / 4 * 4 = 0 := by rw [show nI k - nI k / 4 * 4 = nI (k % 4) from pk_rem (d := 4) (by omega) (by decide) (by decide), hk]; rfl
  have eka : kf Q (k + 1) = nI (Q (k + 1)) := rfl
  have ekb : kf Q (k + 2) = nI (Q (k + 2)) := rfl
  have ekc : kf Q (k + 3) = nI (Q (k + 3)) := rfl
  clear hr hB e hG
  refine ⟨?_, ?_, ?_, ?_, ?_, ?_, ?_, ?_, ?_⟩
  all_goals simp [ms_ret, ms_next, m6_ret, m6_next, sp_X1_step, sp_X1_step_registers, sp_X1_step_cells, sp_X1_step_address, sp_X1_step_steps, sp_X1_step_strays, sp_X1_step_slips, sp_X1_step_regionStores, sp_X1_step_latestStray, sp_X6_step, sp_X6_step_registers, sp_X6_step_memory, sp_X6_step_told, sp_X1_isWord, hpr, ew, ea, eb, ec, en, eR, eI, ekw, e6, ecl, g0, n1, n2, n3, eka, ekb, ekc, chg_7, uu]
theorem sp0_1 {P Q : Nat → Nat} {f fr fm gt : Nat → Int32} {xB pr : Int32} {n b k : Nat} (hpr : pr = 0) (hb : b ≤ 64) (hk : k % 4 = 0) (hl : k + 3 < 16 * b) (hG : ∀ x, Q x < 256) (e : ∀ x, x < 16 * b → f x = nI (Q x)) (g0 : gt 0 = nI k) (hw : Q k = 1) (hr : okR 1 (Q (k + 1)) (Q (k + 2)) (Q (k + 3)) = true) : ms_ret 1024 f (nI (16 * b)) pr (fr, fm, nI k, gt 1, gt 2, gt 3, gt 4, gt 5) = m6_ret P Q n b pr (fr, fm, gt) ∧ RS (ms_next xB 1024 f (nI (16 * b)) pr (fr, fm, nI k, gt 1, gt 2, gt 3, gt 4, gt 5)) (m6_next P Q xB n b pr (fr, fm, gt)) := by
  have hB : By f k 1 (Q (k + 1)) (Q (k + 2)) (Q (k + 3)) := ⟨⟨by rw [e _ (by omega), hw], e _ (by omega), e _ (by omega), e _ (by omega)⟩, by decide, hG _, hG _, hG _⟩
  have ew : sp_X0_word 1024 f (nI k) = 1 := by rw [rd_w (by omega) (by decide), hB.1.1]; rfl
  have ea : sp_X0_a 1024 f (nI k) = nI (Q (k + 1)) := by rw [rd_a (by omega) (by decide), hB.1.2.1]
  have eb : sp_X0_b 1024 f (nI k) = nI (Q (k + 2)) := by unfold sp_X0_b; rw [rd_2 (by omega) (by decide), hB.1.2.2.1]
  have ec : sp_X0_c 1024 f (nI k) = nI (Q (k + 3)) := by unfold sp_X0_c; rw [rd_3 (by omega) (by decide), hB.1.2.2.2]
  have en := rd_n (f := f) (k := k) (N := 1024) (by omega) (by decide) hB.1.2.2.1 hB.1.2.2.2
  have eR : sp_X0_hasRegistersOnly 1024 f (nI k) = 1 := by rw [hR_N (by omega) (by decide) hB (by decide), hr]; rfl
  have eI : sp_X0_hasInstruction (nI (16 * b)) (nI k) = 1 := hi_T hk (by omega) (by omega)
  have ekw : kf Q k = 1 := by unfold kf; rw [hw]; rfl
  have e6 : sp_X6_areRegisters 1 (nI (Q (k + 1))) (nI (Q (k + 2))) (nI (Q (k + 3))) = 1 := by rw [show (1 : Int32) = nI 1 from rfl]; rw [aR_N (by decide) (hG _) (hG _) (hG _), hr]; rfl
  have ecl : (nI k).toNatClampNeg = k := nI_clamp (by omega)
  have n1 : ¬ nI k < 0 := nI_pos (by omega)
  have n2 : ¬ nI (16 * b) ≤ nI k := fun q => absurd ((nI_leI (by omega) (by omega)).mp q) (by omega)
  have n3 : nI k - nI k / 4 * 4 = 0 := by rw [show nI k - nI k / 4 * 4 = nI (k % 4) from pk_rem (d := 4) (by omega) (by decide) (by decide), hk]; rfl
  have eka : kf Q (k + 1) = nI (Q (k + 1)) := rfl
  have ekb : kf Q (k + 2) = nI (Q (k + 2)) := rfl
  have ekc : kf Q (k + 3) = nI (Q (k + 3)) := rfl
  have hok := of_decide_eq_true hr
  have ra : Q (k + 1) ≤ 7 := hok.1 (by decide)
  clear hok
  clear hr hB e hG
  refine ⟨?_, ?_, ?_, ?_, ?_, ?_, ?_, ?_, ?_⟩
  all_goals by_cases hy : nI (256 * Q (k + 2) + Q (k + 3)) < 32768
  all_goals first | simp [ms_ret, ms_next, m6_ret, m6_next, sp_X1_step, sp_X1_step_registers, sp_X1_step_cells, sp_X1_step_address, sp_X1_step_steps, sp_X1_step_strays, sp_X1_step_slips, sp_X1_step_regionStores, sp_X1_step_latestStray, sp_X6_step, sp_X6_step_registers, sp_X6_step_memory, sp_X6_step_told, sp_X1_isWord, hpr, ew, ea, eb, ec, en, eR, eI, ekw, e6, ecl, g0, n1, n2, n3, eka, ekb, ekc, chg_7, val_N ra, chg_N ra, sp_X1_result, uu, hy, show ¬ 32768 ≤ nI (256 * Q (k + 2) + Q (k + 3)) from fun q => Int32.lt_irrefl (Int32.lt_of_lt_of_le hy q)] | simp [ms_ret, ms_next, m6_ret, m6_next, sp_X1_step, sp_X1_step_registers, sp_X1_step_cells, sp_X1_step_address, sp_X1_step_steps, sp_X1_step_strays, sp_X1_step_slips, sp_X1_step_regionStores, sp_X1_step_latestStray, sp_X6_step, sp_X6_step_registers, sp_X6_step_memory, sp_X6_step_told, sp_X1_isWord, hpr, ew, ea, eb, ec, en, eR, eI, ekw, e6, ecl, g0, n1, n2, n3, eka, ekb, ekc, chg_7, val_N ra, chg_N ra, sp_X1_result, uu, hy, Int32.not_lt.mp hy]
theorem sp0_2 {P Q : Nat → Nat} {f fr fm gt : Nat → Int32} {xB pr : Int32} {n b k : Nat} (hpr : pr = 0) (hb : b ≤ 64) (hk : k % 4 = 0) (hl : k + 3 < 16 * b) (hG : ∀ x, Q x < 256) (e : ∀ x, x < 16 * b → f x = nI (Q x)) (g0 : gt 0 = nI k) (hw : Q k = 2) (hr : okR 2 (Q (k + 1)) (Q (k + 2)) (Q (k + 3)) = true) : ms_ret 1024 f (nI (16 * b)) pr (fr, fm, nI k, gt 1, gt 2, gt 3, gt 4, gt 5) = m6_ret P Q n b pr (fr, fm, gt) ∧ RS (ms_next xB 1024 f (nI (16 * b)) pr (fr, fm, nI k, gt 1, gt 2, gt 3, gt 4, gt 5)) (m6_next P Q xB n b pr (fr, fm, gt)) := by
  have hB : By f k 2 (Q (k + 1)) (Q (k + 2)) (Q (k + 3)) := ⟨⟨by rw [e _ (by omega), hw], e _ (by omega), e _ (by omega), e _ (by omega)⟩, by decide, hG _, hG _, hG _⟩
  have ew : sp_X0_word 1024 f (nI k) = 2 := by rw [rd_w (by omega) (by decide), hB.1.1]; rfl
  have ea : sp_X0_a 1024 f (nI k) = nI (Q (k + 1)) := by rw [rd_a (by omega) (by decide), hB.1.2.1]
  have eb : sp_X0_b 1024 f (nI k) = nI (Q (k + 2)) := by unfold sp_X0_b; rw [rd_2 (by omega) (by decide), hB.1.2.2.1]
  have ec : sp_X0_c 1024 f (nI k) = nI (Q (k + 3)) := by unfold sp_X0_c; rw [rd_3 (by omega) (by decide), hB.1.2.2.2]
  have en := rd_n (f := f) (k := k) (N := 1024) (by omega) (by decide) hB.1.2.2.1 hB.1.2.2.2
  have eR : sp_X0_hasRegistersOnly 1024 f (nI k) = 1 := by rw [hR_N (by omega) (by decide) hB (by decide), hr]; rfl
  have eI : sp_X0_hasInstruction (nI (16 * b)) (nI k) = 1 := hi_T hk (by omega) (by omega)
  have ekw : kf Q k = 2 := by unfold kf; rw [hw]; rfl
  have e6 : sp_X6_areRegisters 2 (nI (Q (k + 1))) (nI (Q (k + 2))) (nI (Q (k + 3))) = 1 := by rw [show (2 : Int32) = nI 2 from rfl]; rw [aR_N (by decide) (hG _) (hG _) (hG _), hr]; rfl
  have ecl : (nI k).toNatClampNeg = k := nI_clamp (by omega)
  have n1 : ¬ nI k < 0 := nI_pos (by omega)
  have n2 : ¬ nI (16 * b) ≤ nI k := fun q => absurd ((nI_leI (by omega) (by omega)).mp q) (by omega)
  have n3 : nI k - nI k / 4 * 4 = 0 := by rw [show nI k - nI k / 4 * 4 = nI (k % 4) from pk_rem (d := 4) (by omega) (by decide) (by decide), hk]; rfl
  have eka : kf Q (k + 1) = nI (Q (k + 1)) := rfl
  have ekb : kf Q (k + 2) = nI (Q (k + 2)) := rfl
  have ekc : kf Q (k + 3) = nI (Q (k + 3)) := rfl
  have hok := of_decide_eq_true hr
  have ra : Q (k + 1) ≤ 7 := hok.1 (by decide)
  have rb : Q (k + 2) ≤ 7 := hok.2.1 (by decide)
  have rc : Q (k + 3) ≤ 7 := hok.2.2 (by decide)
  clear hok
  clear hr hB e hG
  refine ⟨?_, ?_, ?_, ?_, ?_, ?_, ?_, ?_, ?_⟩
  all_goals simp [ms_ret, ms_next, m6_ret, m6_next, sp_X1_step, sp_X1_step_registers, sp_X1_step_cells, sp_X1_step_address, sp_X1_step_steps, sp_X1_step_strays, sp_X1_step_slips, sp_X1_step_regionStores, sp_X1_step_latestStray, sp_X6_step, sp_X6_step_registers, sp_X6_step_memory, sp_X6_step_told, sp_X1_isWord, hpr, ew, ea, eb, ec, en, eR, eI, ekw, e6, ecl, g0, n1, n2, n3, eka, ekb, ekc, chg_7, val_N ra, chg_N ra, val_N rb, val_N rc, sp_X1_result, sp_X6_operated, uu]
theorem sp0_3 {P Q : Nat → Nat} {f fr fm gt : Nat → Int32} {xB pr : Int32} {n b k : Nat} (hpr : pr = 0) (hb : b ≤ 64) (hk : k % 4 = 0) (hl : k + 3 < 16 * b) (hG : ∀ x, Q x < 256) (e : ∀ x, x < 16 * b → f x = nI (Q x)) (g0 : gt 0 = nI k) (hw : Q k = 3) (hr : okR 3 (Q (k + 1)) (Q (k + 2)) (Q (k + 3)) = true) : ms_ret 1024 f (nI (16 * b)) pr (fr, fm, nI k, gt 1, gt 2, gt 3, gt 4, gt 5) = m6_ret P Q n b pr (fr, fm, gt) ∧ RS (ms_next xB 1024 f (nI (16 * b)) pr (fr, fm, nI k, gt 1, gt 2, gt 3, gt 4, gt 5)) (m6_next P Q xB n b pr (fr, fm, gt)) := by
  have hB : By f k 3 (Q (k + 1)) (Q (k + 2)) (Q (k + 3)) := ⟨⟨by rw [e _ (by omega), hw], e _ (by omega), e _ (by omega), e _ (by omega)⟩, by decide, hG _, hG _, hG _⟩
  have ew : sp_X0_word 1024 f (nI k) = 3 := by rw [rd_w (by omega) (by decide), hB.1.1]; rfl
  have ea : sp_X0_a 1024 f (nI k) = nI (Q (k + 1)) := by rw [rd_a (by omega) (by decide), hB.1.2.1]
  have eb : sp_X0_b 1024 f (nI k) = nI (Q (k + 2)) := by unfold sp_X0_b; rw [rd_2 (by omega) (by decide), hB.1.2.2.1]
  have ec : sp_X0_c 1024 f (nI k) = nI (Q (k + 3)) := by unfold sp_X0_c; rw [rd_3 (by omega) (by decide), hB.1.2.2.2]
  have en := rd_n (f := f) (k := k) (N := 1024) (by omega) (by decide) hB.1.2.2.1 hB.1.2.2.2
  have eR : sp_X0_hasRegistersOnly 1024 f (nI k) = 1 := by rw [hR_N (by omega) (by decide) hB (by decide), hr]; rfl
  have eI : sp_X0_hasInstruction (nI (16 * b)) (nI k) = 1 := hi_T hk (by omega) (by omega)
  have ekw : kf Q k = 3 := by unfold kf; rw [hw]; rfl
  have e6 : sp_X6_areRegisters 3 (nI (Q (k + 1))) (nI (Q (k + 2))) (nI (Q (k + 3))) = 1 := by rw [show (3 : Int32) = nI 3 from rfl]; rw [aR_N (by decide) (hG _) (hG _) (hG _), hr]; rfl
  have ecl : (nI k).toNatClampNeg = k := nI_clamp (by omega)
  have n1 : ¬ nI k < 0 := nI_pos (by omega)
  have n2 : ¬ nI (16 * b) ≤ nI k := fun q => absurd ((nI_leI (by omega) (by omega)).mp q) (by omega)
  have n3 : nI k - nI k / 4 * 4 = 0 := by rw [show nI k - nI k / 4 * 4 = nI (k % 4) from pk_rem (d := 4) (by omega) (by decide) (by decide), hk]; rfl
  have eka : kf Q (k + 1) = nI (Q (k + 1)) := rfl
  have ekb : kf Q (k + 2) = nI (Q (k + 2)) := rfl
  have ekc : kf Q (k + 3) = nI (Q (k + 3)) := rfl
  have hok := of_decide_eq_true hr
  have ra : Q (k + 1) ≤ 7 := hok.1 (by decide)
  have rb : Q (k + 2) ≤ 7 := hok.2.1 (by decide)
  have rc : Q (k + 3) ≤ 7 := hok.2.2 (by decide)
  clear hok
  clear hr hB e hG
  refine ⟨?_, ?_, ?_, ?_, ?_, ?_, ?_, ?_, ?_⟩
  all_goals simp [ms_ret, ms_next, m6_ret, m6_next, sp_X1_step, sp_X1_step_registers, sp_X1_step_cells, sp_X1_step_address, sp_X1_step_steps, sp_X1_step_strays, sp_X1_step_slips, sp_X1_step_regionStores, sp_X1_step_latestStray, sp_X6_step, sp_X6_step_registers, sp_X6_step_memory, sp_X6_step_told, sp_X1_isWord, hpr, ew, ea, eb, ec, en, eR, eI, ekw, e6, ecl, g0, n1, n2, n3, eka, ekb, ekc, chg_7, val_N ra, chg_N ra, val_N rb, val_N rc, sp_X1_result, sp_X6_operated, uu]
theorem sp0_4 {P Q : Nat → Nat} {f fr fm gt : Nat → Int32} {xB pr : Int32} {n b k : Nat} (hpr : pr = 0) (hb : b ≤ 64) (hk : k % 4 = 0) (hl : k + 3 < 16 * b) (hG : ∀ x, Q x < 256) (e : ∀ x, x < 16 * b → f x = nI (Q x)) (g0 : gt 0 = nI k) (hw : Q k = 4) (hr : okR 4 (Q (k + 1)) (Q (k + 2)) (Q (k + 3)) = true) : ms_ret 1024 f (nI (16 * b)) pr (fr, fm, nI k, gt 1, gt 2, gt 3, gt 4, gt 5) = m6_ret P Q n b pr (fr, fm, gt) ∧ RS (ms_next xB 1024 f (nI (16 * b)) pr (fr, fm, nI k, gt 1, gt 2, gt 3, gt 4, gt 5)) (m6_next P Q xB n b pr (fr, fm, gt)) := by
  have hB : By f k 4 (Q (k + 1)) (Q (k + 2)) (Q (k + 3)) := ⟨⟨by rw [e _ (by omega), hw], e _ (by omega), e _ (by omega), e _ (by omega)⟩, by decide, hG _, hG _, hG _⟩
  have ew : sp_X0_word 1024 f (nI k) = 4 := by rw [rd_w (by omega) (by decide), hB.1.1]; rfl
  have ea : sp_X0_a 1024 f (nI k) = nI (Q (k + 1)) := by rw [rd_a (by omega) (by decide), hB.1.2.1]
  have eb : sp_X0_b 1024 f (nI k) = nI (Q (k + 2)) := by unfold sp_X0_b; rw [rd_2 (by omega) (by decide), hB.1.2.2.1]
  have ec : sp_X0_c 1024 f (nI k) = nI (Q (k + 3)) := by unfold sp_X0_c; rw [rd_3 (by omega) (by decide), hB.1.2.2.2]
  have en := rd_n (f := f) (k := k) (N := 1024) (by omega) (by decide) hB.1.2.2.1 hB.1.2.2.2
  have eR : sp_X0_hasRegistersOnly 1024 f (nI k) = 1 := by rw [hR_N (by omega) (by decide) hB (by decide), hr]; rfl
  have eI : sp_X0_hasInstruction (nI (16 * b)) (nI k) = 1 := hi_T hk (by omega) (by omega)
  have ekw : kf Q k = 4 := by unfold kf; rw [hw]; rfl
  have e6 : sp_X6_areRegisters 4 (nI (Q (k + 1))) (nI (Q (k + 2))) (nI (Q (k + 3))) = 1 := by rw [show (4 : Int32) = nI 4 from rfl]; rw [aR_N (by decide) (hG _) (hG _) (hG _), hr]; rfl
  have ecl : (nI k).toNatClampNeg = k := nI_clamp (by omega)
  have n1 : ¬ nI k < 0 := nI_pos (by omega)
  have n2 : ¬ nI (16 * b) ≤ nI k := fun q => absurd ((nI_leI (by omega) (by omega)).mp q) (by omega)
  have n3 : nI k - nI k / 4 * 4 = 0 := by rw [show nI k - nI k / 4 * 4 = nI (k % 4) from pk_rem (d := 4) (by omega) (by decide) (by decide), hk]; rfl
  have eka : kf Q (k + 1) = nI (Q (k + 1)) := rfl
  have ekb : kf Q (k + 2) = nI (Q (k + 2)) := rfl
  have ekc : kf Q (k + 3) = nI (Q (k + 3)) := rfl
  have hok := of_decide_eq_true hr
  have ra : Q (k + 1) ≤ 7 := hok.1 (by decide)
  have rb : Q (k + 2) ≤ 7 := hok.2.1 (by decide)
  have rc : Q (k + 3) ≤ 7 := hok.2.2 (by decide)
  clear hok
  clear hr hB e hG
  refine ⟨?_, ?_, ?_, ?_, ?_, ?_, ?_, ?_, ?_⟩
  all_goals simp [ms_ret, ms_next, m6_ret, m6_next, sp_X1_step, sp_X1_step_registers, sp_X1_step_cells, sp_X1_step_address, sp_X1_step_steps, sp_X1_step_strays, sp_X1_step_slips, sp_X1_step_regionStores, sp_X1_step_latestStray, sp_X6_step, sp_X6_step_registers, sp_X6_step_memory, sp_X6_step_told, sp_X1_isWord, hpr, ew, ea, eb, ec, en, eR, eI, ekw, e6, ecl, g0, n1, n2, n3, eka, ekb, ekc, chg_7, val_N ra, chg_N ra, val_N rb, val_N rc, sp_X1_result, sp_X6_operated, uu]
theorem sp0_5 {P Q : Nat → Nat} {f fr fm gt : Nat → Int32} {xB pr : Int32} {n b k : Nat} (hpr : pr = 0) (hb : b ≤ 64) (hk : k % 4 = 0) (hl : k + 3 < 16 * b) (hG : ∀ x, Q x < 256) (e : ∀ x, x < 16 * b → f x = nI (Q x)) (g0 : gt 0 = nI k) (hw : Q k = 5) (hr : okR 5 (Q (k + 1)) (Q (k + 2)) (Q (k + 3)) = true) : ms_ret 1024 f (nI (16 * b)) pr (fr, fm, nI k, gt 1, gt 2, gt 3, gt 4, gt 5) = m6_ret P Q n b pr (fr, fm, gt) ∧ RS (ms_next xB 1024 f (nI (16 * b)) pr (fr, fm, nI k, gt 1, gt 2, gt 3, gt 4, gt 5)) (m6_next P Q xB n b pr (fr, fm, gt)) := by
  have hB : By f k 5 (Q (k + 1)) (Q (k + 2)) (Q (k + 3)) := ⟨⟨by rw [e _ (by omega), hw], e _ (by omega), e _ (by omega), e _ (by omega)⟩, by decide, hG _, hG _, hG _⟩
  have ew : sp_X0_word 1024 f (nI k) = 5 := by rw [rd_w (by omega) (by decide), hB.1.1]; rfl
  have ea : sp_X0_a 1024 f (nI k) = nI (Q (k + 1)) := by rw [rd_a (by omega) (by decide), hB.1.2.1]
  have eb : sp_X0_b 1024 f (nI k) = nI (Q (k + 2)) := by unfold sp_X0_b; rw [rd_2 (by omega) (by decide), hB.1.2.2.1]
  have ec : sp_X0_c 1024 f (nI k) = nI (Q (k + 3)) := by unfold sp_X0_c; rw [rd_3 (by omega) (by decide), hB.1.2.2.2]
  have en := rd_n (f := f) (k := k) (N := 1024) (by omega) (by decide) hB.1.2.2.1 hB.1.2.2.2
  have eR : sp_X0_hasRegistersOnly 1024 f (nI k) = 1 := by rw [hR_N (by omega) (by decide) hB (by decide), hr]; rfl
  have eI : sp_X0_hasInstruction (nI (16 * b)) (nI k) = 1 := hi_T hk (by omega) (by omega)
  have ekw : kf Q k = 5 := by unfold kf; rw [hw]; rfl
  have e6 : sp_X6_areRegisters 5 (nI (Q (k + 1))) (nI (Q (k + 2))) (nI (Q (k + 3))) = 1 := by rw [show (5 : Int32) = nI 5 from rfl]; rw [aR_N (by decide) (hG _) (hG _) (hG _), hr]; rfl
  have ecl : (nI k).toNatClampNeg = k := nI_clamp (by omega)
  have n1 : ¬ nI k < 0 := nI_pos (by omega)
  have n2 : ¬ nI (16 * b) ≤ nI k := fun q => absurd ((nI_leI (by omega) (by omega)).mp q) (by omega)
  have n3 : nI k - nI k / 4 * 4 = 0 := by rw [show nI k - nI k / 4 * 4 = nI (k % 4) from pk_rem (d := 4) (by omega) (by decide) (by decide), hk]; rfl
  have eka : kf Q (k + 1) = nI (Q (k + 1)) := rfl
  have ekb : kf Q (k + 2) = nI (Q (k + 2)) := rfl
  have ekc : kf Q (k + 3) = nI (Q (k + 3)) := rfl
  have hok := of_decide_eq_true hr
  have ra : Q (k + 1) ≤ 7 := hok.1 (by decide)
  have rb : Q (k + 2) ≤ 7 := hok.2.1 (by decide)
  have rc : Q (k + 3) ≤ 7 := hok.2.2 (by decide)
  clear hok
  clear hr hB e hG
  refine ⟨?_, ?_, ?_, ?_, ?_, ?_, ?_, ?_, ?_⟩
  all_goals simp [ms_ret, ms_next, m6_ret, m6_next, sp_X1_step, sp_X1_step_registers, sp_X1_step_cells, sp_X1_step_address, sp_X1_step_steps, sp_X1_step_strays, sp_X1_step_slips, sp_X1_step_regionStores, sp_X1_step_latestStray, sp_X6_step, sp_X6_step_registers, sp_X6_step_memory, sp_X6_step_told, sp_X1_isWord, hpr, ew, ea, eb, ec, en, eR, eI, ekw, e6, ecl, g0, n1, n2, n3, eka, ekb, ekc, chg_7, val_N ra, chg_N ra, val_N rb, val_N rc, sp_X1_result, sp_X6_operated, uu]
theorem sp0_6 {P Q : Nat → Nat} {f fr fm gt : Nat → Int32} {xB pr : Int32} {n b k : Nat} (hpr : pr = 0) (hb : b ≤ 64) (hk : k % 4 = 0) (hl : k + 3 < 16 * b) (hG : ∀ x, Q x < 256) (e : ∀ x, x < 16 * b → f x = nI (Q x)) (g0 : gt 0 = nI k) (hw : Q k = 6) (hr : okR 6 (Q (k + 1)) (Q (k + 2)) (Q (k + 3)) = true) : ms_ret 1024 f (nI (16 * b)) pr (fr, fm, nI k, gt 1, gt 2, gt 3, gt 4, gt 5) = m6_ret P Q n b pr (fr, fm, gt) ∧ RS (ms_next xB 1024 f (nI (16 * b)) pr (fr, fm, nI k, gt 1, gt 2, gt 3, gt 4, gt 5)) (m6_next P Q xB n b pr (fr, fm, gt)) := by
  have hB : By f k 6 (Q (k + 1)) (Q (k + 2)) (Q (k + 3)) := ⟨⟨by rw [e _ (by omega), hw], e _ (by omega), e _ (by omega), e _ (by omega)⟩, by decide, hG _, hG _, hG _⟩
  have ew : sp_X0_word 1024 f (nI k) = 6 := by rw [rd_w (by omega) (by decide), hB.1.1]; rfl
  have ea : sp_X0_a 1024 f (nI k) = nI (Q (k + 1)) := by rw [rd_a (by omega) (by decide), hB.1.2.1]
  have eb : sp_X0_b 1024 f (nI k) = nI (Q (k + 2)) := by unfold sp_X0_b; rw [rd_2 (by omega) (by decide), hB.1.2.2.1]
  have ec : sp_X0_c 1024 f (nI k) = nI (Q (k + 3)) := by unfold sp_X0_c; rw [rd_3 (by omega) (by decide), hB.1.2.2.2]
  have en := rd_n (f := f) (k := k) (N := 1024) (by omega) (by decide) hB.1.2.2.1 hB.1.2.2.2
  have eR : sp_X0_hasRegistersOnly 1024 f (nI k) = 1 := by rw [hR_N (by omega) (by decide) hB (by decide), hr]; rfl
  have eI : sp_X0_hasInstruction (nI (16 * b)) (nI k) = 1 := hi_T hk (by omega) (by omega)
  have ekw : kf Q k = 6 := by unfold kf; rw [hw]; rfl
  have e6 : sp_X6_areRegisters 6 (nI (Q (k + 1))) (nI (Q (k + 2))) (nI (Q (k + 3))) = 1 := by rw [show (6 : Int32) = nI 6 from rfl]; rw [aR_N (by decide) (hG _) (hG _) (hG _), hr]; rfl
  have ecl : (nI k).toNatClampNeg = k := nI_clamp (by omega)
  have n1 : ¬ nI k < 0 := nI_pos (by omega)
  have n2 : ¬ nI (16 * b) ≤ nI k := fun q => absurd ((nI_leI (by omega) (by omega)).mp q) (by omega)
  have n3 : nI k - nI k / 4 * 4 = 0 := by rw [show nI k - nI k / 4 * 4 = nI (k % 4) from pk_rem (d := 4) (by omega) (by decide) (by decide), hk]; rfl
  have eka : kf Q (k + 1) = nI (Q (k + 1)) := rfl
  have ekb : kf Q (k + 2) = nI (Q (k + 2)) := rfl
  have ekc : kf Q (k + 3) = nI (Q (k + 3)) := rfl
  have hok := of_decide_eq_true hr
  have ra : Q (k + 1) ≤ 7 := hok.1 (by decide)
  have rb : Q (k + 2) ≤ 7 := hok.2.1 (by decide)
  have rc : Q (k + 3) ≤ 7 := hok.2.2 (by decide)
  clear hok
  clear hr hB e hG
  refine ⟨?_, ?_, ?_, ?_, ?_, ?_, ?_, ?_, ?_⟩
  all_goals simp [ms_ret, ms_next, m6_ret, m6_next, sp_X1_step, sp_X1_step_registers, sp_X1_step_cells, sp_X1_step_address, sp_X1_step_steps, sp_X1_step_strays, sp_X1_step_slips, sp_X1_step_regionStores, sp_X1_step_latestStray, sp_X6_step, sp_X6_step_registers, sp_X6_step_memory, sp_X6_step_told, sp_X1_isWord, hpr, ew, ea, eb, ec, en, eR, eI, ekw, e6, ecl, g0, n1, n2, n3, eka, ekb, ekc, chg_7, val_N ra, chg_N ra, val_N rb, val_N rc, sp_X1_result, sp_X6_operated, uu]
theorem sp0_7 {P Q : Nat → Nat} {f fr fm gt : Nat → Int32} {xB pr : Int32} {n b k : Nat} (hpr : pr = 0) (hb : b ≤ 64) (hk : k % 4 = 0) (hl : k + 3 < 16 * b) (hG : ∀ x, Q x < 256) (e : ∀ x, x < 16 * b → f x = nI (Q x)) (g0 : gt 0 = nI k) (hw : Q k = 7) (hr : okR 7 (Q (k + 1)) (Q (k + 2)) (Q (k + 3)) = true) : ms_ret 1024 f (nI (16 * b)) pr (fr, fm, nI k, gt 1, gt 2, gt 3, gt 4, gt 5) = m6_ret P Q n b pr (fr, fm, gt) ∧ RS (ms_next xB 1024 f (nI (16 * b)) pr (fr, fm, nI k, gt 1, gt 2, gt 3, gt 4, gt 5)) (m6_next P Q xB n b pr (fr, fm, gt)) := by
  have hB : By f k 7 (Q (k + 1)) (Q (k + 2)) (Q (k + 3)) := ⟨⟨by rw [e _ (by omega), hw], e _ (by omega), e _ (by omega), e _ (by omega)⟩, by decide, hG _, hG _, hG _⟩
  have ew : sp_X0_word 1024 f (nI k) = 7 := by rw [rd_w (by omega) (by decide), hB.1.1]; rfl
  have ea : sp_X0_a 1024 f (nI k) = nI (Q (k + 1)) := by rw [rd_a (by omega) (by decide), hB.1.2.1]
  have eb : sp_X0_b 1024 f (nI k) = nI (Q (k + 2)) := by unfold sp_X0_b; rw [rd_2 (by omega) (by decide), hB.1.2.2.1]
  have ec : sp_X0_c 1024 f (nI k) = nI (Q (k + 3)) := by unfold sp_X0_c; rw [rd_3 (by omega) (by decide), hB.1.2.2.2]
  have en := rd_n (f := f) (k := k) (N := 1024) (by omega) (by decide) hB.1.2.2.1 hB.1.2.2.2
  have eR : sp_X0_hasRegistersOnly 1024 f (nI k) = 1 := by rw [hR_N (by omega) (by decide) hB (by decide), hr]; rfl
  have eI : sp_X0_hasInstruction (nI (16 * b)) (nI k) = 1 := hi_T hk (by omega) (by omega)
  have ekw : kf Q k = 7 := by unfold kf; rw [hw]; rfl
  have e6 : sp_X6_areRegisters 7 (nI (Q (k + 1))) (nI (Q (k + 2))) (nI (Q (k + 3))) = 1 := by rw [show (7 : Int32) = nI 7 from rfl]; rw [aR_N (by decide) (hG _) (hG _) (hG _), hr]; rfl
  have ecl : (nI k).toNatClampNeg = k := nI_clamp (by omega)
  have n1 : ¬ nI k < 0 := nI_pos (by omega)
  have n2 : ¬ nI (16 * b) ≤ nI k := fun q => absurd ((nI_leI (by omega) (by omega)).mp q) (by omega)
  have n3 : nI k - nI k / 4 * 4 = 0 := by rw [show nI k - nI k / 4 * 4 = nI (k % 4) from pk_rem (d := 4) (by omega) (by decide) (by decide), hk]; rfl
  have eka : kf Q (k + 1) = nI (Q (k + 1)) := rfl
  have ekb : kf Q (k + 2) = nI (Q (k + 2)) := rfl
  have ekc : kf Q (k + 3) = nI (Q (k + 3)) := rfl
  have hok := of_decide_eq_true hr
  have ra : Q (k + 1) ≤ 7 := hok.1 (by decide)
  have rb : Q (k + 2) ≤ 7 := hok.2.1 (by decide)
  have rc : Q (k + 3) ≤ 7 := hok.2.2 (by decide)
  clear hok
  clear hr hB e hG
  refine ⟨?_, ?_, ?_, ?_, ?_, ?_, ?_, ?_, ?_⟩
  all_goals simp [ms_ret, ms_next, m6_ret, m6_next, sp_X1_step, sp_X1_step_registers, sp_X1_step_cells, sp_X1_step_address, sp_X1_step_steps, sp_X1_step_strays, sp_X1_step_slips, sp_X1_step_regionStores, sp_X1_step_latestStray, sp_X6_step, sp_X6_step_registers, sp_X6_step_memory, sp_X6_step_told, sp_X1_isWord, hpr, ew, ea, eb, ec, en, eR, eI, ekw, e6, ecl, g0, n1, n2, n3, eka, ekb, ekc, chg_7, val_N ra, chg_N ra, val_N rb, val_N rc, sp_X1_result, sp_X6_operated, uu]
theorem sp0_8 {P Q : Nat → Nat} {f fr fm gt : Nat → Int32} {xB pr : Int32} {n b k : Nat} (hpr : pr = 0) (hb : b ≤ 64) (hk : k % 4 = 0) (hl : k + 3 < 16 * b) (hG : ∀ x, Q x < 256) (e : ∀ x, x < 16 * b → f x = nI (Q x)) (g0 : gt 0 = nI k) (hw : Q k = 8) (hr : okR 8 (Q (k + 1)) (Q (k + 2)) (Q (k + 3)) = true) : ms_ret 1024 f (nI (16 * b)) pr (fr, fm, nI k, gt 1, gt 2, gt 3, gt 4, gt 5) = m6_ret P Q n b pr (fr, fm, gt) ∧ RS (ms_next xB 1024 f (nI (16 * b)) pr (fr, fm, nI k, gt 1, gt 2, gt 3, gt 4, gt 5)) (m6_next P Q xB n b pr (fr, fm, gt)) := by
  have hB : By f k 8 (Q (k + 1)) (Q (k + 2)) (Q (k + 3)) := ⟨⟨by rw [e _ (by omega), hw], e _ (by omega), e _ (by omega), e _ (by omega)⟩, by decide, hG _, hG _, hG _⟩
  have ew : sp_X0_word 1024 f (nI k) = 8 := by rw [rd_w (by omega) (by decide), hB.1.1]; rfl
  have ea : sp_X0_a 1024 f (nI k) = nI (Q (k + 1)) := by rw [rd_a (by omega) (by decide), hB.1.2.1]
  have eb : sp_X0_b 1024 f (nI k) = nI (Q (k + 2)) := by unfold sp_X0_b; rw [rd_2 (by omega) (by decide), hB.1.2.2.1]
  have ec : sp_X0_c 1024 f (nI k) = nI (Q (k + 3)) := by unfold sp_X0_c; rw [rd_3 (by omega) (by decide), hB.1.2.2.2]
  have en := rd_n (f := f) (k := k) (N := 1024) (by omega) (by decide) hB.1.2.2.1 hB.1.2.2.2
  have eR : sp_X0_hasRegistersOnly 1024 f (nI k) = 1 := by rw [hR_N (by omega) (by decide) hB (by decide), hr]; rfl
  have eI : sp_X0_hasInstruction (nI (16 * b)) (nI k) = 1 := hi_T hk (by omega) (by omega)
  have ekw : kf Q k = 8 := by unfold kf; rw [hw]; rfl
  have e6 : sp_X6_areRegisters 8 (nI (Q (k + 1))) (nI (Q (k + 2))) (nI (Q (k + 3))) = 1 := by rw [show (8 : Int32) = nI 8 from rfl]; rw [aR_N (by decide) (hG _) (hG _) (hG _), hr]; rfl
  have ecl : (nI k).toNatClampNeg = k := nI_clamp (by omega)
  have n1 : ¬ nI k < 0 := nI_pos (by omega)
  have n2 : ¬ nI (16 * b) ≤ nI k := fun q => absurd ((nI_leI (by omega) (by omega)).mp q) (by omega)
  have n3 : nI k - nI k / 4 * 4 = 0 := by rw [show nI k - nI k / 4 * 4 = nI (k % 4) from pk_rem (d := 4) (by omega) (by decide) (by decide), hk]; rfl
  have eka : kf Q (k + 1) = nI (Q (k + 1)) := rfl
  have ekb : kf Q (k + 2) = nI (Q (k + 2)) := rfl
  have ekc : kf Q (k + 3) = nI (Q (k + 3)) := rfl
  have hok := of_decide_eq_true hr
  have ra : Q (k + 1) ≤ 7 := hok.1 (by decide)
  have rb : Q (k + 2) ≤ 7 := hok.2.1 (by decide)
  have rc : Q (k + 3) ≤ 7 := hok.2.2 (by decide)
  clear hok
  clear hr hB e hG
  refine ⟨?_, ?_, ?_, ?_, ?_, ?_, ?_, ?_, ?_⟩
  all_goals simp [ms_ret, ms_next, m6_ret, m6_next, sp_X1_step, sp_X1_step_registers, sp_X1_step_cells, sp_X1_step_address, sp_X1_step_steps, sp_X1_step_strays, sp_X1_step_slips, sp_X1_step_regionStores, sp_X1_step_latestStray, sp_X6_step, sp_X6_step_registers, sp_X6_step_memory, sp_X6_step_told, sp_X1_isWord, hpr, ew, ea, eb, ec, en, eR, eI, ekw, e6, ecl, g0, n1, n2, n3, eka, ekb, ekc, chg_7, val_N ra, chg_N ra, val_N rb, val_N rc, sp_X1_result, sp_X6_operated, uu]
theorem sp0_9 {P Q : Nat → Nat} {f fr fm gt : Nat → Int32} {xB pr : Int32} {n b k : Nat} (hpr : pr = 0) (hb : b ≤ 64) (hk : k % 4 = 0) (hl : k + 3 < 16 * b) (hG : ∀ x, Q x < 256) (e : ∀ x, x < 16 * b → f x = nI (Q x)) (g0 : gt 0 = nI k) (hw : Q k = 9) (hr : okR 9 (Q (k + 1)) (Q (k + 2)) (Q (k + 3)) = true) : ms_ret 1024 f (nI (16 * b)) pr (fr, fm, nI k, gt 1, gt 2, gt 3, gt 4, gt 5) = m6_ret P Q n b pr (fr, fm, gt) ∧ RS (ms_next xB 1024 f (nI (16 * b)) pr (fr, fm, nI k, gt 1, gt 2, gt 3, gt 4, gt 5)) (m6_next P Q xB n b pr (fr, fm, gt)) := by
  have hB : By f k 9 (Q (k + 1)) (Q (k + 2)) (Q (k + 3)) := ⟨⟨by rw [e _ (by omega), hw], e _ (by omega), e _ (by omega), e _ (by omega)⟩, by decide, hG _, hG _, hG _⟩
  have ew : sp_X0_word 1024 f (nI k) = 9 := by rw [rd_w (by omega) (by decide), hB.1.1]; rfl
  have ea : sp_X0_a 1024 f (nI k) = nI (Q (k + 1)) := by rw [rd_a (by omega) (by decide), hB.1.2.1]
  have eb : sp_X0_b 1024 f (nI k) = nI (Q (k + 2)) := by unfold sp_X0_b; rw [rd_2 (by omega) (by decide), hB.1.2.2.1]
  have ec : sp_X0_c 1024 f (nI k) = nI (Q (k + 3)) := by unfold sp_X0_c; rw [rd_3 (by omega) (by decide), hB.1.2.2.2]
  have en := rd_n (f := f) (k := k) (N := 1024) (by omega) (by decide) hB.1.2.2.1 hB.1.2.2.2
  have eR : sp_X0_hasRegistersOnly 1024 f (nI k) = 1 := by rw [hR_N (by omega) (by decide) hB (by decide), hr]; rfl
  have eI : sp_X0_hasInstruction (nI (16 * b)) (nI k) = 1 := hi_T hk (by omega) (by omega)
  have ekw : kf Q k = 9 := by unfold kf; rw [hw]; rfl
  have e6 : sp_X6_areRegisters 9 (nI (Q (k + 1))) (nI (Q (k + 2))) (nI (Q (k + 3))) = 1 := by rw [show (9 : Int32) = nI 9 from rfl]; rw [aR_N (by decide) (hG _) (hG _) (hG _), hr]; rfl
  have ecl : (nI k).toNatClampNeg = k := nI_clamp (by omega)
  have n1 : ¬ nI k < 0 := nI_pos (by omega)
  have n2 : ¬ nI (16 * b) ≤ nI k := fun q => absurd ((nI_leI (by omega) (by omega)).mp q) (by omega)
  have n3 : nI k - nI k / 4 * 4 = 0 := by rw [show nI k - nI k / 4 * 4 = nI (k % 4) from pk_rem (d := 4) (by omega) (by decide) (by decide), hk]; rfl
  have eka : kf Q (k + 1) = nI (Q (k + 1)) := rfl
  have ekb : kf Q (k + 2) = nI (Q (k + 2)) := rfl
  have ekc : kf Q (k + 3) = nI (Q (k + 3)) := rfl
  have hok := of_decide_eq_true hr
  have ra : Q (k + 1) ≤ 7 := hok.1 (by decide)
  have rb : Q (k + 2) ≤ 7 := hok.2.1 (by decide)
  clear hok
  clear hr hB e hG
  refine ⟨?_, ?_, ?_, ?_, ?_, ?_, ?_, ?_, ?_⟩
  all_goals simp [ms_ret, ms_next, m6_ret, m6_next, sp_X1_step, sp_X1_step_registers, sp_X1_step_cells, sp_X1_step_address, sp_X1_step_steps, sp_X1_step_strays, sp_X1_step_slips, sp_X1_step_regionStores, sp_X1_step_latestStray, sp_X6_step, sp_X6_step_registers, sp_X6_step_memory, sp_X6_step_told, sp_X1_isWord, hpr, ew, ea, eb, ec, en, eR, eI, ekw, e6, ecl, g0, n1, n2, n3, eka, ekb, ekc, chg_7, val_N ra, chg_N ra, val_N rb, sp_X1_result, uu]
theorem sp0_10 {P Q : Nat → Nat} {f fr fm gt : Nat → Int32} {xB pr : Int32} {n b k : Nat} (hpr : pr = 0) (hb : b ≤ 64) (hk : k % 4 = 0) (hl : k + 3 < 16 * b) (hG : ∀ x, Q x < 256) (e : ∀ x, x < 16 * b → f x = nI (Q x)) (g0 : gt 0 = nI k) (hw : Q k = 10) (hr : okR 10 (Q (k + 1)) (Q (k + 2)) (Q (k + 3)) = true) : ms_ret 1024 f (nI (16 * b)) pr (fr, fm, nI k, gt 1, gt 2, gt 3, gt 4, gt 5) = m6_ret P Q n b pr (fr, fm, gt) ∧ RS (ms_next xB 1024 f (nI (16 * b)) pr (fr, fm, nI k, gt 1, gt 2, gt 3, gt 4, gt 5)) (m6_next P Q xB n b pr (fr, fm, gt)) := by
  have hB : By f k 10 (Q (k + 1)) (Q (k + 2)) (Q (k + 3)) := ⟨⟨by rw [e _ (by omega), hw], e _ (by omega), e _ (by omega), e _ (by omega)⟩, by decide, hG _, hG _, hG _⟩
  have ew : sp_X0_word 1024 f (nI k) = 10 := by rw [rd_w (by omega) (by decide), hB.1.1]; rfl
  have ea : sp_X0_a 1024 f (nI k) = nI (Q (k + 1)) := by rw [rd_a (by omega) (by decide), hB.1.2.1]
  have eb : sp_X0_b 1024 f (nI k) = nI (Q (k + 2)) := by unfold sp_X0_b; rw [rd_2 (by omega) (by decide), hB.1.2.2.1]
  have ec : sp_X0_c 1024 f (nI k) = nI (Q (k + 3)) := by unfold sp_X0_c; rw [rd_3 (by omega) (by decide), hB.1.2.2.2]
  have en := rd_n (f := f) (k := k) (N := 1024) (by omega) (by decide) hB.1.2.2.1 hB.1.2.2.2
  have eR : sp_X0_hasRegistersOnly 1024 f (nI k) = 1 := by rw [hR_N (by omega) (by decide) hB (by decide), hr]; rfl
  have eI : sp_X0_hasInstruction (nI (16 * b)) (nI k) = 1 := hi_T hk (by omega) (by omega)
  have ekw : kf Q k = 10 := by unfold kf; rw [hw]; rfl
  have e6 : sp_X6_areRegisters 10 (nI (Q (k + 1))) (nI (Q (k + 2))) (nI (Q (k + 3))) = 1 := by rw [show (10 : Int32) = nI 10 from rfl]; rw [aR_N (by decide) (hG _) (hG _) (hG _), hr]; rfl
  have ecl : (nI k).toNatClampNeg = k := nI_clamp (by omega)
  have n1 : ¬ nI k < 0 := nI_pos (by omega)
  have n2 : ¬ nI (16 * b) ≤ nI k := fun q => absurd ((nI_leI (by omega) (by omega)).mp q) (by omega)
  have n3 : nI k - nI k / 4 * 4 = 0 := by rw [show nI k - nI k / 4 * 4 = nI (k % 4) from pk_rem (d := 4) (by omega) (by decide) (by decide), hk]; rfl
  have eka : kf Q (k + 1) = nI (Q (k + 1)) := rfl
  have ekb : kf Q (k + 2) = nI (Q (k + 2)) := rfl
  have ekc : kf Q (k + 3) = nI (Q (k + 3)) := rfl
  have hok := of_decide_eq_true hr
  have ra : Q (k + 1) ≤ 7 := hok.1 (by decide)
  have rb : Q (k + 2) ≤ 7 := hok.2.1 (by decide)
  clear hok
  clear hr hB e hG
  refine ⟨?_, ?_, ?_, ?_, ?_, ?_, ?_, ?_, ?_⟩
  all_goals simp [ms_ret, ms_next, m6_ret, m6_next, sp_X1_step, sp_X1_step_registers, sp_X1_step_cells, sp_X1_step_address, sp_X1_step_steps, sp_X1_step_strays, sp_X1_step_slips, sp_X1_step_regionStores, sp_X1_step_latestStray, sp_X6_step, sp_X6_step_registers, sp_X6_step_memory, sp_X6_step_told, sp_X1_isWord, sp_X1_reach, sp_X1_reach_address, sp_X1_reach_strays, sp_X1_reach_regionStores, sp_X1_reach_latestStray, sp_X1_reach_registers, sp_X1_reach_cells, sp_X6_touch, sp_X6_touch_registers, sp_X6_touch_memory, sp_X6_touch_told, iim_N, hpr, ew, ea, eb, ec, en, eR, eI, ekw, e6, ecl, g0, n1, n2, n3, eka, ekb, ekc, chg_7, val_N ra, chg_N ra, val_N rb]
  all_goals
    generalize fr (Q (k + 2)) + nI (Q (k + 3)) = x
    by_cases h0 : x < 0
    · have h0' : ¬ 0 ≤ x := Int32.not_le.mpr h0
      simp [g0, h0, h0', uu]
    · have h0' : 0 ≤ x := Int32.not_lt.mp h0
      by_cases h1 : x ≤ 4095
      · have h1' : ¬ 4095 < x := Int32.not_lt.mpr h1
        by_cases h2 : x < xB
        · have h2' : ¬ xB ≤ x := Int32.not_le.mpr h2
          simp [g0, h0, h0', h1, h1', h2, h2', uu, ld_N h0 h1, st_N h0 h1]
        · have h2' : xB ≤ x := Int32.not_lt.mp h2
          by_cases h3 : xB + 1024 ≤ x
          · have h3' : ¬ x < xB + 1024 := Int32.not_lt.mpr h3
            simp [g0, h0, h0', h1, h1', h2, h2', h3, h3', uu, ld_N h0 h1, st_N h0 h1]
          · have h3' : x < xB + 1024 := Int32.not_le.mp h3
            simp [g0, h0, h0', h1, h1', h2, h2', h3, h3', uu, ld_N h0 h1, st_N h0 h1]
      · have h1' : 4095 < x := Int32.not_le.mp h1
        simp [g0, h0, h0', h1, h1', uu]
theorem sp0_11 {P Q : Nat → Nat} {f fr fm gt : Nat → Int32} {xB pr : Int32} {n b k : Nat} (hpr : pr = 0) (hb : b ≤ 64) (hk : k % 4 = 0) (hl : k + 3 < 16 * b) (hG : ∀ x, Q x < 256) (e : ∀ x, x < 16 * b → f x = nI (Q x)) (g0 : gt 0 = nI k) (hw : Q k = 11) (hr : okR 11 (Q (k + 1)) (Q (k + 2)) (Q (k + 3)) = true) : ms_ret 1024 f (nI (16 * b)) pr (fr, fm, nI k, gt 1, gt 2, gt 3, gt 4, gt 5) = m6_ret P Q n b pr (fr, fm, gt) ∧ RS (ms_next xB 1024 f (nI (16 * b)) pr (fr, fm, nI k, gt 1, gt 2, gt 3, gt 4, gt 5)) (m6_next P Q xB n b pr (fr, fm, gt)) := by
  have hB : By f k 11 (Q (k + 1)) (Q (k + 2)) (Q (k + 3)) := ⟨⟨by rw [e _ (by omega), hw], e _ (by omega), e _ (by omega), e _ (by omega)⟩, by decide, hG _, hG _, hG _⟩
  have ew : sp_X0_word 1024 f (nI k) = 11 := by rw [rd_w (by omega) (by decide), hB.1.1]; rfl
  have ea : sp_X0_a 1024 f (nI k) = nI (Q (k + 1)) := by rw [rd_a (by omega) (by decide), hB.1.2.1]
  have eb : sp_X0_b 1024 f (nI k) = nI (Q (k + 2)) := by unfold sp_X0_b; rw [rd_2 (by omega) (by decide), hB.1.2.2.1]
  have ec : sp_X0_c 1024 f (nI k) = nI (Q (k + 3)) := by unfold sp_X0_c; rw [rd_3 (by omega) (by decide), hB.1.2.2.2]
  have en := rd_n (f := f) (k := k) (N := 1024) (by omega) (by decide) hB.1.2.2.1 hB.1.2.2.2
  have eR : sp_X0_hasRegistersOnly 1024 f (nI k) = 1 := by rw [hR_N (by omega) (by decide) hB (by decide), hr]; rfl
  have eI : sp_X0_hasInstruction (nI (16 * b)) (nI k) = 1 := hi_T hk (by omega) (by omega)
  have ekw : kf Q k = 11 := by unfold kf; rw [hw]; rfl
  have e6 : sp_X6_areRegisters 11 (nI (Q (k + 1))) (nI (Q (k + 2))) (nI (Q (k + 3))) = 1 := by rw [show (11 : Int32) = nI 11 from rfl]; rw [aR_N (by decide) (hG _) (hG _) (hG _), hr]; rfl
  have ecl : (nI k).toNatClampNeg = k := nI_clamp (by omega)
  have n1 : ¬ nI k < 0 := nI_pos (by omega)
  have n2 : ¬ nI (16 * b) ≤ nI k := fun q => absurd ((nI_leI (by omega) (by omega)).mp q) (by omega)
  have n3 : nI k - nI k / 4 * 4 = 0 := by rw [show nI k - nI k / 4 * 4 = nI (k % 4) from pk_rem (d := 4) (by omega) (by decide) (by decide), hk]; rfl
  have eka : kf Q (k + 1) = nI (Q (k + 1)) := rfl
  have ekb : kf Q (k + 2) = nI (Q (k + 2)) := rfl
  have ekc : kf Q (k + 3) = nI (Q (k + 3)) := rfl
  have hok := of_decide_eq_true hr
  have ra : Q (k + 1) ≤ 7 := hok.1 (by decide)
  have rb : Q (k + 2) ≤ 7 := hok.2.1 (by decide)
  clear hok
  clear hr hB e hG
  refine ⟨?_, ?_, ?_, ?_, ?_, ?_, ?_, ?_, ?_⟩
  all_goals simp [ms_ret, ms_next, m6_ret, m6_next, sp_X1_step, sp_X1_step_registers, sp_X1_step_cells, sp_X1_step_address, sp_X1_step_steps, sp_X1_step_strays, sp_X1_step_slips, sp_X1_step_regionStores, sp_X1_step_latestStray, sp_X6_step, sp_X6_step_registers, sp_X6_step_memory, sp_X6_step_told, sp_X1_isWord, sp_X1_reach, sp_X1_reach_address, sp_X1_reach_strays, sp_X1_reach_regionStores, sp_X1_reach_latestStray, sp_X1_reach_registers, sp_X1_reach_cells, sp_X6_touch, sp_X6_touch_registers, sp_X6_touch_memory, sp_X6_touch_told, iim_N, hpr, ew, ea, eb, ec, en, eR, eI, ekw, e6, ecl, g0, n1, n2, n3, eka, ekb, ekc, chg_7, val_N ra, chg_N ra, val_N rb]
  all_goals
    generalize fr (Q (k + 2)) + nI (Q (k + 3)) = x
    by_cases h0 : x < 0
    · have h0' : ¬ 0 ≤ x := Int32.not_le.mpr h0
      simp [g0, h0, h0', uu]
    · have h0' : 0 ≤ x := Int32.not_lt.mp h0
      by_cases h1 : x ≤ 4095
      · have h1' : ¬ 4095 < x := Int32.not_lt.mpr h1
        by_cases h2 : x < xB
        · have h2' : ¬ xB ≤ x := Int32.not_le.mpr h2
          simp [g0, h0, h0', h1, h1', h2, h2', uu, ld_N h0 h1, st_N h0 h1]
        · have h2' : xB ≤ x := Int32.not_lt.mp h2
          by_cases h3 : xB + 1024 ≤ x
          · have h3' : ¬ x < xB + 1024 := Int32.not_lt.mpr h3
            simp [g0, h0, h0', h1, h1', h2, h2', h3, h3', uu, ld_N h0 h1, st_N h0 h1]
          · have h3' : x < xB + 1024 := Int32.not_le.mp h3
            simp [g0, h0, h0', h1, h1', h2, h2', h3, h3', uu, ld_N h0 h1, st_N h0 h1]
      · have h1' : 4095 < x := Int32.not_le.mp h1
        simp [g0, h0, h0', h1, h1', uu]
theorem sp0_12 {P Q : Nat → Nat} {f fr fm gt : Nat → Int32} {xB pr : Int32} {n b k : Nat} (hpr : pr = 0) (hb : b ≤ 64) (hk : k % 4 = 0) (hl : k + 3 < 16 * b) (hG : ∀ x, Q x < 256) (e : ∀ x, x < 16 * b → f x = nI (Q x)) (g0 : gt 0 = nI k) (hw : Q k = 12) (hr : okR 12 (Q (k + 1)) (Q (k + 2)) (Q (k + 3)) = true) : ms_ret 1024 f (nI (16 * b)) pr (fr, fm, nI k, gt 1, gt 2, gt 3, gt 4, gt 5) = m6_ret P Q n b pr (fr, fm, gt) ∧ RS (ms_next xB 1024 f (nI (16 * b)) pr (fr, fm, nI k, gt 1, gt 2, gt 3, gt 4, gt 5)) (m6_next P Q xB n b pr (fr, fm, gt)) := by
  have hB : By f k 12 (Q (k + 1)) (Q (k + 2)) (Q (k + 3)) := ⟨⟨by rw [e _ (by omega), hw], e _ (by omega), e _ (by omega), e _ (by omega)⟩, by decide, hG _, hG _, hG _⟩
  have ew : sp_X0_word 1024 f (nI k) = 12 := by rw [rd_w (by omega) (by decide), hB.1.1]; rfl
  have ea : sp_X0_a 1024 f (nI k) = nI (Q (k + 1)) := by rw [rd_a (by omega) (by decide), hB.1.2.1]
  have eb : sp_X0_b 1024 f (nI k) = nI (Q (k + 2)) := by unfold sp_X0_b; rw [rd_2 (by omega) (by decide), hB.1.2.2.1]
  have ec : sp_X0_c 1024 f (nI k) = nI (Q (k + 3)) := by unfold sp_X0_c; rw [rd_3 (by omega) (by decide), hB.1.2.2.2]
  have en := rd_n (f := f) (k := k) (N := 1024) (by omega) (by decide) hB.1.2.2.1 hB.1.2.2.2
  have eR : sp_X0_hasRegistersOnly 1024 f (nI k) = 1 := by rw [hR_N (by omega) (by decide) hB (by decide), hr]; rfl
  have eI : sp_X0_hasInstruction (nI (16 * b)) (nI k) = 1 := hi_T hk (by omega) (by omega)
  have ekw : kf Q k = 12 := by unfold kf; rw [hw]; rfl
  have e6 : sp_X6_areRegisters 12 (nI (Q (k + 1))) (nI (Q (k + 2))) (nI (Q (k + 3))) = 1 := by rw [show (12 : Int32) = nI 12 from rfl]; rw [aR_N (by decide) (hG _) (hG _) (hG _), hr]; rfl
  have ecl : (nI k).toNatClampNeg = k := nI_clamp (by omega)
  have n1 : ¬ nI k < 0 := nI_pos (by omega)
  have n2 : ¬ nI (16 * b) ≤ nI k := fun q => absurd ((nI_leI (by omega) (by omega)).mp q) (by omega)
  have n3 : nI k - nI k / 4 * 4 = 0 := by rw [show nI k - nI k / 4 * 4 = nI (k % 4) from pk_rem (d := 4) (by omega) (by decide) (by decide), hk]; rfl
  have eka : kf Q (k + 1) = nI (Q (k + 1)) := rfl
  have ekb : kf Q (k + 2) = nI (Q (k + 2)) := rfl
  have ekc : kf Q (k + 3) = nI (Q (k + 3)) := rfl
  clear hr hB e hG
  refine ⟨?_, ?_, ?_, ?_, ?_, ?_, ?_, ?_, ?_⟩
  all_goals by_cases hz : nI (256 * Q (k + 2) + Q (k + 3)) &&& 15 = 0
  all_goals simp [ms_ret, ms_next, m6_ret, m6_next, sp_X1_step, sp_X1_step_registers, sp_X1_step_cells, sp_X1_step_address, sp_X1_step_steps, sp_X1_step_strays, sp_X1_step_slips, sp_X1_step_regionStores, sp_X1_step_latestStray, sp_X6_step, sp_X6_step_registers, sp_X6_step_memory, sp_X6_step_told, sp_X1_isWord, hpr, ew, ea, eb, ec, en, eR, eI, ekw, e6, ecl, g0, n1, n2, n3, eka, ekb, ekc, chg_7, sp_X1_jump_address, sp_X1_jump_slips, sp_X1_jump_registers, ibs_0, hz, uu]
theorem sp0_13 {P Q : Nat → Nat} {f fr fm gt : Nat → Int32} {xB pr : Int32} {n b k : Nat} (hpr : pr = 0) (hb : b ≤ 64) (hk : k % 4 = 0) (hl : k + 3 < 16 * b) (hG : ∀ x, Q x < 256) (e : ∀ x, x < 16 * b → f x = nI (Q x)) (g0 : gt 0 = nI k) (hw : Q k = 13) (hr : okR 13 (Q (k + 1)) (Q (k + 2)) (Q (k + 3)) = true) : ms_ret 1024 f (nI (16 * b)) pr (fr, fm, nI k, gt 1, gt 2, gt 3, gt 4, gt 5) = m6_ret P Q n b pr (fr, fm, gt) ∧ RS (ms_next xB 1024 f (nI (16 * b)) pr (fr, fm, nI k, gt 1, gt 2, gt 3, gt 4, gt 5)) (m6_next P Q xB n b pr (fr, fm, gt)) := by
  have hB : By f k 13 (Q (k + 1)) (Q (k + 2)) (Q (k + 3)) := ⟨⟨by rw [e _ (by omega), hw], e _ (by omega), e _ (by omega), e _ (by omega)⟩, by decide, hG _, hG _, hG _⟩
  have ew : sp_X0_word 1024 f (nI k) = 13 := by rw [rd_w (by omega) (by decide), hB.1.1]; rfl
  have ea : sp_X0_a 1024 f (nI k) = nI (Q (k + 1)) := by rw [rd_a (by omega) (by decide), hB.1.2.1]
  have eb : sp_X0_b 1024 f (nI k) = nI (Q (k + 2)) := by unfold sp_X0_b; rw [rd_2 (by omega) (by decide), hB.1.2.2.1]
  have ec : sp_X0_c 1024 f (nI k) = nI (Q (k + 3)) := by unfold sp_X0_c; rw [rd_3 (by omega) (by decide), hB.1.2.2.2]
  have en := rd_n (f := f) (k := k) (N := 1024) (by omega) (by decide) hB.1.2.2.1 hB.1.2.2.2
  have eR : sp_X0_hasRegistersOnly 1024 f (nI k) = 1 := by rw [hR_N (by omega) (by decide) hB (by decide), hr]; rfl
  have eI : sp_X0_hasInstruction (nI (16 * b)) (nI k) = 1 := hi_T hk (by omega) (by omega)
  have ekw : kf Q k = 13 := by unfold kf; rw [hw]; rfl
  have e6 : sp_X6_areRegisters 13 (nI (Q (k + 1))) (nI (Q (k + 2))) (nI (Q (k + 3))) = 1 := by rw [show (13 : Int32) = nI 13 from rfl]; rw [aR_N (by decide) (hG _) (hG _) (hG _), hr]; rfl
  have ecl : (nI k).toNatClampNeg = k := nI_clamp (by omega)
  have n1 : ¬ nI k < 0 := nI_pos (by omega)
  have n2 : ¬ nI (16 * b) ≤ nI k := fun q => absurd ((nI_leI (by omega) (by omega)).mp q) (by omega)
  have n3 : nI k - nI k / 4 * 4 = 0 := by rw [show nI k - nI k / 4 * 4 = nI (k % 4) from pk_rem (d := 4) (by omega) (by decide) (by decide), hk]; rfl
  have eka : kf Q (k + 1) = nI (Q (k + 1)) := rfl
  have ekb : kf Q (k + 2) = nI (Q (k + 2)) := rfl
  have ekc : kf Q (k + 3) = nI (Q (k + 3)) := rfl
  have hok := of_decide_eq_true hr
  have ra : Q (k + 1) ≤ 7 := hok.1 (by decide)
  clear hok
  clear hr hB e hG
  refine ⟨?_, ?_, ?_, ?_, ?_, ?_, ?_, ?_, ?_⟩
  all_goals by_cases hz : nI (256 * Q (k + 2) + Q (k + 3)) &&& 15 = 0
  all_goals by_cases hy : fr (Q (k + 1)) = 0
  all_goals simp [ms_ret, ms_next, m6_ret, m6_next, sp_X1_step, sp_X1_step_registers, sp_X1_step_cells, sp_X1_step_address, sp_X1_step_steps, sp_X1_step_strays, sp_X1_step_slips, sp_X1_step_regionStores, sp_X1_step_latestStray, sp_X6_step, sp_X6_step_registers, sp_X6_step_memory, sp_X6_step_told, sp_X1_isWord, hpr, ew, ea, eb, ec, en, eR, eI, ekw, e6, ecl, g0, n1, n2, n3, eka, ekb, ekc, chg_7, val_N ra, chg_N ra, sp_X1_jump_address, sp_X1_jump_slips, sp_X1_jump_registers, ibs_0, hz, hy, uu]
theorem sp0_14 {P Q : Nat → Nat} {f fr fm gt : Nat → Int32} {xB pr : Int32} {n b k : Nat} (hpr : pr = 0) (hb : b ≤ 64) (hk : k % 4 = 0) (hl : k + 3 < 16 * b) (hG : ∀ x, Q x < 256) (e : ∀ x, x < 16 * b → f x = nI (Q x)) (g0 : gt 0 = nI k) (hw : Q k = 14) (hr : okR 14 (Q (k + 1)) (Q (k + 2)) (Q (k + 3)) = true) : ms_ret 1024 f (nI (16 * b)) pr (fr, fm, nI k, gt 1, gt 2, gt 3, gt 4, gt 5) = m6_ret P Q n b pr (fr, fm, gt) ∧ RS (ms_next xB 1024 f (nI (16 * b)) pr (fr, fm, nI k, gt 1, gt 2, gt 3, gt 4, gt 5)) (m6_next P Q xB n b pr (fr, fm, gt)) := by
  have hB : By f k 14 (Q (k + 1)) (Q (k + 2)) (Q (k + 3)) := ⟨⟨by rw [e _ (by omega), hw], e _ (by omega), e _ (by omega), e _ (by omega)⟩, by decide, hG _, hG _, hG _⟩
  have ew : sp_X0_word 1024 f (nI k) = 14 := by rw [rd_w (by omega) (by decide), hB.1.1]; rfl
  have ea : sp_X0_a 1024 f (nI k) = nI (Q (k + 1)) := by rw [rd_a (by omega) (by decide), hB.1.2.1]
  have eb : sp_X0_b 1024 f (nI k) = nI (Q (k + 2)) := by unfold sp_X0_b; rw [rd_2 (by omega) (by decide), hB.1.2.2.1]
  have ec : sp_X0_c 1024 f (nI k) = nI (Q (k + 3)) := by unfold sp_X0_c; rw [rd_3 (by omega) (by decide), hB.1.2.2.2]
  have en := rd_n (f := f) (k := k) (N := 1024) (by omega) (by decide) hB.1.2.2.1 hB.1.2.2.2
  have eR : sp_X0_hasRegistersOnly 1024 f (nI k) = 1 := by rw [hR_N (by omega) (by decide) hB (by decide), hr]; rfl
  have eI : sp_X0_hasInstruction (nI (16 * b)) (nI k) = 1 := hi_T hk (by omega) (by omega)
  have ekw : kf Q k = 14 := by unfold kf; rw [hw]; rfl
  have e6 : sp_X6_areRegisters 14 (nI (Q (k + 1))) (nI (Q (k + 2))) (nI (Q (k + 3))) = 1 := by rw [show (14 : Int32) = nI 14 from rfl]; rw [aR_N (by decide) (hG _) (hG _) (hG _), hr]; rfl
  have ecl : (nI k).toNatClampNeg = k := nI_clamp (by omega)
  have n1 : ¬ nI k < 0 := nI_pos (by omega)
  have n2 : ¬ nI (16 * b) ≤ nI k := fun q => absurd ((nI_leI (by omega) (by omega)).mp q) (by omega)
  have n3 : nI k - nI k / 4 * 4 = 0 := by rw [show nI k - nI k / 4 * 4 = nI (k % 4) from pk_rem (d := 4) (by omega) (by decide) (by decide), hk]; rfl
  have eka : kf Q (k + 1) = nI (Q (k + 1)) := rfl
  have ekb : kf Q (k + 2) = nI (Q (k + 2)) := rfl
  have ekc : kf Q (k + 3) = nI (Q (k + 3)) := rfl
  have hok := of_decide_eq_true hr
  have ra : Q (k + 1) ≤ 7 := hok.1 (by decide)
  clear hok
  clear hr hB e hG
  refine ⟨?_, ?_, ?_, ?_, ?_, ?_, ?_, ?_, ?_⟩
  all_goals by_cases hz : fr (Q (k + 1)) &&& 15 = 0
  all_goals simp [ms_ret, ms_next, m6_ret, m6_next, sp_X1_step, sp_X1_step_registers, sp_X1_step_cells, sp_X1_step_address, sp_X1_step_steps, sp_X1_step_strays, sp_X1_step_slips, sp_X1_step_regionStores, sp_X1_step_latestStray, sp_X6_step, sp_X6_step_registers, sp_X6_step_memory, sp_X6_step_told, sp_X1_isWord, hpr, ew, ea, eb, ec, en, eR, eI, ekw, e6, ecl, g0, n1, n2, n3, eka, ekb, ekc, chg_7, val_N ra, chg_N ra, sp_X1_jump_address, sp_X1_jump_slips, sp_X1_jump_registers, ibs_0, hz, uu]
theorem sp0_15 {P Q : Nat → Nat} {f fr fm gt : Nat → Int32} {xB pr : Int32} {n b k : Nat} (hpr : pr = 0) (hb : b ≤ 64) (hk : k % 4 = 0) (hl : k + 3 < 16 * b) (hG : ∀ x, Q x < 256) (e : ∀ x, x < 16 * b → f x = nI (Q x)) (g0 : gt 0 = nI k) (hw : Q k = 15) (hr : okR 15 (Q (k + 1)) (Q (k + 2)) (Q (k + 3)) = true) : ms_ret 1024 f (nI (16 * b)) pr (fr, fm, nI k, gt 1, gt 2, gt 3, gt 4, gt 5) = m6_ret P Q n b pr (fr, fm, gt) ∧ RS (ms_next xB 1024 f (nI (16 * b)) pr (fr, fm, nI k, gt 1, gt 2, gt 3, gt 4, gt 5)) (m6_next P Q xB n b pr (fr, fm, gt)) := by
  have hB : By f k 15 (Q (k + 1)) (Q (k + 2)) (Q (k + 3)) := ⟨⟨by rw [e _ (by omega), hw], e _ (by omega), e _ (by omega), e _ (by omega)⟩, by decide, hG _, hG _, hG _⟩
  have ew : sp_X0_word 1024 f (nI k) = 15 := by rw [rd_w (by omega) (by decide), hB.1.1]; rfl
  have ea : sp_X0_a 1024 f (nI k) = nI (Q (k + 1)) := by rw [rd_a (by omega) (by decide), hB.1.2.1]
  have eb : sp_X0_b 1024 f (nI k) = nI (Q (k + 2)) := by unfold sp_X0_b; rw [rd_2 (by omega) (by decide), hB.1.2.2.1]
  have ec : sp_X0_c 1024 f (nI k) = nI (Q (k + 3)) := by unfold sp_X0_c; rw [rd_3 (by omega) (by decide), hB.1.2.2.2]
  have en := rd_n (f := f) (k := k) (N := 1024) (by omega) (by decide) hB.1.2.2.1 hB.1.2.2.2
  have eR : sp_X0_hasRegistersOnly 1024 f (nI k) = 1 := by rw [hR_N (by omega) (by decide) hB (by decide), hr]; rfl
  have eI : sp_X0_hasInstruction (nI (16 * b)) (nI k) = 1 := hi_T hk (by omega) (by omega)
  have ekw : kf Q k = 15 := by unfold kf; rw [hw]; rfl
  have e6 : sp_X6_areRegisters 15 (nI (Q (k + 1))) (nI (Q (k + 2))) (nI (Q (k + 3))) = 1 := by rw [show (15 : Int32) = nI 15 from rfl]; rw [aR_N (by decide) (hG _) (hG _) (hG _), hr]; rfl
  have ecl : (nI k).toNatClampNeg = k := nI_clamp (by omega)
  have n1 : ¬ nI k < 0 := nI_pos (by omega)
  have n2 : ¬ nI (16 * b) ≤ nI k := fun q => absurd ((nI_leI (by omega) (by omega)).mp q) (by omega)
  have n3 : nI k - nI k / 4 * 4 = 0 := by rw [show nI k - nI k / 4 * 4 = nI (k % 4) from pk_rem (d := 4) (by omega) (by decide) (by decide), hk]; rfl
  have eka : kf Q (k + 1) = nI (Q (k + 1)) := rfl
  have ekb : kf Q (k + 2) = nI (Q (k + 2)) := rfl
  have ekc : kf Q (k + 3) = nI (Q (k + 3)) := rfl
  clear hr hB e hG
  refine ⟨?_, ?_, ?_, ?_, ?_, ?_, ?_, ?_, ?_⟩
  all_goals by_cases hz : nI (256 * Q (k + 2) + Q (k + 3)) &&& 15 = 0
  all_goals simp [ms_ret, ms_next, m6_ret, m6_next, sp_X1_step, sp_X1_step_registers, sp_X1_step_cells, sp_X1_step_address, sp_X1_step_steps, sp_X1_step_strays, sp_X1_step_slips, sp_X1_step_regionStores, sp_X1_step_latestStray, sp_X6_step, sp_X6_step_registers, sp_X6_step_memory, sp_X6_step_told, sp_X1_isWord, hpr, ew, ea, eb, ec, en, eR, eI, ekw, e6, ecl, g0, n1, n2, n3, eka, ekb, ekc, chg_7, sp_X1_jump_address, sp_X1_jump_slips, sp_X1_jump_registers, ibs_0, hz, uu]
theorem sp0_16 {P Q : Nat → Nat} {f fr fm gt : Nat → Int32} {xB pr : Int32} {n b k : Nat} (hpr : pr = 0) (hb : b ≤ 64) (hk : k % 4 = 0) (hl : k + 3 < 16 * b) (hG : ∀ x, Q x < 256) (e : ∀ x, x < 16 * b → f x = nI (Q x)) (g0 : gt 0 = nI k) (hw : Q k = 16) (hr : okR 16 (Q (k + 1)) (Q (k + 2)) (Q (k + 3)) = true) : ms_ret 1024 f (nI (16 * b)) pr (fr, fm, nI k, gt 1, gt 2, gt 3, gt 4, gt 5) = m6_ret P Q n b pr (fr, fm, gt) ∧ RS (ms_next xB 1024 f (nI (16 * b)) pr (fr, fm, nI k, gt 1, gt 2, gt 3, gt 4, gt 5)) (m6_next P Q xB n b pr (fr, fm, gt)) := by
  have hB : By f k 16 (Q (k + 1)) (Q (k + 2)) (Q (k + 3)) := ⟨⟨by rw [e _ (by omega), hw], e _ (by omega), e _ (by omega), e _ (by omega)⟩, by decide, hG _, hG _, hG _⟩
  have ew : sp_X0_word 1024 f (nI k) = 16 := by rw [rd_w (by omega) (by decide), hB.1.1]; rfl
  have ea : sp_X0_a 1024 f (nI k) = nI (Q (k + 1)) := by rw [rd_a (by omega) (by decide), hB.1.2.1]
  have eb : sp_X0_b 1024 f (nI k) = nI (Q (k + 2)) := by unfold sp_X0_b; rw [rd_2 (by omega) (by decide), hB.1.2.2.1]
  have ec : sp_X0_c 1024 f (nI k) = nI (Q (k + 3)) := by unfold sp_X0_c; rw [rd_3 (by omega) (by decide), hB.1.2.2.2]
  have en := rd_n (f := f) (k := k) (N := 1024) (by omega) (by decide) hB.1.2.2.1 hB.1.2.2.2
  have eR : sp_X0_hasRegistersOnly 1024 f (nI k) = 1 := by rw [hR_N (by omega) (by decide) hB (by decide), hr]; rfl
  have eI : sp_X0_hasInstruction (nI (16 * b)) (nI k) = 1 := hi_T hk (by omega) (by omega)
  have ekw : kf Q k = 16 := by unfold kf; rw [hw]; rfl
  have e6 : sp_X6_areRegisters 16 (nI (Q (k + 1))) (nI (Q (k + 2))) (nI (Q (k + 3))) = 1 := by rw [show (16 : Int32) = nI 16 from rfl]; rw [aR_N (by decide) (hG _) (hG _) (hG _), hr]; rfl
  have ecl : (nI k).toNatClampNeg = k := nI_clamp (by omega)
  have n1 : ¬ nI k < 0 := nI_pos (by omega)
  have n2 : ¬ nI (16 * b) ≤ nI k := fun q => absurd ((nI_leI (by omega) (by omega)).mp q) (by omega)
  have n3 : nI k - nI k / 4 * 4 = 0 := by rw [show nI k - nI k / 4 * 4 = nI (k % 4) from pk_rem (d := 4) (by omega) (by decide) (by decide), hk]; rfl
  have eka : kf Q (k + 1) = nI (Q (k + 1)) := rfl
  have ekb : kf Q (k + 2) = nI (Q (k + 2)) := rfl
  have ekc : kf Q (k + 3) = nI (Q (k + 3)) := rfl
  have hok := of_decide_eq_true hr
  have ra : Q (k + 1) ≤ 7 := hok.1 (by decide)
  clear hok
  clear hr hB e hG
  refine ⟨?_, ?_, ?_, ?_, ?_, ?_, ?_, ?_, ?_⟩
  all_goals simp [ms_ret, ms_next, m6_ret, m6_next, sp_X1_step, sp_X1_step_registers, sp_X1_step_cells, sp_X1_step_address, sp_X1_step_steps, sp_X1_step_strays, sp_X1_step_slips, sp_X1_step_regionStores, sp_X1_step_latestStray, sp_X6_step, sp_X6_step_registers, sp_X6_step_memory, sp_X6_step_told, sp_X1_isWord, hpr, ew, ea, eb, ec, en, eR, eI, ekw, e6, ecl, g0, n1, n2, n3, eka, ekb, ekc, chg_7, val_N ra, chg_N ra, sp_X1_result, uu]
theorem sp0_17 {P Q : Nat → Nat} {f fr fm gt : Nat → Int32} {xB pr : Int32} {n b k : Nat} (hpr : pr = 0) (hb : b ≤ 64) (hk : k % 4 = 0) (hl : k + 3 < 16 * b) (hG : ∀ x, Q x < 256) (e : ∀ x, x < 16 * b → f x = nI (Q x)) (g0 : gt 0 = nI k) (hw : Q k = 17) (hr : okR 17 (Q (k + 1)) (Q (k + 2)) (Q (k + 3)) = true) : ms_ret 1024 f (nI (16 * b)) pr (fr, fm, nI k, gt 1, gt 2, gt 3, gt 4, gt 5) = m6_ret P Q n b pr (fr, fm, gt) ∧ RS (ms_next xB 1024 f (nI (16 * b)) pr (fr, fm, nI k, gt 1, gt 2, gt 3, gt 4, gt 5)) (m6_next P Q xB n b pr (fr, fm, gt)) := by
  have hB : By f k 17 (Q (k + 1)) (Q (k + 2)) (Q (k + 3)) := ⟨⟨by rw [e _ (by omega), hw], e _ (by omega), e _ (by omega), e _ (by omega)⟩, by decide, hG _, hG _, hG _⟩
  have ew : sp_X0_word 1024 f (nI k) = 17 := by rw [rd_w (by omega) (by decide), hB.1.1]; rfl
  have ea : sp_X0_a 1024 f (nI k) = nI (Q (k + 1)) := by rw [rd_a (by omega) (by decide), hB.1.2.1]
  have eb : sp_X0_b 1024 f (nI k) = nI (Q (k + 2)) := by unfold sp_X0_b; rw [rd_2 (by omega) (by decide), hB.1.2.2.1]
  have ec : sp_X0_c 1024 f (nI k) = nI (Q (k + 3)) := by unfold sp_X0_c; rw [rd_3 (by omega) (by decide), hB.1.2.2.2]
  have en := rd_n (f := f) (k := k) (N := 1024) (by omega) (by decide) hB.1.2.2.1 hB.1.2.2.2
  have eR : sp_X0_hasRegistersOnly 1024 f (nI k) = 1 := by rw [hR_N (by omega) (by decide) hB (by decide), hr]; rfl
  have eI : sp_X0_hasInstruction (nI (16 * b)) (nI k) = 1 := hi_T hk (by omega) (by omega)
  have ekw : kf Q k = 17 := by unfold kf; rw [hw]; rfl
  have e6 : sp_X6_areRegisters 17 (nI (Q (k + 1))) (nI (Q (k + 2))) (nI (Q (k + 3))) = 1 := by rw [show (17 : Int32) = nI 17 from rfl]; rw [aR_N (by decide) (hG _) (hG _) (hG _), hr]; rfl
  have ecl : (nI k).toNatClampNeg = k := nI_clamp (by omega)
  have n1 : ¬ nI k < 0 := nI_pos (by omega)
  have n2 : ¬ nI (16 * b) ≤ nI k := fun q => absurd ((nI_leI (by omega) (by omega)).mp q) (by omega)
  have n3 : nI k - nI k / 4 * 4 = 0 := by rw [show nI k - nI k / 4 * 4 = nI (k % 4) from pk_rem (d := 4) (by omega) (by decide) (by decide), hk]; rfl
  have eka : kf Q (k + 1) = nI (Q (k + 1)) := rfl
  have ekb : kf Q (k + 2) = nI (Q (k + 2)) := rfl
  have ekc : kf Q (k + 3) = nI (Q (k + 3)) := rfl
  have hok := of_decide_eq_true hr
  have ra : Q (k + 1) ≤ 7 := hok.1 (by decide)
  clear hok
  clear hr hB e hG
  refine ⟨?_, ?_, ?_, ?_, ?_, ?_, ?_, ?_, ?_⟩
  all_goals simp [ms_ret, ms_next, m6_ret, m6_next, sp_X1_step, sp_X1_step_registers, sp_X1_step_cells, sp_X1_step_address, sp_X1_step_steps, sp_X1_step_strays, sp_X1_step_slips, sp_X1_step_regionStores, sp_X1_step_latestStray, sp_X6_step, sp_X6_step_registers, sp_X6_step_memory, sp_X6_step_told, sp_X1_isWord, hpr, ew, ea, eb, ec, en, eR, eI, ekw, e6, ecl, g0, n1, n2, n3, eka, ekb, ekc, chg_7, val_N ra, chg_N ra, sp_X1_result, uu]
theorem sp1_0 {P Q : Nat → Nat} {f fr fm gt : Nat → Int32} {xB pr : Int32} {n b k : Nat} (hpr : ¬ pr = 0) (hn : n ≤ 60) (hk : k % 4 = 0) (hl : k + 3 < 4 * n) (hG : ∀ x, P x < 256) (e : ∀ x, x < 4 * n → f x = nI (P x)) (g0 : gt 0 = nI k) (hw : P k = 0) (hr : okR 0 (P (k + 1)) (P (k + 2)) (P (k + 3)) = true) : ms_ret 240 f (nI (4 * n)) pr (fr, fm, nI k, gt 1, gt 2, gt 3, gt 4, gt 5) = m6_ret P Q n b pr (fr, fm, gt) ∧ RS (ms_next xB 240 f (nI (4 * n)) pr (fr, fm, nI k, gt 1, gt 2, gt 3, gt 4, gt 5)) (m6_next P Q xB n b pr (fr, fm, gt)) := by
  have hB : By f k 0 (P (k + 1)) (P (k + 2)) (P (k + 3)) := ⟨⟨by rw [e _ (by omega), hw], e _ (by omega), e _ (by omega), e _ (by omega)⟩, by decide, hG _, hG _, hG _⟩
  have ew : sp_X0_word 240 f (nI k) = 0 := by rw [rd_w (by omega) (by decide), hB.1.1]; rfl
  have ea : sp_X0_a 240 f (nI k) = nI (P (k + 1)) := by rw [rd_a (by omega) (by decide), hB.1.2.1]
  have eb : sp_X0_b 240 f (nI k) = nI (P (k + 2)) := by unfold sp_X0_b; rw [rd_2 (by omega) (by decide), hB.1.2.2.1]
  have ec : sp_X0_c 240 f (nI k) = nI (P (k + 3)) := by unfold sp_X0_c; rw [rd_3 (by omega) (by decide), hB.1.2.2.2]
  have en := rd_n (f := f) (k := k) (N := 240) (by omega) (by decide) hB.1.2.2.1 hB.1.2.2.2
  have eR : sp_X0_hasRegistersOnly 240 f (nI k) = 1 := by rw [hR_N (by omega) (by decide) hB (by decide), hr]; rfl
  have eI : sp_X0_hasInstruction (nI (4 * n)) (nI k) = 1 := hi_T hk (by omega) (by omega)
  have ekw : kf P k = 0 := by unfold kf; rw [hw]; rfl
  have e6 : sp_X6_areRegisters 0 (nI (P (k + 1))) (nI (P (k + 2))) (nI (P (k + 3))) = 1 := by rw [show (0 : Int32) = nI 0 from rfl]; rw [aR_N (by decide) (hG _) (hG _) (hG _), hr]; rfl
  have ecl : (nI k).toNatClampNeg = k := nI_clamp (by omega)
  have n1 : ¬ nI k < 0 := nI_pos (by omega)
  have n2 : ¬ nI (4 * n) ≤ nI k := fun q => absurd ((nI_leI (by omega) (by omega)).mp q) (by omega)
  have n3 : nI k - nI k / 4 * 4 = 0 := by rw [show nI k - nI k / 4 * 4 = nI (k % 4) from pk_rem (d := 4) (by omega) (by decide) (by decide), hk]; rfl
  have eka : kf P (k + 1) = nI (P (k + 1)) := rfl
  have ekb : kf P (k + 2) = nI (P (k + 2)) := rfl
  have ekc : kf P (k + 3) = nI (P (k + 3)) := rfl
  have n4 : 4 * nI (256 * P (k + 2) + P (k + 3)) = nI (4 * (256 * P (k + 2) + P (k + 3))) := pk_mul 4 _
  clear hr hB e hG
  refine ⟨?_, ?_, ?_, ?_, ?_, ?_, ?_, ?_, ?_⟩
  all_goals simp [ms_ret, ms_next, m6_ret, m6_next, sp_X1_step, sp_X1_step_registers, sp_X1_step_cells, sp_X1_step_address, sp_X1_step_steps, sp_X1_step_strays, sp_X1_step_slips, sp_X1_step_regionStores, sp_X1_step_latestStray, sp_X6_step, sp_X6_step_registers, sp_X6_step_memory, sp_X6_step_told, sp_X1_isWord, sp_X3_isProgramWord, hpr, ew, ea, eb, ec, en, eR, eI, ekw, e6, ecl, g0, n1, n2, n3, eka, ekb, ekc, chg_7, n4, uu]
theorem sp1_1 {P Q : Nat → Nat} {f fr fm gt : Nat → Int32} {xB pr : Int32} {n b k : Nat} (hpr : ¬ pr = 0) (hn : n ≤ 60) (hk : k % 4 = 0) (hl : k + 3 < 4 * n) (hG : ∀ x, P x < 256) (e : ∀ x, x < 4 * n → f x = nI (P x)) (g0 : gt 0 = nI k) (hw : P k = 1) (hr : okR 1 (P (k + 1)) (P (k + 2)) (P (k + 3)) = true) : ms_ret 240 f (nI (4 * n)) pr (fr, fm, nI k, gt 1, gt 2, gt 3, gt 4, gt 5) = m6_ret P Q n b pr (fr, fm, gt) ∧ RS (ms_next xB 240 f (nI (4 * n)) pr (fr, fm, nI k, gt 1, gt 2, gt 3, gt 4, gt 5)) (m6_next P Q xB n b pr (fr, fm, gt)) := by
  have hB : By f k 1 (P (k + 1)) (P (k + 2)) (P (k + 3)) := ⟨⟨by rw [e _ (by omega), hw], e _ (by omega), e _ (by omega), e _ (by omega)⟩, by decide, hG _, hG _, hG _⟩
  have ew : sp_X0_word 240 f (nI k) = 1 := by rw [rd_w (by omega) (by decide), hB.1.1]; rfl
  have ea : sp_X0_a 240 f (nI k) = nI (P (k + 1)) := by rw [rd_a (by omega) (by decide), hB.1.2.1]
  have eb : sp_X0_b 240 f (nI k) = nI (P (k + 2)) := by unfold sp_X0_b; rw [rd_2 (by omega) (by decide), hB.1.2.2.1]
  have ec : sp_X0_c 240 f (nI k) = nI (P (k + 3)) := by unfold sp_X0_c; rw [rd_3 (by omega) (by decide), hB.1.2.2.2]
  have en := rd_n (f := f) (k := k) (N := 240) (by omega) (by decide) hB.1.2.2.1 hB.1.2.2.2
  have eR : sp_X0_hasRegistersOnly 240 f (nI k) = 1 := by rw [hR_N (by omega) (by decide) hB (by decide), hr]; rfl
  have eI : sp_X0_hasInstruction (nI (4 * n)) (nI k) = 1 := hi_T hk (by omega) (by omega)
  have ekw : kf P k = 1 := by unfold kf; rw [hw]; rfl
  have e6 : sp_X6_areRegisters 1 (nI (P (k + 1))) (nI (P (k + 2))) (nI (P (k + 3))) = 1 := by rw [show (1 : Int32) = nI 1 from rfl]; rw [aR_N (by decide) (hG _) (hG _) (hG _), hr]; rfl
  have ecl : (nI k).toNatClampNeg = k := nI_clamp (by omega)
  have n1 : ¬ nI k < 0 := nI_pos (by omega)
  have n2 : ¬ nI (4 * n) ≤ nI k := fun q => absurd ((nI_leI (by omega) (by omega)).mp q) (by omega)
  have n3 : nI k - nI k / 4 * 4 = 0 := by rw [show nI k - nI k / 4 * 4 = nI (k % 4) from pk_rem (d := 4) (by omega) (by decide) (by decide), hk]; rfl
  have eka : kf P (k + 1) = nI (P (k + 1)) := rfl
  have ekb : kf P (k + 2) = nI (P (k + 2)) := rfl
  have ekc : kf P (k + 3) = nI (P (k + 3)) := rfl
  have hok := of_decide_eq_true hr
  have ra : P (k + 1) ≤ 7 := hok.1 (by decide)
  clear hok
  have n4 : 4 * nI (256 * P (k + 2) + P (k + 3)) = nI (4 * (256 * P (k + 2) + P (k + 3))) := pk_mul 4 _
  clear hr hB e hG
  refine ⟨?_, ?_, ?_, ?_, ?_, ?_, ?_, ?_, ?_⟩
  all_goals by_cases hy : nI (256 * P (k + 2) + P (k + 3)) < 32768
  all_goals first | simp [ms_ret, ms_next, m6_ret, m6_next, sp_X1_step, sp_X1_step_registers, sp_X1_step_cells, sp_X1_step_address, sp_X1_step_steps, sp_X1_step_strays, sp_X1_step_slips, sp_X1_step_regionStores, sp_X1_step_latestStray, sp_X6_step, sp_X6_step_registers, sp_X6_step_memory, sp_X6_step_told, sp_X1_isWord, sp_X3_isProgramWord, hpr, ew, ea, eb, ec, en, eR, eI, ekw, e6, ecl, g0, n1, n2, n3, eka, ekb, ekc, chg_7, n4, val_N ra, chg_N ra, sp_X1_result, uu, hy, show ¬ 32768 ≤ nI (256 * P (k + 2) + P (k + 3)) from fun q => Int32.lt_irrefl (Int32.lt_of_lt_of_le hy q)] | simp [ms_ret, ms_next, m6_ret, m6_next, sp_X1_step, sp_X1_step_registers, sp_X1_step_cells, sp_X1_step_address, sp_X1_step_steps, sp_X1_step_strays, sp_X1_step_slips, sp_X1_step_regionStores, sp_X1_step_latestStray, sp_X6_step, sp_X6_step_registers, sp_X6_step_memory, sp_X6_step_told, sp_X1_isWord, sp_X3_isProgramWord, hpr, ew, ea, eb, ec, en, eR, eI, ekw, e6, ecl, g0, n1, n2, n3, eka, ekb, ekc, chg_7, n4, val_N ra, chg_N ra, sp_X1_result, uu, hy, Int32.not_lt.mp hy]
theorem sp1_2 {P Q : Nat → Nat} {f fr fm gt : Nat → Int32} {xB pr : Int32} {n b k : Nat} (hpr : ¬ pr = 0) (hn : n ≤ 60) (hk : k % 4 = 0) (hl : k + 3 < 4 * n) (hG : ∀ x, P x < 256) (e : ∀ x, x < 4 * n → f x = nI (P x)) (g0 : gt 0 = nI k) (hw : P k = 2) (hr : okR 2 (P (k + 1)) (P (k + 2)) (P (k + 3)) = true) : ms_ret 240 f (nI (4 * n)) pr (fr, fm, nI k, gt 1, gt 2, gt 3, gt 4, gt 5) = m6_ret P Q n b pr (fr, fm, gt) ∧ RS (ms_next xB 240 f (nI (4 * n)) pr (fr, fm, nI k, gt 1, gt 2, gt 3, gt 4, gt 5)) (m6_next P Q xB n b pr (fr, fm, gt)) := by
  have hB : By f k 2 (P (k + 1)) (P (k + 2)) (P (k + 3)) := ⟨⟨by rw [e _ (by omega), hw], e _ (by omega), e _ (by omega), e _ (by omega)⟩, by decide, hG _, hG _, hG _⟩
  have ew : sp_X0_word 240 f (nI k) = 2 := by rw [rd_w (by omega) (by decide), hB.1.1]; rfl
  have ea : sp_X0_a 240 f (nI k) = nI (P (k + 1)) := by rw [rd_a (by omega) (by decide), hB.1.2.1]
  have eb : sp_X0_b 240 f (nI k) = nI (P (k + 2)) := by unfold sp_X0_b; rw [rd_2 (by omega) (by decide), hB.1.2.2.1]
  have ec : sp_X0_c 240 f (nI k) = nI (P (k + 3)) := by unfold sp_X0_c; rw [rd_3 (by omega) (by decide), hB.1.2.2.2]
  have en := rd_n (f := f) (k := k) (N := 240) (by omega) (by decide) hB.1.2.2.1 hB.1.2.2.2
  have eR : sp_X0_hasRegistersOnly 240 f (nI k) = 1 := by rw [hR_N (by omega) (by decide) hB (by decide), hr]; rfl
  have eI : sp_X0_hasInstruction (nI (4 * n)) (nI k) = 1 := hi_T hk (by omega) (by omega)
  have ekw : kf P k = 2 := by unfold kf; rw [hw]; rfl
  have e6 : sp_X6_areRegisters 2 (nI (P (k + 1))) (nI (P (k + 2))) (nI (P (k + 3))) = 1 := by rw [show (2 : Int32) = nI 2 from rfl]; rw [aR_N (by decide) (hG _) (hG _) (hG _), hr]; rfl
  have ecl : (nI k).toNatClampNeg = k := nI_clamp (by omega)
  have n1 : ¬ nI k < 0 := nI_pos (by omega)
  have n2 : ¬ nI (4 * n) ≤ nI k := fun q => absurd ((nI_leI (by omega) (by omega)).mp q) (by omega)
  have n3 : nI k - nI k / 4 * 4 = 0 := by rw [show nI k - nI k / 4 * 4 = nI (k % 4) from pk_rem (d := 4) (by omega) (by decide) (by decide), hk]; rfl
  have eka : kf P (k + 1) = nI (P (k + 1)) := rfl
  have ekb : kf P (k + 2) = nI (P (k + 2)) := rfl
  have ekc : kf P (k + 3) = nI (P (k + 3)) := rfl
  have hok := of_decide_eq_true hr
  have ra : P (k + 1) ≤ 7 := hok.1 (by decide)
  have rb : P (k + 2) ≤ 7 := hok.2.1 (by decide)
  have rc : P (k + 3) ≤ 7 := hok.2.2 (by decide)
  clear hok
  have n4 : 4 * nI (256 * P (k + 2) + P (k + 3)) = nI (4 * (256 * P (k + 2) + P (k + 3))) := pk_mul 4 _
  clear hr hB e hG
  refine ⟨?_, ?_, ?_, ?_, ?_, ?_, ?_, ?_, ?_⟩
  all_goals simp [ms_ret, ms_next, m6_ret, m6_next, sp_X1_step, sp_X1_step_registers, sp_X1_step_cells, sp_X1_step_address, sp_X1_step_steps, sp_X1_step_strays, sp_X1_step_slips, sp_X1_step_regionStores, sp_X1_step_latestStray, sp_X6_step, sp_X6_step_registers, sp_X6_step_memory, sp_X6_step_told, sp_X1_isWord, sp_X3_isProgramWord, hpr, ew, ea, eb, ec, en, eR, eI, ekw, e6, ecl, g0, n1, n2, n3, eka, ekb, ekc, chg_7, n4, val_N ra, chg_N ra, val_N rb, val_N rc, sp_X1_result, sp_X6_operated, uu]
theorem sp1_3 {P Q : Nat → Nat} {f fr fm gt : Nat → Int32} {xB pr : Int32} {n b k : Nat} (hpr : ¬ pr = 0) (hn : n ≤ 60) (hk : k % 4 = 0) (hl : k + 3 < 4 * n) (hG : ∀ x, P x < 256) (e : ∀ x, x < 4 * n → f x = nI (P x)) (g0 : gt 0 = nI k) (hw : P k = 3) (hr : okR 3 (P (k + 1)) (P (k + 2)) (P (k + 3)) = true) : ms_ret 240 f (nI (4 * n)) pr (fr, fm, nI k, gt 1, gt 2, gt 3, gt 4, gt 5) = m6_ret P Q n b pr (fr, fm, gt) ∧ RS (ms_next xB 240 f (nI (4 * n)) pr (fr, fm, nI k, gt 1, gt 2, gt 3, gt 4, gt 5)) (m6_next P Q xB n b pr (fr, fm, gt)) := by
  have hB : By f k 3 (P (k + 1)) (P (k + 2)) (P (k + 3)) := ⟨⟨by rw [e _ (by omega), hw], e _ (by omega), e _ (by omega), e _ (by omega)⟩, by decide, hG _, hG _, hG _⟩
  have ew : sp_X0_word 240 f (nI k) = 3 := by rw [rd_w (by omega) (by decide), hB.1.1]; rfl
  have ea : sp_X0_a 240 f (nI k) = nI (P (k + 1)) := by rw [rd_a (by omega) (by decide), hB.1.2.1]
  have eb : sp_X0_b 240 f (nI k) = nI (P (k + 2)) := by unfold sp_X0_b; rw [rd_2 (by omega) (by decide), hB.1.2.2.1]
  have ec : sp_X0_c 240 f (nI k) = nI (P (k + 3)) := by unfold sp_X0_c; rw [rd_3 (by omega) (by decide), hB.1.2.2.2]
  have en := rd_n (f := f) (k := k) (N := 240) (by omega) (by decide) hB.1.2.2.1 hB.1.2.2.2
  have eR : sp_X0_hasRegistersOnly 240 f (nI k) = 1 := by rw [hR_N (by omega) (by decide) hB (by decide), hr]; rfl
  have eI : sp_X0_hasInstruction (nI (4 * n)) (nI k) = 1 := hi_T hk (by omega) (by omega)
  have ekw : kf P k = 3 := by unfold kf; rw [hw]; rfl
  have e6 : sp_X6_areRegisters 3 (nI (P (k + 1))) (nI (P (k + 2))) (nI (P (k + 3))) = 1 := by rw [show (3 : Int32) = nI 3 from rfl]; rw [aR_N (by decide) (hG _) (hG _) (hG _), hr]; rfl
  have ecl : (nI k).toNatClampNeg = k := nI_clamp (by omega)
  have n1 : ¬ nI k < 0 := nI_pos (by omega)
  have n2 : ¬ nI (4 * n) ≤ nI k := fun q => absurd ((nI_leI (by omega) (by omega)).mp q) (by omega)
  have n3 : nI k - nI k / 4 * 4 = 0 := by rw [show nI k - nI k / 4 * 4 = nI (k % 4) from pk_rem (d := 4) (by omega) (by decide) (by decide), hk]; rfl
  have eka : kf P (k + 1) = nI (P (k + 1)) := rfl
  have ekb : kf P (k + 2) = nI (P (k + 2)) := rfl
  have ekc : kf P (k + 3) = nI (P (k + 3)) := rfl
  have hok := of_decide_eq_true hr
  have ra : P (k + 1) ≤ 7 := hok.1 (by decide)
  have rb : P (k + 2) ≤ 7 := hok.2.1 (by decide)
  have rc : P (k + 3) ≤ 7 := hok.2.2 (by decide)
  clear hok
  have n4 : 4 * nI (256 * P (k + 2) + P (k + 3)) = nI (4 * (256 * P (k + 2) + P (k + 3))) := pk_mul 4 _
  clear hr hB e hG
  refine ⟨?_, ?_, ?_, ?_, ?_, ?_, ?_, ?_, ?_⟩
  all_goals simp [ms_ret, ms_next, m6_ret, m6_next, sp_X1_step, sp_X1_step_registers, sp_X1_step_cells, sp_X1_step_address, sp_X1_step_steps, sp_X1_step_strays, sp_X1_step_slips, sp_X1_step_regionStores, sp_X1_step_latestStray, sp_X6_step, sp_X6_step_registers, sp_X6_step_memory, sp_X6_step_told, sp_X1_isWord, sp_X3_isProgramWord, hpr, ew, ea, eb, ec, en, eR, eI, ekw, e6, ecl, g0, n1, n2, n3, eka, ekb, ekc, chg_7, n4, val_N ra, chg_N ra, val_N rb, val_N rc, sp_X1_result, sp_X6_operated, uu]
theorem sp1_4 {P Q : Nat → Nat} {f fr fm gt : Nat → Int32} {xB pr : Int32} {n b k : Nat} (hpr : ¬ pr = 0) (hn : n ≤ 60) (hk : k % 4 = 0) (hl : k + 3 < 4 * n) (hG : ∀ x, P x < 256) (e : ∀ x, x < 4 * n → f x = nI (P x)) (g0 : gt 0 = nI k) (hw : P k = 4) (hr : okR 4 (P (k + 1)) (P (k + 2)) (P (k + 3)) = true) : ms_ret 240 f (nI (4 * n)) pr (fr, fm, nI k, gt 1, gt 2, gt 3, gt 4, gt 5) = m6_ret P Q n b pr (fr, fm, gt) ∧ RS (ms_next xB 240 f (nI (4 * n)) pr (fr, fm, nI k, gt 1, gt 2, gt 3, gt 4, gt 5)) (m6_next P Q xB n b pr (fr, fm, gt)) := by
  have hB : By f k 4 (P (k + 1)) (P (k + 2)) (P (k + 3)) := ⟨⟨by rw [e _ (by omega), hw], e _ (by omega), e _ (by omega), e _ (by omega)⟩, by decide, hG _, hG _, hG _⟩
  have ew : sp_X0_word 240 f (nI k) = 4 := by rw [rd_w (by omega) (by decide), hB.1.1]; rfl
  have ea : sp_X0_a 240 f (nI k) = nI (P (k + 1)) := by rw [rd_a (by omega) (by decide), hB.1.2.1]
  have eb : sp_X0_b 240 f (nI k) = nI (P (k + 2)) := by unfold sp_X0_b; rw [rd_2 (by omega) (by decide), hB.1.2.2.1]
  have ec : sp_X0_c 240 f (nI k) = nI (P (k + 3)) := by unfold sp_X0_c; rw [rd_3 (by omega) (by decide), hB.1.2.2.2]
  have en := rd_n (f := f) (k := k) (N := 240) (by omega) (by decide) hB.1.2.2.1 hB.1.2.2.2
  have eR : sp_X0_hasRegistersOnly 240 f (nI k) = 1 := by rw [hR_N (by omega) (by decide) hB (by decide), hr]; rfl
  have eI : sp_X0_hasInstruction (nI (4 * n)) (nI k) = 1 := hi_T hk (by omega) (by omega)
  have ekw : kf P k = 4 := by unfold kf; rw [hw]; rfl
  have e6 : sp_X6_areRegisters 4 (nI (P (k + 1))) (nI (P (k + 2))) (nI (P (k + 3))) = 1 := by rw [show (4 : Int32) = nI 4 from rfl]; rw [aR_N (by decide) (hG _) (hG _) (hG _), hr]; rfl
  have ecl : (nI k).toNatClampNeg = k := nI_clamp (by omega)
  have n1 : ¬ nI k < 0 := nI_pos (by omega)
  have n2 : ¬ nI (4 * n) ≤ nI k := fun q => absurd ((nI_leI (by omega) (by omega)).mp q) (by omega)
  have n3 : nI k - nI k / 4 * 4 = 0 := by rw [show nI k - nI k / 4 * 4 = nI (k % 4) from pk_rem (d := 4) (by omega) (by decide) (by decide), hk]; rfl
  have eka : kf P (k + 1) = nI (P (k + 1)) := rfl
  have ekb : kf P (k + 2) = nI (P (k + 2)) := rfl
  have ekc : kf P (k + 3) = nI (P (k + 3)) := rfl
  have hok := of_decide_eq_true hr
  have ra : P (k + 1) ≤ 7 := hok.1 (by decide)
  have rb : P (k + 2) ≤ 7 := hok.2.1 (by decide)
  have rc : P (k + 3) ≤ 7 := hok.2.2 (by decide)
  clear hok
  have n4 : 4 * nI (256 * P (k + 2) + P (k + 3)) = nI (4 * (256 * P (k + 2) + P (k + 3))) := pk_mul 4 _
  clear hr hB e hG
  refine ⟨?_, ?_, ?_, ?_, ?_, ?_, ?_, ?_, ?_⟩
  all_goals simp [ms_ret, ms_next, m6_ret, m6_next, sp_X1_step, sp_X1_step_registers, sp_X1_step_cells, sp_X1_step_address, sp_X1_step_steps, sp_X1_step_strays, sp_X1_step_slips, sp_X1_step_regionStores, sp_X1_step_latestStray, sp_X6_step, sp_X6_step_registers, sp_X6_step_memory, sp_X6_step_told, sp_X1_isWord, sp_X3_isProgramWord, hpr, ew, ea, eb, ec, en, eR, eI, ekw, e6, ecl, g0, n1, n2, n3, eka, ekb, ekc, chg_7, n4, val_N ra, chg_N ra, val_N rb, val_N rc, sp_X1_result, sp_X6_operated, uu]
theorem sp1_5 {P Q : Nat → Nat} {f fr fm gt : Nat → Int32} {xB pr : Int32} {n b k : Nat} (hpr : ¬ pr = 0) (hn : n ≤ 60) (hk : k % 4 = 0) (hl : k + 3 < 4 * n) (hG : ∀ x, P x < 256) (e : ∀ x, x < 4 * n → f x = nI (P x)) (g0 : gt 0 = nI k) (hw : P k = 5) (hr : okR 5 (P (k + 1)) (P (k + 2)) (P (k + 3)) = true) : ms_ret 240 f (nI (4 * n)) pr (fr, fm, nI k, gt 1, gt 2, gt 3, gt 4, gt 5) = m6_ret P Q n b pr (fr, fm, gt) ∧ RS (ms_next xB 240 f (nI (4 * n)) pr (fr, fm, nI k, gt 1, gt 2, gt 3, gt 4, gt 5)) (m6_next P Q xB n b pr (fr, fm, gt)) := by
  have hB : By f k 5 (P (k + 1)) (P (k + 2)) (P (k + 3)) := ⟨⟨by rw [e _ (by omega), hw], e _ (by omega), e _ (by omega), e _ (by omega)⟩, by decide, hG _, hG _, hG _⟩
  have ew : sp_X0_word 240 f (nI k) = 5 := by rw [rd_w (by omega) (by decide), hB.1.1]; rfl
  have ea : sp_X0_a 240 f (nI k) = nI (P (k + 1)) := by rw [rd_a (by omega) (by decide), hB.1.2.1]
  have eb : sp_X0_b 240 f (nI k) = nI (P (k + 2)) := by unfold sp_X0_b; rw [rd_2 (by omega) (by decide), hB.1.2.2.1]
  have ec : sp_X0_c 240 f (nI k) = nI (P (k + 3)) := by unfold sp_X0_c; rw [rd_3 (by omega) (by decide), hB.1.2.2.2]
  have en := rd_n (f := f) (k := k) (N := 240) (by omega) (by decide) hB.1.2.2.1 hB.1.2.2.2
  have eR : sp_X0_hasRegistersOnly 240 f (nI k) = 1 := by rw [hR_N (by omega) (by decide) hB (by decide), hr]; rfl
  have eI : sp_X0_hasInstruction (nI (4 * n)) (nI k) = 1 := hi_T hk (by omega) (by omega)
  have ekw : kf P k = 5 := by unfold kf; rw [hw]; rfl
  have e6 : sp_X6_areRegisters 5 (nI (P (k + 1))) (nI (P (k + 2))) (nI (P (k + 3))) = 1 := by rw [show (5 : Int32) = nI 5 from rfl]; rw [aR_N (by decide) (hG _) (hG _) (hG _), hr]; rfl
  have ecl : (nI k).toNatClampNeg = k := nI_clamp (by omega)
  have n1 : ¬ nI k < 0 := nI_pos (by omega)
  have n2 : ¬ nI (4 * n) ≤ nI k := fun q => absurd ((nI_leI (by omega) (by omega)).mp q) (by omega)
  have n3 : nI k - nI k / 4 * 4 = 0 := by rw [show nI k - nI k / 4 * 4 = nI (k % 4) from pk_rem (d := 4) (by omega) (by decide) (by decide), hk]; rfl
  have eka : kf P (k + 1) = nI (P (k + 1)) := rfl
  have ekb : kf P (k + 2) = nI (P (k + 2)) := rfl
  have ekc : kf P (k + 3) = nI (P (k + 3)) := rfl
  have hok := of_decide_eq_true hr
  have ra : P (k + 1) ≤ 7 := hok.1 (by decide)
  have rb : P (k + 2) ≤ 7 := hok.2.1 (by decide)
  have rc : P (k + 3) ≤ 7 := hok.2.2 (by decide)
  clear hok
  have n4 : 4 * nI (256 * P (k + 2) + P (k + 3)) = nI (4 * (256 * P (k + 2) + P (k + 3))) := pk_mul 4 _
  clear hr hB e hG
  refine ⟨?_, ?_, ?_, ?_, ?_, ?_, ?_, ?_, ?_⟩
  all_goals simp [ms_ret, ms_next, m6_ret, m6_next, sp_X1_step, sp_X1_step_registers, sp_X1_step_cells, sp_X1_step_address, sp_X1_step_steps, sp_X1_step_strays, sp_X1_step_slips, sp_X1_step_regionStores, sp_X1_step_latestStray, sp_X6_step, sp_X6_step_registers, sp_X6_step_memory, sp_X6_step_told, sp_X1_isWord, sp_X3_isProgramWord, hpr, ew, ea, eb, ec, en, eR, eI, ekw, e6, ecl, g0, n1, n2, n3, eka, ekb, ekc, chg_7, n4, val_N ra, chg_N ra, val_N rb, val_N rc, sp_X1_result, sp_X6_operated, uu]
theorem sp1_6 {P Q : Nat → Nat} {f fr fm gt : Nat → Int32} {xB pr : Int32} {n b k : Nat} (hpr : ¬ pr = 0) (hn : n ≤ 60) (hk : k % 4 = 0) (hl : k + 3 < 4 * n) (hG : ∀ x, P x < 256) (e : ∀ x, x < 4 * n → f x = nI (P x)) (g0 : gt 0 = nI k) (hw : P k = 6) (hr : okR 6 (P (k + 1)) (P (k + 2)) (P (k + 3)) = true) : ms_ret 240 f (nI (4 * n)) pr (fr, fm, nI k, gt 1, gt 2, gt 3, gt 4, gt 5) = m6_ret P Q n b pr (fr, fm, gt) ∧ RS (ms_next xB 240 f (nI (4 * n)) pr (fr, fm, nI k, gt 1, gt 2, gt 3, gt 4, gt 5)) (m6_next P Q xB n b pr (fr, fm, gt)) := by
  have hB : By f k 6 (P (k + 1)) (P (k + 2)) (P (k + 3)) := ⟨⟨by rw [e _ (by omega), hw], e _ (by omega), e _ (by omega), e _ (by omega)⟩, by decide, hG _, hG _, hG _⟩
  have ew : sp_X0_word 240 f (nI k) = 6 := by rw [rd_w (by omega) (by decide), hB.1.1]; rfl
  have ea : sp_X0_a 240 f (nI k) = nI (P (k + 1)) := by rw [rd_a (by omega) (by decide), hB.1.2.1]
  have eb : sp_X0_b 240 f (nI k) = nI (P (k + 2)) := by unfold sp_X0_b; rw [rd_2 (by omega) (by decide), hB.1.2.2.1]
  have ec : sp_X0_c 240 f (nI k) = nI (P (k + 3)) := by unfold sp_X0_c; rw [rd_3 (by omega) (by decide), hB.1.2.2.2]
  have en := rd_n (f := f) (k := k) (N := 240) (by omega) (by decide) hB.1.2.2.1 hB.1.2.2.2
  have eR : sp_X0_hasRegistersOnly 240 f (nI k) = 1 := by rw [hR_N (by omega) (by decide) hB (by decide), hr]; rfl
  have eI : sp_X0_hasInstruction (nI (4 * n)) (nI k) = 1 := hi_T hk (by omega) (by omega)
  have ekw : kf P k = 6 := by unfold kf; rw [hw]; rfl
  have e6 : sp_X6_areRegisters 6 (nI (P (k + 1))) (nI (P (k + 2))) (nI (P (k + 3))) = 1 := by rw [show (6 : Int32) = nI 6 from rfl]; rw [aR_N (by decide) (hG _) (hG _) (hG _), hr]; rfl
  have ecl : (nI k).toNatClampNeg = k := nI_clamp (by omega)
  have n1 : ¬ nI k < 0 := nI_pos (by omega)
  have n2 : ¬ nI (4 * n) ≤ nI k := fun q => absurd ((nI_leI (by omega) (by omega)).mp q) (by omega)
  have n3 : nI k - nI k / 4 * 4 = 0 := by rw [show nI k - nI k / 4 * 4 = nI (k % 4) from pk_rem (d := 4) (by omega) (by decide) (by decide), hk]; rfl
  have eka : kf P (k + 1) = nI (P (k + 1)) := rfl
  have ekb : kf P (k + 2) = nI (P (k + 2)) := rfl
  have ekc : kf P (k + 3) = nI (P (k + 3)) := rfl
  have hok := of_decide_eq_true hr
  have ra : P (k + 1) ≤ 7 := hok.1 (by decide)
  have rb : P (k + 2) ≤ 7 := hok.2.1 (by decide)
  have rc : P (k + 3) ≤ 7 := hok.2.2 (by decide)
  clear hok
  have n4 : 4 * nI (256 * P (k + 2) + P (k + 3)) = nI (4 * (256 * P (k + 2) + P (k + 3))) := pk_mul 4 _
  clear hr hB e hG
  refine ⟨?_, ?_, ?_, ?_, ?_, ?_, ?_, ?_, ?_⟩
  all_goals simp [ms_ret, ms_next, m6_ret, m6_next, sp_X1_step, sp_X1_step_registers, sp_X1_step_cells, sp_X1_step_address, sp_X1_step_steps, sp_X1_step_strays, sp_X1_step_slips, sp_X1_step_regionStores, sp_X1_step_latestStray, sp_X6_step, sp_X6_step_registers, sp_X6_step_memory, sp_X6_step_told, sp_X1_isWord, sp_X3_isProgramWord, hpr, ew, ea, eb, ec, en, eR, eI, ekw, e6, ecl, g0, n1, n2, n3, eka, ekb, ekc, chg_7, n4, val_N ra, chg_N ra, val_N rb, val_N rc, sp_X1_result, sp_X6_operated, uu]
theorem sp1_7 {P Q : Nat → Nat} {f fr fm gt : Nat → Int32} {xB pr : Int32} {n b k : Nat} (hpr : ¬ pr = 0) (hn : n ≤ 60) (hk : k % 4 = 0) (hl : k + 3 < 4 * n) (hG : ∀ x, P x < 256) (e : ∀ x, x < 4 * n → f x = nI (P x)) (g0 : gt 0 = nI k) (hw : P k = 7) (hr : okR 7 (P (k + 1)) (P (k + 2)) (P (k + 3)) = true) : ms_ret 240 f (nI (4 * n)) pr (fr, fm, nI k, gt 1, gt 2, gt 3, gt 4, gt 5) = m6_ret P Q n b pr (fr, fm, gt) ∧ RS (ms_next xB 240 f (nI (4 * n)) pr (fr, fm, nI k, gt 1, gt 2, gt 3, gt 4, gt 5)) (m6_next P Q xB n b pr (fr, fm, gt)) := by
  have hB : By f k 7 (P (k + 1)) (P (k + 2)) (P (k + 3)) := ⟨⟨by rw [e _ (by omega), hw], e _ (by omega), e _ (by omega), e _ (by omega)⟩, by decide, hG _, hG _, hG _⟩
  have ew : sp_X0_word 240 f (nI k) = 7 := by rw [rd_w (by omega) (by decide), hB.1.1]; rfl
  have ea : sp_X0_a 240 f (nI k) = nI (P (k + 1)) := by rw [rd_a (by omega) (by decide), hB.1.2.1]
  have eb : sp_X0_b 240 f (nI k) = nI (P (k + 2)) := by unfold sp_X0_b; rw [rd_2 (by omega) (by decide), hB.1.2.2.1]
  have ec : sp_X0_c 240 f (nI k) = nI (P (k + 3)) := by unfold sp_X0_c; rw [rd_3 (by omega) (by decide), hB.1.2.2.2]
  have en := rd_n (f := f) (k := k) (N := 240) (by omega) (by decide) hB.1.2.2.1 hB.1.2.2.2
  have eR : sp_X0_hasRegistersOnly 240 f (nI k) = 1 := by rw [hR_N (by omega) (by decide) hB (by decide), hr]; rfl
  have eI : sp_X0_hasInstruction (nI (4 * n)) (nI k) = 1 := hi_T hk (by omega) (by omega)
  have ekw : kf P k = 7 := by unfold kf; rw [hw]; rfl
  have e6 : sp_X6_areRegisters 7 (nI (P (k + 1))) (nI (P (k + 2))) (nI (P (k + 3))) = 1 := by rw [show (7 : Int32) = nI 7 from rfl]; rw [aR_N (by decide) (hG _) (hG _) (hG _), hr]; rfl
  have ecl : (nI k).toNatClampNeg = k := nI_clamp (by omega)
  have n1 : ¬ nI k < 0 := nI_pos (by omega)
  have n2 : ¬ nI (4 * n) ≤ nI k := fun q => absurd ((nI_leI (by omega) (by omega)).mp q) (by omega)
  have n3 : nI k - nI k / 4 * 4 = 0 := by rw [show nI k - nI k / 4 * 4 = nI (k % 4) from pk_rem (d := 4) (by omega) (by decide) (by decide), hk]; rfl
  have eka : kf P (k + 1) = nI (P (k + 1)) := rfl
  have ekb : kf P (k + 2) = nI (P (k + 2)) := rfl
  have ekc : kf P (k + 3) = nI (P (k + 3)) := rfl
  have hok := of_decide_eq_true hr
  have ra : P (k + 1) ≤ 7 := hok.1 (by decide)
  have rb : P (k + 2) ≤ 7 := hok.2.1 (by decide)
  have rc : P (k + 3) ≤ 7 := hok.2.2 (by decide)
  clear hok
  have n4 : 4 * nI (256 * P (k + 2) + P (k + 3)) = nI (4 * (256 * P (k + 2) + P (k + 3))) := pk_mul 4 _
  clear hr hB e hG
  refine ⟨?_, ?_, ?_, ?_, ?_, ?_, ?_, ?_, ?_⟩
  all_goals simp [ms_ret, ms_next, m6_ret, m6_next, sp_X1_step, sp_X1_step_registers, sp_X1_step_cells, sp_X1_step_address, sp_X1_step_steps, sp_X1_step_strays, sp_X1_step_slips, sp_X1_step_regionStores, sp_X1_step_latestStray, sp_X6_step, sp_X6_step_registers, sp_X6_step_memory, sp_X6_step_told, sp_X1_isWord, sp_X3_isProgramWord, hpr, ew, ea, eb, ec, en, eR, eI, ekw, e6, ecl, g0, n1, n2, n3, eka, ekb, ekc, chg_7, n4, val_N ra, chg_N ra, val_N rb, val_N rc, sp_X1_result, sp_X6_operated, uu]
theorem sp1_8 {P Q : Nat → Nat} {f fr fm gt : Nat → Int32} {xB pr : Int32} {n b k : Nat} (hpr : ¬ pr = 0) (hn : n ≤ 60) (hk : k % 4 = 0) (hl : k + 3 < 4 * n) (hG : ∀ x, P x < 256) (e : ∀ x, x < 4 * n → f x = nI (P x)) (g0 : gt 0 = nI k) (hw : P k = 8) (hr : okR 8 (P (k + 1)) (P (k + 2)) (P (k + 3)) = true) : ms_ret 240 f (nI (4 * n)) pr (fr, fm, nI k, gt 1, gt 2, gt 3, gt 4, gt 5) = m6_ret P Q n b pr (fr, fm, gt) ∧ RS (ms_next xB 240 f (nI (4 * n)) pr (fr, fm, nI k, gt 1, gt 2, gt 3, gt 4, gt 5)) (m6_next P Q xB n b pr (fr, fm, gt)) := by
  have hB : By f k 8 (P (k + 1)) (P (k + 2)) (P (k + 3)) := ⟨⟨by rw [e _ (by omega), hw], e _ (by omega), e _ (by omega), e _ (by omega)⟩, by decide, hG _, hG _, hG _⟩
  have ew : sp_X0_word 240 f (nI k) = 8 := by rw [rd_w (by omega) (by decide), hB.1.1]; rfl
  have ea : sp_X0_a 240 f (nI k) = nI (P (k + 1)) := by rw [rd_a (by omega) (by decide), hB.1.2.1]
  have eb : sp_X0_b 240 f (nI k) = nI (P (k + 2)) := by unfold sp_X0_b; rw [rd_2 (by omega) (by decide), hB.1.2.2.1]
  have ec : sp_X0_c 240 f (nI k) = nI (P (k + 3)) := by unfold sp_X0_c; rw [rd_3 (by omega) (by decide), hB.1.2.2.2]
  have en := rd_n (f := f) (k := k) (N := 240) (by omega) (by decide) hB.1.2.2.1 hB.1.2.2.2
  have eR : sp_X0_hasRegistersOnly 240 f (nI k) = 1 := by rw [hR_N (by omega) (by decide) hB (by decide), hr]; rfl
  have eI : sp_X0_hasInstruction (nI (4 * n)) (nI k) = 1 := hi_T hk (by omega) (by omega)
  have ekw : kf P k = 8 := by unfold kf; rw [hw]; rfl
  have e6 : sp_X6_areRegisters 8 (nI (P (k + 1))) (nI (P (k + 2))) (nI (P (k + 3))) = 1 := by rw [show (8 : Int32) = nI 8 from rfl]; rw [aR_N (by decide) (hG _) (hG _) (hG _), hr]; rfl
  have ecl : (nI k).toNatClampNeg = k := nI_clamp (by omega)
  have n1 : ¬ nI k < 0 := nI_pos (by omega)
  have n2 : ¬ nI (4 * n) ≤ nI k := fun q => absurd ((nI_leI (by omega) (by omega)).mp q) (by omega)
  have n3 : nI k - nI k / 4 * 4 = 0 := by rw [show nI k - nI k / 4 * 4 = nI (k % 4) from pk_rem (d := 4) (by omega) (by decide) (by decide), hk]; rfl
  have eka : kf P (k + 1) = nI (P (k + 1)) := rfl
  have ekb : kf P (k + 2) = nI (P (k + 2)) := rfl
  have ekc : kf P (k + 3) = nI (P (k + 3)) := rfl
  have hok := of_decide_eq_true hr
  have ra : P (k + 1) ≤ 7 := hok.1 (by decide)
  have rb : P (k + 2) ≤ 7 := hok.2.1 (by decide)
  have rc : P (k + 3) ≤ 7 := hok.2.2 (by decide)
  clear hok
  have n4 : 4 * nI (256 * P (k + 2) + P (k + 3)) = nI (4 * (256 * P (k + 2) + P (k + 3))) := pk_mul 4 _
  clear hr hB e hG
  refine ⟨?_, ?_, ?_, ?_, ?_, ?_, ?_, ?_, ?_⟩
  all_goals simp [ms_ret, ms_next, m6_ret, m6_next, sp_X1_step, sp_X1_step_registers, sp_X1_step_cells, sp_X1_step_address, sp_X1_step_steps, sp_X1_step_strays, sp_X1_step_slips, sp_X1_step_regionStores, sp_X1_step_latestStray, sp_X6_step, sp_X6_step_registers, sp_X6_step_memory, sp_X6_step_told, sp_X1_isWord, sp_X3_isProgramWord, hpr, ew, ea, eb, ec, en, eR, eI, ekw, e6, ecl, g0, n1, n2, n3, eka, ekb, ekc, chg_7, n4, val_N ra, chg_N ra, val_N rb, val_N rc, sp_X1_result, sp_X6_operated, uu]
theorem sp1_9 {P Q : Nat → Nat} {f fr fm gt : Nat → Int32} {xB pr : Int32} {n b k : Nat} (hpr : ¬ pr = 0) (hn : n ≤ 60) (hk : k % 4 = 0) (hl : k + 3 < 4 * n) (hG : ∀ x, P x < 256) (e : ∀ x, x < 4 * n → f x = nI (P x)) (g0 : gt 0 = nI k) (hw : P k = 9) (hr : okR 9 (P (k + 1)) (P (k + 2)) (P (k + 3)) = true) : ms_ret 240 f (nI (4 * n)) pr (fr, fm, nI k, gt 1, gt 2, gt 3, gt 4, gt 5) = m6_ret P Q n b pr (fr, fm, gt) ∧ RS (ms_next xB 240 f (nI (4 * n)) pr (fr, fm, nI k, gt 1, gt 2, gt 3, gt 4, gt 5)) (m6_next P Q xB n b pr (fr, fm, gt)) := by
  have hB : By f k 9 (P (k + 1)) (P (k + 2)) (P (k + 3)) := ⟨⟨by rw [e _ (by omega), hw], e _ (by omega), e _ (by omega), e _ (by omega)⟩, by decide, hG _, hG _, hG _⟩
  have ew : sp_X0_word 240 f (nI k) = 9 := by rw [rd_w (by omega) (by decide), hB.1.1]; rfl
  have ea : sp_X0_a 240 f (nI k) = nI (P (k + 1)) := by rw [rd_a (by omega) (by decide), hB.1.2.1]
  have eb : sp_X0_b 240 f (nI k) = nI (P (k + 2)) := by unfold sp_X0_b; rw [rd_2 (by omega) (by decide), hB.1.2.2.1]
  have ec : sp_X0_c 240 f (nI k) = nI (P (k + 3)) := by unfold sp_X0_c; rw [rd_3 (by omega) (by decide), hB.1.2.2.2]
  have en := rd_n (f := f) (k := k) (N := 240) (by omega) (by decide) hB.1.2.2.1 hB.1.2.2.2
  have eR : sp_X0_hasRegistersOnly 240 f (nI k) = 1 := by rw [hR_N (by omega) (by decide) hB (by decide), hr]; rfl
  have eI : sp_X0_hasInstruction (nI (4 * n)) (nI k) = 1 := hi_T hk (by omega) (by omega)
  have ekw : kf P k = 9 := by unfold kf; rw [hw]; rfl
  have e6 : sp_X6_areRegisters 9 (nI (P (k + 1))) (nI (P (k + 2))) (nI (P (k + 3))) = 1 := by rw [show (9 : Int32) = nI 9 from rfl]; rw [aR_N (by decide) (hG _) (hG _) (hG _), hr]; rfl
  have ecl : (nI k).toNatClampNeg = k := nI_clamp (by omega)
  have n1 : ¬ nI k < 0 := nI_pos (by omega)
  have n2 : ¬ nI (4 * n) ≤ nI k := fun q => absurd ((nI_leI (by omega) (by omega)).mp q) (by omega)
  have n3 : nI k - nI k / 4 * 4 = 0 := by rw [show nI k - nI k / 4 * 4 = nI (k % 4) from pk_rem (d := 4) (by omega) (by decide) (by decide), hk]; rfl
  have eka : kf P (k + 1) = nI (P (k + 1)) := rfl
  have ekb : kf P (k + 2) = nI (P (k + 2)) := rfl
  have ekc : kf P (k + 3) = nI (P (k + 3)) := rfl
  have hok := of_decide_eq_true hr
  have ra : P (k + 1) ≤ 7 := hok.1 (by decide)
  have rb : P (k + 2) ≤ 7 := hok.2.1 (by decide)
  clear hok
  have n4 : 4 * nI (256 * P (k + 2) + P (k + 3)) = nI (4 * (256 * P (k + 2) + P (k + 3))) := pk_mul 4 _
  clear hr hB e hG
  refine ⟨?_, ?_, ?_, ?_, ?_, ?_, ?_, ?_, ?_⟩
  all_goals simp [ms_ret, ms_next, m6_ret, m6_next, sp_X1_step, sp_X1_step_registers, sp_X1_step_cells, sp_X1_step_address, sp_X1_step_steps, sp_X1_step_strays, sp_X1_step_slips, sp_X1_step_regionStores, sp_X1_step_latestStray, sp_X6_step, sp_X6_step_registers, sp_X6_step_memory, sp_X6_step_told, sp_X1_isWord, sp_X3_isProgramWord, hpr, ew, ea, eb, ec, en, eR, eI, ekw, e6, ecl, g0, n1, n2, n3, eka, ekb, ekc, chg_7, n4, val_N ra, chg_N ra, val_N rb, sp_X1_result, uu]
theorem sp1_10 {P Q : Nat → Nat} {f fr fm gt : Nat → Int32} {xB pr : Int32} {n b k : Nat} (hpr : ¬ pr = 0) (hn : n ≤ 60) (hk : k % 4 = 0) (hl : k + 3 < 4 * n) (hG : ∀ x, P x < 256) (e : ∀ x, x < 4 * n → f x = nI (P x)) (g0 : gt 0 = nI k) (hw : P k = 10) (hr : okR 10 (P (k + 1)) (P (k + 2)) (P (k + 3)) = true) : ms_ret 240 f (nI (4 * n)) pr (fr, fm, nI k, gt 1, gt 2, gt 3, gt 4, gt 5) = m6_ret P Q n b pr (fr, fm, gt) ∧ RS (ms_next xB 240 f (nI (4 * n)) pr (fr, fm, nI k, gt 1, gt 2, gt 3, gt 4, gt 5)) (m6_next P Q xB n b pr (fr, fm, gt)) := by
  have hB : By f k 10 (P (k + 1)) (P (k + 2)) (P (k + 3)) := ⟨⟨by rw [e _ (by omega), hw], e _ (by omega), e _ (by omega), e _ (by omega)⟩, by decide, hG _, hG _, hG _⟩
  have ew : sp_X0_word 240 f (nI k) = 10 := by rw [rd_w (by omega) (by decide), hB.1.1]; rfl
  have ea : sp_X0_a 240 f (nI k) = nI (P (k + 1)) := by rw [rd_a (by omega) (by decide), hB.1.2.1]
  have eb : sp_X0_b 240 f (nI k) = nI (P (k + 2)) := by unfold sp_X0_b; rw [rd_2 (by omega) (by decide), hB.1.2.2.1]
  have ec : sp_X0_c 240 f (nI k) = nI (P (k + 3)) := by unfold sp_X0_c; rw [rd_3 (by omega) (by decide), hB.1.2.2.2]
  have en := rd_n (f := f) (k := k) (N := 240) (by omega) (by decide) hB.1.2.2.1 hB.1.2.2.2
  have eR : sp_X0_hasRegistersOnly 240 f (nI k) = 1 := by rw [hR_N (by omega) (by decide) hB (by decide), hr]; rfl
  have eI : sp_X0_hasInstruction (nI (4 * n)) (nI k) = 1 := hi_T hk (by omega) (by omega)
  have ekw : kf P k = 10 := by unfold kf; rw [hw]; rfl
  have e6 : sp_X6_areRegisters 10 (nI (P (k + 1))) (nI (P (k + 2))) (nI (P (k + 3))) = 1 := by rw [show (10 : Int32) = nI 10 from rfl]; rw [aR_N (by decide) (hG _) (hG _) (hG _), hr]; rfl
  have ecl : (nI k).toNatClampNeg = k := nI_clamp (by omega)
  have n1 : ¬ nI k < 0 := nI_pos (by omega)
  have n2 : ¬ nI (4 * n) ≤ nI k := fun q => absurd ((nI_leI (by omega) (by omega)).mp q) (by omega)
  have n3 : nI k - nI k / 4 * 4 = 0 := by rw [show nI k - nI k / 4 * 4 = nI (k % 4) from pk_rem (d := 4) (by omega) (by decide) (by decide), hk]; rfl
  have eka : kf P (k + 1) = nI (P (k + 1)) := rfl
  have ekb : kf P (k + 2) = nI (P (k + 2)) := rfl
  have ekc : kf P (k + 3) = nI (P (k + 3)) := rfl
  have hok := of_decide_eq_true hr
  have ra : P (k + 1) ≤ 7 := hok.1 (by decide)
  have rb : P (k + 2) ≤ 7 := hok.2.1 (by decide)
  clear hok
  have n4 : 4 * nI (256 * P (k + 2) + P (k + 3)) = nI (4 * (256 * P (k + 2) + P (k + 3))) := pk_mul 4 _
  clear hr hB e hG
  refine ⟨?_, ?_, ?_, ?_, ?_, ?_, ?_, ?_, ?_⟩
  all_goals simp [ms_ret, ms_next, m6_ret, m6_next, sp_X1_step, sp_X1_step_registers, sp_X1_step_cells, sp_X1_step_address, sp_X1_step_steps, sp_X1_step_strays, sp_X1_step_slips, sp_X1_step_regionStores, sp_X1_step_latestStray, sp_X6_step, sp_X6_step_registers, sp_X6_step_memory, sp_X6_step_told, sp_X1_isWord, sp_X3_isProgramWord, sp_X1_reach, sp_X1_reach_address, sp_X1_reach_strays, sp_X1_reach_regionStores, sp_X1_reach_latestStray, sp_X1_reach_registers, sp_X1_reach_cells, sp_X6_touch, sp_X6_touch_registers, sp_X6_touch_memory, sp_X6_touch_told, iim_N, hpr, ew, ea, eb, ec, en, eR, eI, ekw, e6, ecl, g0, n1, n2, n3, eka, ekb, ekc, chg_7, n4, val_N ra, chg_N ra, val_N rb]
  all_goals
    generalize fr (P (k + 2)) + nI (P (k + 3)) = x
    by_cases h0 : x < 0
    · have h0' : ¬ 0 ≤ x := Int32.not_le.mpr h0
      simp [g0, h0, h0', uu]
    · have h0' : 0 ≤ x := Int32.not_lt.mp h0
      by_cases h1 : x ≤ 4095
      · have h1' : ¬ 4095 < x := Int32.not_lt.mpr h1
        by_cases h2 : x < xB
        · have h2' : ¬ xB ≤ x := Int32.not_le.mpr h2
          simp [g0, h0, h0', h1, h1', h2, h2', uu, ld_N h0 h1, st_N h0 h1]
        · have h2' : xB ≤ x := Int32.not_lt.mp h2
          by_cases h3 : xB + 1024 ≤ x
          · have h3' : ¬ x < xB + 1024 := Int32.not_lt.mpr h3
            simp [g0, h0, h0', h1, h1', h2, h2', h3, h3', uu, ld_N h0 h1, st_N h0 h1]
          · have h3' : x < xB + 1024 := Int32.not_le.mp h3
            simp [g0, h0, h0', h1, h1', h2, h2', h3, h3', uu, ld_N h0 h1, st_N h0 h1]
      · have h1' : 4095 < x := Int32.not_le.mp h1
        simp [g0, h0, h0', h1, h1', uu]
theorem sp1_11 {P Q : Nat → Nat} {f fr fm gt : Nat → Int32} {xB pr : Int32} {n b k : Nat} (hpr : ¬ pr = 0) (hn : n ≤ 60) (hk : k % 4 = 0) (hl : k + 3 < 4 * n) (hG : ∀ x, P x < 256) (e : ∀ x, x < 4 * n → f x = nI (P x)) (g0 : gt 0 = nI k) (hw : P k = 11) (hr : okR 11 (P (k + 1)) (P (k + 2)) (P (k + 3)) = true) : ms_ret 240 f (nI (4 * n)) pr (fr, fm, nI k, gt 1, gt 2, gt 3, gt 4, gt 5) = m6_ret P Q n b pr (fr, fm, gt) ∧ RS (ms_next xB 240 f (nI (4 * n)) pr (fr, fm, nI k, gt 1, gt 2, gt 3, gt 4, gt 5)) (m6_next P Q xB n b pr (fr, fm, gt)) := by
  have hB : By f k 11 (P (k + 1)) (P (k + 2)) (P (k + 3)) := ⟨⟨by rw [e _ (by omega), hw], e _ (by omega), e _ (by omega), e _ (by omega)⟩, by decide, hG _, hG _, hG _⟩
  have ew : sp_X0_word 240 f (nI k) = 11 := by rw [rd_w (by omega) (by decide), hB.1.1]; rfl
  have ea : sp_X0_a 240 f (nI k) = nI (P (k + 1)) := by rw [rd_a (by omega) (by decide), hB.1.2.1]
  have eb : sp_X0_b 240 f (nI k) = nI (P (k + 2)) := by unfold sp_X0_b; rw [rd_2 (by omega) (by decide), hB.1.2.2.1]
  have ec : sp_X0_c 240 f (nI k) = nI (P (k + 3)) := by unfold sp_X0_c; rw [rd_3 (by omega) (by decide), hB.1.2.2.2]
  have en := rd_n (f := f) (k := k) (N := 240) (by omega) (by decide) hB.1.2.2.1 hB.1.2.2.2
  have eR : sp_X0_hasRegistersOnly 240 f (nI k) = 1 := by rw [hR_N (by omega) (by decide) hB (by decide), hr]; rfl
  have eI : sp_X0_hasInstruction (nI (4 * n)) (nI k) = 1 := hi_T hk (by omega) (by omega)
  have ekw : kf P k = 11 := by unfold kf; rw [hw]; rfl
  have e6 : sp_X6_areRegisters 11 (nI (P (k + 1))) (nI (P (k + 2))) (nI (P (k + 3))) = 1 := by rw [show (11 : Int32) = nI 11 from rfl]; rw [aR_N (by decide) (hG _) (hG _) (hG _), hr]; rfl
  have ecl : (nI k).toNatClampNeg = k := nI_clamp (by omega)
  have n1 : ¬ nI k < 0 := nI_pos (by omega)
  have n2 : ¬ nI (4 * n) ≤ nI k := fun q => absurd ((nI_leI (by omega) (by omega)).mp q) (by omega)
  have n3 : nI k - nI k / 4 * 4 = 0 := by rw [show nI k - nI k / 4 * 4 = nI (k % 4) from pk_rem (d := 4) (by omega) (by decide) (by decide), hk]; rfl
  have eka : kf P (k + 1) = nI (P (k + 1)) := rfl
  have ekb : kf P (k + 2) = nI (P (k + 2)) := rfl
  have ekc : kf P (k + 3) = nI (P (k + 3)) := rfl
  have hok := of_decide_eq_true hr
  have ra : P (k + 1) ≤ 7 := hok.1 (by decide)
  have rb : P (k + 2) ≤ 7 := hok.2.1 (by decide)
  clear hok
  have n4 : 4 * nI (256 * P (k + 2) + P (k + 3)) = nI (4 * (256 * P (k + 2) + P (k + 3))) := pk_mul 4 _
  clear hr hB e hG
  refine ⟨?_, ?_, ?_, ?_, ?_, ?_, ?_, ?_, ?_⟩
  all_goals simp [ms_ret, ms_next, m6_ret, m6_next, sp_X1_step, sp_X1_step_registers, sp_X1_step_cells, sp_X1_step_address, sp_X1_step_steps, sp_X1_step_strays, sp_X1_step_slips, sp_X1_step_regionStores, sp_X1_step_latestStray, sp_X6_step, sp_X6_step_registers, sp_X6_step_memory, sp_X6_step_told, sp_X1_isWord, sp_X3_isProgramWord, sp_X1_reach, sp_X1_reach_address, sp_X1_reach_strays, sp_X1_reach_regionStores, sp_X1_reach_latestStray, sp_X1_reach_registers, sp_X1_reach_cells, sp_X6_touch, sp_X6_touch_registers, sp_X6_touch_memory, sp_X6_touch_told, iim_N, hpr, ew, ea, eb, ec, en, eR, eI, ekw, e6, ecl, g0, n1, n2, n3, eka, ekb, ekc, chg_7, n4, val_N ra, chg_N ra, val_N rb]
  all_goals
    generalize fr (P (k + 2)) + nI (P (k + 3)) = x
    by_cases h0 : x < 0
    · have h0' : ¬ 0 ≤ x := Int32.not_le.mpr h0
      simp [g0, h0, h0', uu]
    · have h0' : 0 ≤ x := Int32.not_lt.mp h0
      by_cases h1 : x ≤ 4095
      · have h1' : ¬ 4095 < x := Int32.not_lt.mpr h1
        by_cases h2 : x < xB
        · have h2' : ¬ xB ≤ x := Int32.not_le.mpr h2
          simp [g0, h0, h0', h1, h1', h2, h2', uu, ld_N h0 h1, st_N h0 h1]
        · have h2' : xB ≤ x := Int32.not_lt.mp h2
          by_cases h3 : xB + 1024 ≤ x
          · have h3' : ¬ x < xB + 1024 := Int32.not_lt.mpr h3
            simp [g0, h0, h0', h1, h1', h2, h2', h3, h3', uu, ld_N h0 h1, st_N h0 h1]
          · have h3' : x < xB + 1024 := Int32.not_le.mp h3
            simp [g0, h0, h0', h1, h1', h2, h2', h3, h3', uu, ld_N h0 h1, st_N h0 h1]
      · have h1' : 4095 < x := Int32.not_le.mp h1
        simp [g0, h0, h0', h1, h1', uu]
theorem sp1_12 {P Q : Nat → Nat} {f fr fm gt : Nat → Int32} {xB pr : Int32} {n b k : Nat} (hpr : ¬ pr = 0) (hn : n ≤ 60) (hk : k % 4 = 0) (hl : k + 3 < 4 * n) (hG : ∀ x, P x < 256) (e : ∀ x, x < 4 * n → f x = nI (P x)) (g0 : gt 0 = nI k) (hw : P k = 12) (hr : okR 12 (P (k + 1)) (P (k + 2)) (P (k + 3)) = true) : ms_ret 240 f (nI (4 * n)) pr (fr, fm, nI k, gt 1, gt 2, gt 3, gt 4, gt 5) = m6_ret P Q n b pr (fr, fm, gt) ∧ RS (ms_next xB 240 f (nI (4 * n)) pr (fr, fm, nI k, gt 1, gt 2, gt 3, gt 4, gt 5)) (m6_next P Q xB n b pr (fr, fm, gt)) := by
  have hB : By f k 12 (P (k + 1)) (P (k + 2)) (P (k + 3)) := ⟨⟨by rw [e _ (by omega), hw], e _ (by omega), e _ (by omega), e _ (by omega)⟩, by decide, hG _, hG _, hG _⟩
  have ew : sp_X0_word 240 f (nI k) = 12 := by rw [rd_w (by omega) (by decide), hB.1.1]; rfl
  have ea : sp_X0_a 240 f (nI k) = nI (P (k + 1)) := by rw [rd_a (by omega) (by decide), hB.1.2.1]
  have eb : sp_X0_b 240 f (nI k) = nI (P (k + 2)) := by unfold sp_X0_b; rw [rd_2 (by omega) (by decide), hB.1.2.2.1]
  have ec : sp_X0_c 240 f (nI k) = nI (P (k + 3)) := by unfold sp_X0_c; rw [rd_3 (by omega) (by decide), hB.1.2.2.2]
  have en := rd_n (f := f) (k := k) (N := 240) (by omega) (by decide) hB.1.2.2.1 hB.1.2.2.2
  have eR : sp_X0_hasRegistersOnly 240 f (nI k) = 1 := by rw [hR_N (by omega) (by decide) hB (by decide), hr]; rfl
  have eI : sp_X0_hasInstruction (nI (4 * n)) (nI k) = 1 := hi_T hk (by omega) (by omega)
  have ekw : kf P k = 12 := by unfold kf; rw [hw]; rfl
  have e6 : sp_X6_areRegisters 12 (nI (P (k + 1))) (nI (P (k + 2))) (nI (P (k + 3))) = 1 := by rw [show (12 : Int32) = nI 12 from rfl]; rw [aR_N (by decide) (hG _) (hG _) (hG _), hr]; rfl
  have ecl : (nI k).toNatClampNeg = k := nI_clamp (by omega)
  have n1 : ¬ nI k < 0 := nI_pos (by omega)
  have n2 : ¬ nI (4 * n) ≤ nI k := fun q => absurd ((nI_leI (by omega) (by omega)).mp q) (by omega)
  have n3 : nI k - nI k / 4 * 4 = 0 := by rw [show nI k - nI k / 4 * 4 = nI (k % 4) from pk_rem (d := 4) (by omega) (by decide) (by decide), hk]; rfl
  have eka : kf P (k + 1) = nI (P (k + 1)) := rfl
  have ekb : kf P (k + 2) = nI (P (k + 2)) := rfl
  have ekc : kf P (k + 3) = nI (P (k + 3)) := rfl
  have n4 : 4 * nI (256 * P (k + 2) + P (k + 3)) = nI (4 * (256 * P (k + 2) + P (k + 3))) := pk_mul 4 _
  clear hr hB e hG
  refine ⟨?_, ?_, ?_, ?_, ?_, ?_, ?_, ?_, ?_⟩
  all_goals by_cases hz : nI (4 * (256 * P (k + 2) + P (k + 3))) &&& 15 = 0
  all_goals simp [ms_ret, ms_next, m6_ret, m6_next, sp_X1_step, sp_X1_step_registers, sp_X1_step_cells, sp_X1_step_address, sp_X1_step_steps, sp_X1_step_strays, sp_X1_step_slips, sp_X1_step_regionStores, sp_X1_step_latestStray, sp_X6_step, sp_X6_step_registers, sp_X6_step_memory, sp_X6_step_told, sp_X1_isWord, sp_X3_isProgramWord, hpr, ew, ea, eb, ec, en, eR, eI, ekw, e6, ecl, g0, n1, n2, n3, eka, ekb, ekc, chg_7, n4, sp_X1_jump_address, sp_X1_jump_slips, sp_X1_jump_registers, ibs_0, hz, uu]
theorem sp1_13 {P Q : Nat → Nat} {f fr fm gt : Nat → Int32} {xB pr : Int32} {n b k : Nat} (hpr : ¬ pr = 0) (hn : n ≤ 60) (hk : k % 4 = 0) (hl : k + 3 < 4 * n) (hG : ∀ x, P x < 256) (e : ∀ x, x < 4 * n → f x = nI (P x)) (g0 : gt 0 = nI k) (hw : P k = 13) (hr : okR 13 (P (k + 1)) (P (k + 2)) (P (k + 3)) = true) : ms_ret 240 f (nI (4 * n)) pr (fr, fm, nI k, gt 1, gt 2, gt 3, gt 4, gt 5) = m6_ret P Q n b pr (fr, fm, gt) ∧ RS (ms_next xB 240 f (nI (4 * n)) pr (fr, fm, nI k, gt 1, gt 2, gt 3, gt 4, gt 5)) (m6_next P Q xB n b pr (fr, fm, gt)) := by
  have hB : By f k 13 (P (k + 1)) (P (k + 2)) (P (k + 3)) := ⟨⟨by rw [e _ (by omega), hw], e _ (by omega), e _ (by omega), e _ (by omega)⟩, by decide, hG _, hG _, hG _⟩
  have ew : sp_X0_word 240 f (nI k) = 13 := by rw [rd_w (by omega) (by decide), hB.1.1]; rfl
  have ea : sp_X0_a 240 f (nI k) = nI (P (k + 1)) := by rw [rd_a (by omega) (by decide), hB.1.2.1]
  have eb : sp_X0_b 240 f (nI k) = nI (P (k + 2)) := by unfold sp_X0_b; rw [rd_2 (by omega) (by decide), hB.1.2.2.1]
  have ec : sp_X0_c 240 f (nI k) = nI (P (k + 3)) := by unfold sp_X0_c; rw [rd_3 (by omega) (by decide), hB.1.2.2.2]
  have en := rd_n (f := f) (k := k) (N := 240) (by omega) (by decide) hB.1.2.2.1 hB.1.2.2.2
  have eR : sp_X0_hasRegistersOnly 240 f (nI k) = 1 := by rw [hR_N (by omega) (by decide) hB (by decide), hr]; rfl
  have eI : sp_X0_hasInstruction (nI (4 * n)) (nI k) = 1 := hi_T hk (by omega) (by omega)
  have ekw : kf P k = 13 := by unfold kf; rw [hw]; rfl
  have e6 : sp_X6_areRegisters 13 (nI (P (k + 1))) (nI (P (k + 2))) (nI (P (k + 3))) = 1 := by rw [show (13 : Int32) = nI 13 from rfl]; rw [aR_N (by decide) (hG _) (hG _) (hG _), hr]; rfl
  have ecl : (nI k).toNatClampNeg = k := nI_clamp (by omega)
  have n1 : ¬ nI k < 0 := nI_pos (by omega)
  have n2 : ¬ nI (4 * n) ≤ nI k := fun q => absurd ((nI_leI (by omega) (by omega)).mp q) (by omega)
  have n3 : nI k - nI k / 4 * 4 = 0 := by rw [show nI k - nI k / 4 * 4 = nI (k % 4) from pk_rem (d := 4) (by omega) (by decide) (by decide), hk]; rfl
  have eka : kf P (k + 1) = nI (P (k + 1)) := rfl
  have ekb : kf P (k + 2) = nI (P (k + 2)) := rfl
  have ekc : kf P (k + 3) = nI (P (k + 3)) := rfl
  have hok := of_decide_eq_true hr
  have ra : P (k + 1) ≤ 7 := hok.1 (by decide)
  clear hok
  have n4 : 4 * nI (256 * P (k + 2) + P (k + 3)) = nI (4 * (256 * P (k + 2) + P (k + 3))) := pk_mul 4 _
  clear hr hB e hG
  refine ⟨?_, ?_, ?_, ?_, ?_, ?_, ?_, ?_, ?_⟩
  all_goals by_cases hz : nI (4 * (256 * P (k + 2) + P (k + 3))) &&& 15 = 0
  all_goals by_cases hy : fr (P (k + 1)) = 0
  all_goals simp [ms_ret, ms_next, m6_ret, m6_next, sp_X1_step, sp_X1_step_registers, sp_X1_step_cells, sp_X1_step_address, sp_X1_step_steps, sp_X1_step_strays, sp_X1_step_slips, sp_X1_step_regionStores, sp_X1_step_latestStray, sp_X6_step, sp_X6_step_registers, sp_X6_step_memory, sp_X6_step_told, sp_X1_isWord, sp_X3_isProgramWord, hpr, ew, ea, eb, ec, en, eR, eI, ekw, e6, ecl, g0, n1, n2, n3, eka, ekb, ekc, chg_7, n4, val_N ra, chg_N ra, sp_X1_jump_address, sp_X1_jump_slips, sp_X1_jump_registers, ibs_0, hz, hy, uu]
theorem sp1_14 {P Q : Nat → Nat} {f fr fm gt : Nat → Int32} {xB pr : Int32} {n b k : Nat} (hpr : ¬ pr = 0) (hn : n ≤ 60) (hk : k % 4 = 0) (hl : k + 3 < 4 * n) (hG : ∀ x, P x < 256) (e : ∀ x, x < 4 * n → f x = nI (P x)) (g0 : gt 0 = nI k) (hw : P k = 14) (hr : okR 14 (P (k + 1)) (P (k + 2)) (P (k + 3)) = true) : ms_ret 240 f (nI (4 * n)) pr (fr, fm, nI k, gt 1, gt 2, gt 3, gt 4, gt 5) = m6_ret P Q n b pr (fr, fm, gt) ∧ RS (ms_next xB 240 f (nI (4 * n)) pr (fr, fm, nI k, gt 1, gt 2, gt 3, gt 4, gt 5)) (m6_next P Q xB n b pr (fr, fm, gt)) := by
  have hB : By f k 14 (P (k + 1)) (P (k + 2)) (P (k + 3)) := ⟨⟨by rw [e _ (by omega), hw], e _ (by omega), e _ (by omega), e _ (by omega)⟩, by decide, hG _, hG _, hG _⟩
  have ew : sp_X0_word 240 f (nI k) = 14 := by rw [rd_w (by omega) (by decide), hB.1.1]; rfl
  have ea : sp_X0_a 240 f (nI k) = nI (P (k + 1)) := by rw [rd_a (by omega) (by decide), hB.1.2.1]
  have eb : sp_X0_b 240 f (nI k) = nI (P (k + 2)) := by unfold sp_X0_b; rw [rd_2 (by omega) (by decide), hB.1.2.2.1]
  have ec : sp_X0_c 240 f (nI k) = nI (P (k + 3)) := by unfold sp_X0_c; rw [rd_3 (by omega) (by decide), hB.1.2.2.2]
  have en := rd_n (f := f) (k := k) (N := 240) (by omega) (by decide) hB.1.2.2.1 hB.1.2.2.2
  have eR : sp_X0_hasRegistersOnly 240 f (nI k) = 1 := by rw [hR_N (by omega) (by decide) hB (by decide), hr]; rfl
  have eI : sp_X0_hasInstruction (nI (4 * n)) (nI k) = 1 := hi_T hk (by omega) (by omega)
  have ekw : kf P k = 14 := by unfold kf; rw [hw]; rfl
  have e6 : sp_X6_areRegisters 14 (nI (P (k + 1))) (nI (P (k + 2))) (nI (P (k + 3))) = 1 := by rw [show (14 : Int32) = nI 14 from rfl]; rw [aR_N (by decide) (hG _) (hG _) (hG _), hr]; rfl
  have ecl : (nI k).toNatClampNeg = k := nI_clamp (by omega)
  have n1 : ¬ nI k < 0 := nI_pos (by omega)
  have n2 : ¬ nI (4 * n) ≤ nI k := fun q => absurd ((nI_leI (by omega) (by omega)).mp q) (by omega)
  have n3 : nI k - nI k / 4 * 4 = 0 := by rw [show nI k - nI k / 4 * 4 = nI (k % 4) from pk_rem (d := 4) (by omega) (by decide) (by decide), hk]; rfl
  have eka : kf P (k + 1) = nI (P (k + 1)) := rfl
  have ekb : kf P (k + 2) = nI (P (k + 2)) := rfl
  have ekc : kf P (k + 3) = nI (P (k + 3)) := rfl
  have hok := of_decide_eq_true hr
  have ra : P (k + 1) ≤ 7 := hok.1 (by decide)
  clear hok
  have n4 : 4 * nI (256 * P (k + 2) + P (k + 3)) = nI (4 * (256 * P (k + 2) + P (k + 3))) := pk_mul 4 _
  clear hr hB e hG
  refine ⟨?_, ?_, ?_, ?_, ?_, ?_, ?_, ?_, ?_⟩
  all_goals by_cases hz : fr (P (k + 1)) &&& 15 = 0
  all_goals simp [ms_ret, ms_next, m6_ret, m6_next, sp_X1_step, sp_X1_step_registers, sp_X1_step_cells, sp_X1_step_address, sp_X1_step_steps, sp_X1_step_strays, sp_X1_step_slips, sp_X1_step_regionStores, sp_X1_step_latestStray, sp_X6_step, sp_X6_step_registers, sp_X6_step_memory, sp_X6_step_told, sp_X1_isWord, sp_X3_isProgramWord, hpr, ew, ea, eb, ec, en, eR, eI, ekw, e6, ecl, g0, n1, n2, n3, eka, ekb, ekc, chg_7, n4, val_N ra, chg_N ra, sp_X1_jump_address, sp_X1_jump_slips, sp_X1_jump_registers, ibs_0, hz, uu]
theorem sp1_15 {P Q : Nat → Nat} {f fr fm gt : Nat → Int32} {xB pr : Int32} {n b k : Nat} (hpr : ¬ pr = 0) (hn : n ≤ 60) (hk : k % 4 = 0) (hl : k + 3 < 4 * n) (hG : ∀ x, P x < 256) (e : ∀ x, x < 4 * n → f x = nI (P x)) (g0 : gt 0 = nI k) (hw : P k = 15) (hr : okR 15 (P (k + 1)) (P (k + 2)) (P (k + 3)) = true) : ms_ret 240 f (nI (4 * n)) pr (fr, fm, nI k, gt 1, gt 2, gt 3, gt 4, gt 5) = m6_ret P Q n b pr (fr, fm, gt) ∧ RS (ms_next xB 240 f (nI (4 * n)) pr (fr, fm, nI k, gt 1, gt 2, gt 3, gt 4, gt 5)) (m6_next P Q xB n b pr (fr, fm, gt)) := by
  have hB : By f k 15 (P (k + 1)) (P (k + 2)) (P (k + 3)) := ⟨⟨by rw [e _ (by omega), hw], e _ (by omega), e _ (by omega), e _ (by omega)⟩, by decide, hG _, hG _, hG _⟩
  have ew : sp_X0_word 240 f (nI k) = 15 := by rw [rd_w (by omega) (by decide), hB.1.1]; rfl
  have ea : sp_X0_a 240 f (nI k) = nI (P (k + 1)) := by rw [rd_a (by omega) (by decide), hB.1.2.1]
  have eb : sp_X0_b 240 f (nI k) = nI (P (k + 2)) := by unfold sp_X0_b; rw [rd_2 (by omega) (by decide), hB.1.2.2.1]
  have ec : sp_X0_c 240 f (nI k) = nI (P (k + 3)) := by unfold sp_X0_c; rw [rd_3 (by omega) (by decide), hB.1.2.2.2]
  have en := rd_n (f := f) (k := k) (N := 240) (by omega) (by decide) hB.1.2.2.1 hB.1.2.2.2
  have eR : sp_X0_hasRegistersOnly 240 f (nI k) = 1 := by rw [hR_N (by omega) (by decide) hB (by decide), hr]; rfl
  have eI : sp_X0_hasInstruction (nI (4 * n)) (nI k) = 1 := hi_T hk (by omega) (by omega)
  have ekw : kf P k = 15 := by unfold kf; rw [hw]; rfl
  have e6 : sp_X6_areRegisters 15 (nI (P (k + 1))) (nI (P (k + 2))) (nI (P (k + 3))) = 1 := by rw [show (15 : Int32) = nI 15 from rfl]; rw [aR_N (by decide) (hG _) (hG _) (hG _), hr]; rfl
  have ecl : (nI k).toNatClampNeg = k := nI_clamp (by omega)
  have n1 : ¬ nI k < 0 := nI_pos (by omega)
  have n2 : ¬ nI (4 * n) ≤ nI k := fun q => absurd ((nI_leI (by omega) (by omega)).mp q) (by omega)
  have n3 : nI k - nI k / 4 * 4 = 0 := by rw [show nI k - nI k / 4 * 4 = nI (k % 4) from pk_rem (d := 4) (by omega) (by decide) (by decide), hk]; rfl
  have eka : kf P (k + 1) = nI (P (k + 1)) := rfl
  have ekb : kf P (k + 2) = nI (P (k + 2)) := rfl
  have ekc : kf P (k + 3) = nI (P (k + 3)) := rfl
  have n4 : 4 * nI (256 * P (k + 2) + P (k + 3)) = nI (4 * (256 * P (k + 2) + P (k + 3))) := pk_mul 4 _
  clear hr hB e hG
  refine ⟨?_, ?_, ?_, ?_, ?_, ?_, ?_, ?_, ?_⟩
  all_goals by_cases hz : nI (4 * (256 * P (k + 2) + P (k + 3))) &&& 15 = 0
  all_goals simp [ms_ret, ms_next, m6_ret, m6_next, sp_X1_step, sp_X1_step_registers, sp_X1_step_cells, sp_X1_step_address, sp_X1_step_steps, sp_X1_step_strays, sp_X1_step_slips, sp_X1_step_regionStores, sp_X1_step_latestStray, sp_X6_step, sp_X6_step_registers, sp_X6_step_memory, sp_X6_step_told, sp_X1_isWord, sp_X3_isProgramWord, hpr, ew, ea, eb, ec, en, eR, eI, ekw, e6, ecl, g0, n1, n2, n3, eka, ekb, ekc, chg_7, n4, sp_X1_jump_address, sp_X1_jump_slips, sp_X1_jump_registers, ibs_0, hz, uu]
theorem sp1_18 {P Q : Nat → Nat} {f fr fm gt : Nat → Int32} {xB pr : Int32} {n b k : Nat} (hpr : ¬ pr = 0) (hn : n ≤ 60) (hk : k % 4 = 0) (hl : k + 3 < 4 * n) (hG : ∀ x, P x < 256) (e : ∀ x, x < 4 * n → f x = nI (P x)) (g0 : gt 0 = nI k) (hw : P k = 18) (hr : okR 18 (P (k + 1)) (P (k + 2)) (P (k + 3)) = true) : ms_ret 240 f (nI (4 * n)) pr (fr, fm, nI k, gt 1, gt 2, gt 3, gt 4, gt 5) = m6_ret P Q n b pr (fr, fm, gt) ∧ RS (ms_next xB 240 f (nI (4 * n)) pr (fr, fm, nI k, gt 1, gt 2, gt 3, gt 4, gt 5)) (m6_next P Q xB n b pr (fr, fm, gt)) := by
  have hB : By f k 18 (P (k + 1)) (P (k + 2)) (P (k + 3)) := ⟨⟨by rw [e _ (by omega), hw], e _ (by omega), e _ (by omega), e _ (by omega)⟩, by decide, hG _, hG _, hG _⟩
  have ew : sp_X0_word 240 f (nI k) = 18 := by rw [rd_w (by omega) (by decide), hB.1.1]; rfl
  have ea : sp_X0_a 240 f (nI k) = nI (P (k + 1)) := by rw [rd_a (by omega) (by decide), hB.1.2.1]
  have eb : sp_X0_b 240 f (nI k) = nI (P (k + 2)) := by unfold sp_X0_b; rw [rd_2 (by omega) (by decide), hB.1.2.2.1]
  have ec : sp_X0_c 240 f (nI k) = nI (P (k + 3)) := by unfold sp_X0_c; rw [rd_3 (by omega) (by decide), hB.1.2.2.2]
  have en := rd_n (f := f) (k := k) (N := 240) (by omega) (by decide) hB.1.2.2.1 hB.1.2.2.2
  have eR : sp_X0_hasRegistersOnly 240 f (nI k) = 1 := by rw [hR_N (by omega) (by decide) hB (by decide), hr]; rfl
  have eI : sp_X0_hasInstruction (nI (4 * n)) (nI k) = 1 := hi_T hk (by omega) (by omega)
  have ekw : kf P k = 18 := by unfold kf; rw [hw]; rfl
  have e6 : sp_X6_areRegisters 18 (nI (P (k + 1))) (nI (P (k + 2))) (nI (P (k + 3))) = 1 := by rw [show (18 : Int32) = nI 18 from rfl]; rw [aR_N (by decide) (hG _) (hG _) (hG _), hr]; rfl
  have ecl : (nI k).toNatClampNeg = k := nI_clamp (by omega)
  have n1 : ¬ nI k < 0 := nI_pos (by omega)
  have n2 : ¬ nI (4 * n) ≤ nI k := fun q => absurd ((nI_leI (by omega) (by omega)).mp q) (by omega)
  have n3 : nI k - nI k / 4 * 4 = 0 := by rw [show nI k - nI k / 4 * 4 = nI (k % 4) from pk_rem (d := 4) (by omega) (by decide) (by decide), hk]; rfl
  have eka : kf P (k + 1) = nI (P (k + 1)) := rfl
  have ekb : kf P (k + 2) = nI (P (k + 2)) := rfl
  have ekc : kf P (k + 3) = nI (P (k + 3)) := rfl
  have hok := of_decide_eq_true hr
  have ra : P (k + 1) ≤ 7 := hok.1 (by decide)
  clear hok
  have n4 : 4 * nI (256 * P (k + 2) + P (k + 3)) = nI (4 * (256 * P (k + 2) + P (k + 3))) := pk_mul 4 _
  clear hr hB e hG
  refine ⟨?_, ?_, ?_, ?_, ?_, ?_, ?_, ?_, ?_⟩
  all_goals simp [ms_ret, ms_next, m6_ret, m6_next, sp_X1_step, sp_X1_step_registers, sp_X1_step_cells, sp_X1_step_address, sp_X1_step_steps, sp_X1_step_strays, sp_X1_step_slips, sp_X1_step_regionStores, sp_X1_step_latestStray, sp_X6_step, sp_X6_step_registers, sp_X6_step_memory, sp_X6_step_told, sp_X1_isWord, sp_X3_isProgramWord, hpr, ew, ea, eb, ec, en, eR, eI, ekw, e6, ecl, g0, n1, n2, n3, eka, ekb, ekc, chg_7, n4, val_N ra, chg_N ra, sp_X1_result, uu]
