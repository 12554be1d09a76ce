/-! MY PURE ROWS 7: one step, and runs -/
theorem out0 {P Q : Nat → Nat} {f fr fm gt : Nat → Int32} {xB pr : Int32} {n b : Nat} (hpr : pr = 0) (hb : b ≤ 64) (hG : ∀ x, Q x < 256) (e : ∀ x, x < 16 * b → f x = nI (Q x)) (h : gt 0 < 0 ∨ nI (16 * b) ≤ gt 0 ∨ ¬ gt 0 - gt 0 / 4 * 4 = 0) : ms_ret 1024 f (nI (16 * b)) pr (fr, fm, gt 0, gt 1, gt 2, gt 3, gt 4, gt 5) = m6_ret P Q n b pr (fr, fm, gt) ∧ RS (ms_next xB 1024 f (nI (16 * b)) pr (fr, fm, gt 0, gt 1, gt 2, gt 3, gt 4, gt 5)) (m6_next P Q xB n b pr (fr, fm, gt)) := by
  have hI : sp_X0_hasInstruction (nI (16 * b)) (gt 0) = 0 := by
    unfold sp_X0_hasInstruction sp_X0_has
    by_cases h0 : gt 0 < 0
    · rw [if_pos h0, if_pos rfl]
    · by_cases h1 : nI (16 * b) ≤ gt 0
      · rw [if_neg h0, if_pos h1, if_pos rfl]
      · rw [if_neg h0, if_neg h1, if_neg (by decide), if_neg (by rcases h with q | q | q; exact absurd q h0; exact absurd q h1; exact q)]
  by_cases h0 : gt 0 < 0
  · simp [ms_ret, ms_next, m6_ret, m6_next, sp_X1_step, sp_X1_step_registers, sp_X1_step_cells, sp_X1_step_address, sp_X1_step_steps, sp_X1_step_strays, sp_X1_step_slips, sp_X1_step_regionStores, sp_X1_step_latestStray, sp_X6_step, sp_X6_step_registers, sp_X6_step_memory, sp_X6_step_told, RS, hpr, hI, h0]
  · by_cases h1 : nI (16 * b) ≤ gt 0
    · simp [ms_ret, ms_next, m6_ret, m6_next, sp_X1_step, sp_X1_step_registers, sp_X1_step_cells, sp_X1_step_address, sp_X1_step_steps, sp_X1_step_strays, sp_X1_step_slips, sp_X1_step_regionStores, sp_X1_step_latestStray, sp_X6_step, sp_X6_step_registers, sp_X6_step_memory, sp_X6_step_told, RS, hpr, hI, h0, h1]
    · have h2 : ¬ gt 0 - gt 0 / 4 * 4 = 0 := by
        rcases h with q | q | q
        · exact absurd q h0
        · exact absurd q h1
        · exact q
      simp [ms_ret, ms_next, m6_ret, m6_next, sp_X1_step, sp_X1_step_registers, sp_X1_step_cells, sp_X1_step_address, sp_X1_step_steps, sp_X1_step_strays, sp_X1_step_slips, sp_X1_step_regionStores, sp_X1_step_latestStray, sp_X6_step, sp_X6_step_registers, sp_X6_step_memory, sp_X6_step_told, RS, hpr, hI, h0, h1, h2]
theorem bad0 {P Q : Nat → Nat} {f fr fm gt : Nat → Int32} {xB pr : Int32} {n b : Nat} (hpr : pr = 0) (hb : b ≤ 64) (hG : ∀ x, Q x < 256) (e : ∀ x, x < 16 * b → f x = nI (Q x)) {k : Nat} (hk : k % 4 = 0) (hl : k + 3 < 16 * b) (g0 : gt 0 = nI k) (h : 18 ≤ Q k ∨ (¬ (18 ≤ Q k) ∧ okR (Q k) (Q (k + 1)) (Q (k + 2)) (Q (k + 3)) = false)) : ms_ret 1024 f (nI (16 * b)) pr (fr, fm, gt 0, gt 1, gt 2, gt 3, gt 4, gt 5) = m6_ret P Q n b pr (fr, fm, gt) ∧ RS (ms_next xB 1024 f (nI (16 * b)) pr (fr, fm, gt 0, gt 1, gt 2, gt 3, gt 4, gt 5)) (m6_next P Q xB n b pr (fr, fm, gt)) := by
  subst hpr
  have hB : By f k (Q k) (Q (k + 1)) (Q (k + 2)) (Q (k + 3)) := ⟨⟨e _ (by omega), e _ (by omega), e _ (by omega), e _ (by omega)⟩, hG _, hG _, hG _, hG _⟩
  have ew : sp_X0_word 1024 f (nI k) = nI (Q k) := by rw [rd_w (by omega) (by decide), hB.1.1]
  have eI : sp_X0_hasInstruction (nI (16 * b)) (nI k) = 1 := hi_T hk (by omega) (by omega)
  have n1 : ¬ nI k < 0 := nI_pos (by omega)
  have n2 : ¬ nI (16 * b) ≤ nI k := fun q => absurd ((nI_leI (by omega) (by omega)).mp q) (by omega)
  have n3 : nI k - nI k / 4 * 4 = 0 := by rw [show nI k - nI k / 4 * 4 = nI (k % 4) from pk_rem (d := 4) (by omega) (by decide) (by decide), hk]; rfl
  have ecl : (nI k).toNatClampNeg = k := nI_clamp (by omega)
  have k5 : sp_X1_isWord (nI (Q k)) 0 = if 18 ≤ Q k then 0 else 1 := by
    unfold sp_X1_isWord
    rw [if_pos rfl]
    by_cases hw : 18 ≤ Q k
    · rw [if_pos hw, if_pos ((q_gt (x := 17) (b := 17) rfl (by have := hG k; omega) (by decide)).mpr (by omega))]
    · rw [if_neg hw, if_neg (fun q => hw (by have := (q_gt (x := 17) (b := 17) rfl (by have := hG k; omega) (by decide)).mp q; omega))]
  have k6 : (18 : Int32) ≤ nI (Q k) ↔ 18 ≤ Q k := q_ge (x := 18) (b := 18) rfl (by have := hG k; omega) (by decide)
  rcases h with hw | ⟨hw, hr⟩

  · simp [ms_ret, ms_next, m6_ret, m6_next, sp_X1_step, sp_X1_step_registers, sp_X1_step_cells, sp_X1_step_address, sp_X1_step_steps, sp_X1_step_strays, sp_X1_step_slips, sp_X1_step_regionStores, sp_X1_step_latestStray, sp_X6_step, sp_X6_step_registers, sp_X6_step_memory, sp_X6_step_told, RS, g0, ew, eI, n1, n2, n3, ecl, k5, k6, kf, hw]
  · have eR : sp_X0_hasRegistersOnly 1024 f (nI k) = 0 := by rw [hR_N (by omega) (by decide) hB (by omega), hr]; rfl
    have e6 : sp_X6_areRegisters (nI (Q k)) (nI (Q (k + 1))) (nI (Q (k + 2))) (nI (Q (k + 3))) = 0 := by rw [aR_N (hG _) (hG _) (hG _) (hG _), hr]; rfl
    simp [ms_ret, ms_next, m6_ret, m6_next, sp_X1_step, sp_X1_step_registers, sp_X1_step_cells, sp_X1_step_address, sp_X1_step_steps, sp_X1_step_strays, sp_X1_step_slips, sp_X1_step_regionStores, sp_X1_step_latestStray, sp_X6_step, sp_X6_step_registers, sp_X6_step_memory, sp_X6_step_told, RS, g0, ew, eI, n1, n2, n3, ecl, k5, k6, kf, hw, eR, e6]
theorem stp0 {P Q : Nat → Nat} {f fr fm gt : Nat → Int32} {xB pr : Int32} {n b : Nat} (hpr : pr = 0) (hb : b ≤ 64) (hG : ∀ x, Q x < 256) (e : ∀ x, x < 16 * b → f x = nI (Q x)) : ms_ret 1024 f (nI (16 * b)) pr (fr, fm, gt 0, gt 1, gt 2, gt 3, gt 4, gt 5) = m6_ret P Q n b pr (fr, fm, gt) ∧ RS (ms_next xB 1024 f (nI (16 * b)) pr (fr, fm, gt 0, gt 1, gt 2, gt 3, gt 4, gt 5)) (m6_next P Q xB n b pr (fr, fm, gt)) := by
  by_cases h : gt 0 < 0 ∨ nI (16 * b) ≤ gt 0 ∨ ¬ gt 0 - gt 0 / 4 * 4 = 0
  · exact out0 hpr hb hG e h
  · have h0 : ¬ gt 0 < 0 := fun q => h (Or.inl q)
    have h1 : ¬ nI (16 * b) ≤ gt 0 := fun q => h (Or.inr (Or.inl q))
    have h2 : gt 0 - gt 0 / 4 * 4 = 0 := Decidable.not_not.mp (fun q => h (Or.inr (Or.inr q)))
    obtain ⟨k, hk, g0⟩ := nI_of h0
    rw [g0] at h1 h2
    have hlt : k < 16 * b := Nat.lt_of_not_le (fun q => h1 ((nI_leI (by omega) hk).mpr q))
    have h4 : k % 4 = 0 := by
      have e1 : nI k - nI k / 4 * 4 = nI (k % 4) := pk_rem (d := 4) hk (by decide) (by decide)
      rw [e1] at h2
      exact k_eqT (b := 0) h2 (by omega) (by decide)
    have hl : k + 3 < 16 * b := by omega
    by_cases hw : 18 ≤ Q k
    · exact bad0 hpr hb hG e h4 hl g0 (Or.inl hw)
    · by_cases hr : okR (Q k) (Q (k + 1)) (Q (k + 2)) (Q (k + 3)) = false
      · exact bad0 hpr hb hG e h4 hl g0 (Or.inr ⟨hw, hr⟩)
      · have hr' : okR (Q k) (Q (k + 1)) (Q (k + 2)) (Q (k + 3)) = true := by simpa using hr
        rw [g0]
        rcases (show Q k = 0 ∨ Q k = 1 ∨ Q k = 2 ∨ Q k = 3 ∨ Q k = 4 ∨ Q k = 5 ∨ Q k = 6 ∨ Q k = 7 ∨ Q k = 8 ∨ Q k = 9 ∨ Q k = 10 ∨ Q k = 11 ∨ Q k = 12 ∨ Q k = 13 ∨ Q k = 14 ∨ Q k = 15 ∨ Q k = 16 ∨ Q k = 17 by omega) with q | q | q | q | q | q | q | q | q | q | q | q | q | q | q | q | q | q <;> rw [q] at hr'
        · exact sp0_0 hpr hb h4 hl hG e g0 q hr'
        · exact sp0_1 hpr hb h4 hl hG e g0 q hr'
        · exact sp0_2 hpr hb h4 hl hG e g0 q hr'
        · exact sp0_3 hpr hb h4 hl hG e g0 q hr'
        · exact sp0_4 hpr hb h4 hl hG e g0 q hr'
        · exact sp0_5 hpr hb h4 hl hG e g0 q hr'
        · exact sp0_6 hpr hb h4 hl hG e g0 q hr'
        · exact sp0_7 hpr hb h4 hl hG e g0 q hr'
        · exact sp0_8 hpr hb h4 hl hG e g0 q hr'
        · exact sp0_9 hpr hb h4 hl hG e g0 q hr'
        · exact sp0_10 hpr hb h4 hl hG e g0 q hr'
        · exact sp0_11 hpr hb h4 hl hG e g0 q hr'
        · exact sp0_12 hpr hb h4 hl hG e g0 q hr'
        · exact sp0_13 hpr hb h4 hl hG e g0 q hr'
        · exact sp0_14 hpr hb h4 hl hG e g0 q hr'
        · exact sp0_15 hpr hb h4 hl hG e g0 q hr'
        · exact sp0_16 hpr hb h4 hl hG e g0 q hr'
        · exact sp0_17 hpr hb h4 hl hG e g0 q hr'
theorem run0 {P Q : Nat → Nat} {f : Nat → Int32} {xB pr : Int32} {n b : Nat} (hpr : pr = 0) (hb : b ≤ 64) (hG : ∀ x, Q x < 256) (e : ∀ x, x < 16 * b → f x = nI (Q x)) : ∀ t (x : MS) (y : M6), RS x y → (ms_run xB 1024 f (nI (16 * b)) pr t x).1 = (m6_run P Q xB n b pr t y).1 ∧ RS (ms_run xB 1024 f (nI (16 * b)) pr t x).2 (m6_run P Q xB n b pr t y).2
  | 0, x, y, h => ⟨rfl, h⟩
  | t + 1, x, y, h => by
    obtain ⟨a1, a2, a3, a4, a5, a6, a7, a8⟩ := x
    obtain ⟨y1, y2, gt⟩ := y
    obtain ⟨h1, h2, h3, h4, h5, h6, h7, h8⟩ := h
    simp only at h1 h2 h3 h4 h5 h6 h7 h8
    subst a1 a2 a3 a4 a5 a6 a7 a8
    have hs := stp0 (P := P) (Q := Q) (f := f) (fr := y1) (fm := y2) (gt := gt) (xB := xB) (n := n) (b := b) hpr hb hG e
    unfold ms_run m6_run
    rw [hs.1]
    by_cases hz : m6_ret P Q n b pr (y1, y2, gt) = 0
    · rw [if_pos hz, if_pos hz]
      exact run0 hpr hb hG e t _ _ hs.2
    · rw [if_neg hz, if_neg hz]
      exact ⟨rfl, hs.2⟩
theorem out1 {P Q : Nat → Nat} {f fr fm gt : Nat → Int32} {xB pr : Int32} {n b : Nat} (hpr : ¬ pr = 0) (hn : n ≤ 60) (hG : ∀ x, P x < 256) (e : ∀ x, x < 4 * n → f x = nI (P x)) (h : gt 0 < 0 ∨ nI (4 * n) ≤ gt 0 ∨ ¬ gt 0 - gt 0 / 4 * 4 = 0) : ms_ret 240 f (nI (4 * n)) pr (fr, fm, gt 0, gt 1, gt 2, gt 3, gt 4, gt 5) = m6_ret P Q n b pr (fr, fm, gt) ∧ RS (ms_next xB 240 f (nI (4 * n)) pr (fr, fm, gt 0, gt 1, gt 2, gt 3, gt 4, gt 5)) (m6_next P Q xB n b pr (fr, fm, gt)) := by
  have hI : sp_X0_hasInstruction (nI (4 * n)) (gt 0) = 0 := by
    unfold sp_X0_hasInstruction sp_X0_has
    by_cases h0 : gt 0 < 0
    · rw [if_pos h0, if_pos rfl]
    · by_cases h1 : nI (4 * n) ≤ gt 0
      · rw [if_neg h0, if_pos h1, if_pos rfl]
      · rw [if_neg h0, if_neg h1, if_neg (by decide), if_neg (by rcases h with q | q | q; exact absurd q h0; exact absurd q h1; exact q)]
  by_cases h0 : gt 0 < 0
  · simp [ms_ret, ms_next, m6_ret, m6_next, sp_X1_step, sp_X1_step_registers, sp_X1_step_cells, sp_X1_step_address, sp_X1_step_steps, sp_X1_step_strays, sp_X1_step_slips, sp_X1_step_regionStores, sp_X1_step_latestStray, sp_X6_step, sp_X6_step_registers, sp_X6_step_memory, sp_X6_step_told, RS, hpr, hI, h0]
  · by_cases h1 : nI (4 * n) ≤ gt 0
    · simp [ms_ret, ms_next, m6_ret, m6_next, sp_X1_step, sp_X1_step_registers, sp_X1_step_cells, sp_X1_step_address, sp_X1_step_steps, sp_X1_step_strays, sp_X1_step_slips, sp_X1_step_regionStores, sp_X1_step_latestStray, sp_X6_step, sp_X6_step_registers, sp_X6_step_memory, sp_X6_step_told, RS, hpr, hI, h0, h1]
    · have h2 : ¬ gt 0 - gt 0 / 4 * 4 = 0 := by
        rcases h with q | q | q
        · exact absurd q h0
        · exact absurd q h1
        · exact q
      simp [ms_ret, ms_next, m6_ret, m6_next, sp_X1_step, sp_X1_step_registers, sp_X1_step_cells, sp_X1_step_address, sp_X1_step_steps, sp_X1_step_strays, sp_X1_step_slips, sp_X1_step_regionStores, sp_X1_step_latestStray, sp_X6_step, sp_X6_step_registers, sp_X6_step_memory, sp_X6_step_told, RS, hpr, hI, h0, h1, h2]
theorem bad1 {P Q : Nat → Nat} {f fr fm gt : Nat → Int32} {xB pr : Int32} {n b : Nat} (hpr : ¬ pr = 0) (hn : n ≤ 60) (hG : ∀ x, P x < 256) (e : ∀ x, x < 4 * n → f x = nI (P x)) {k : Nat} (hk : k % 4 = 0) (hl : k + 3 < 4 * n) (g0 : gt 0 = nI k) (h : ¬ (P k < 16 ∨ P k = 18) ∨ (¬ (¬ (P k < 16 ∨ P k = 18)) ∧ okR (P k) (P (k + 1)) (P (k + 2)) (P (k + 3)) = false)) : ms_ret 240 f (nI (4 * n)) pr (fr, fm, gt 0, gt 1, gt 2, gt 3, gt 4, gt 5) = m6_ret P Q n b pr (fr, fm, gt) ∧ RS (ms_next xB 240 f (nI (4 * n)) pr (fr, fm, gt 0, gt 1, gt 2, gt 3, gt 4, gt 5)) (m6_next P Q xB n b pr (fr, fm, gt)) := by

  have hB : By f k (P k) (P (k + 1)) (P (k + 2)) (P (k + 3)) := ⟨⟨e _ (by omega), e _ (by omega), e _ (by omega), e _ (by omega)⟩, hG _, hG _, hG _, hG _⟩
  have ew : sp_X0_word 240 f (nI k) = nI (P k) := by rw [rd_w (by omega) (by decide), hB.1.1]
  have eI : sp_X0_hasInstruction (nI (4 * n)) (nI k) = 1 := hi_T hk (by omega) (by omega)
  have n1 : ¬ nI k < 0 := nI_pos (by omega)
  have n2 : ¬ nI (4 * n) ≤ nI k := fun q => absurd ((nI_leI (by omega) (by omega)).mp q) (by omega)
  have n3 : nI k - nI k / 4 * 4 = 0 := by rw [show nI k - nI k / 4 * 4 = nI (k % 4) from pk_rem (d := 4) (by omega) (by decide) (by decide), hk]; rfl
  have ecl : (nI k).toNatClampNeg = k := nI_clamp (by omega)
  have k5 : sp_X1_isWord (nI (P k)) pr = if P k < 16 ∨ P k = 18 then 1 else 0 := by
    unfold sp_X1_isWord
    rw [if_neg hpr, pW_N (hG k)]
  have k6 : nI (P k) < 16 ↔ P k < 16 := q_lt (x := 16) (b := 16) rfl (by have := hG k; omega) (by decide)
  have k7 : nI (P k) = 18 ↔ P k = 18 := q_i (x := 18) (b := 18) rfl (by have := hG k; omega) (by decide)
  rcases h with hw | ⟨hw, hr⟩
  · have w1 : ¬ P k < 16 := fun q => hw (Or.inl q)
    have w2 : ¬ P k = 18 := fun q => hw (Or.inr q)
    simp [ms_ret, ms_next, m6_ret, m6_next, sp_X1_step, sp_X1_step_registers, sp_X1_step_cells, sp_X1_step_address, sp_X1_step_steps, sp_X1_step_strays, sp_X1_step_slips, sp_X1_step_regionStores, sp_X1_step_latestStray, sp_X6_step, sp_X6_step_registers, sp_X6_step_memory, sp_X6_step_told, RS, hpr, g0, ew, eI, n1, n2, n3, ecl, k5, k6, k7, kf, w1, w2]
  · have eR : sp_X0_hasRegistersOnly 240 f (nI k) = 0 := by rw [hR_N (by omega) (by decide) hB (by omega), hr]; rfl
    have e6 : sp_X6_areRegisters (nI (P k)) (nI (P (k + 1))) (nI (P (k + 2))) (nI (P (k + 3))) = 0 := by rw [aR_N (hG _) (hG _) (hG _) (hG _), hr]; rfl
    by_cases w1 : P k < 16
    · simp [ms_ret, ms_next, m6_ret, m6_next, sp_X1_step, sp_X1_step_registers, sp_X1_step_cells, sp_X1_step_address, sp_X1_step_steps, sp_X1_step_strays, sp_X1_step_slips, sp_X1_step_regionStores, sp_X1_step_latestStray, sp_X6_step, sp_X6_step_registers, sp_X6_step_memory, sp_X6_step_told, RS, hpr, g0, ew, eI, n1, n2, n3, ecl, k5, k6, k7, kf, w1, eR, e6]
    · have w2 : P k = 18 := by omega
      rw [w2] at e6
      simp [ms_ret, ms_next, m6_ret, m6_next, sp_X1_step, sp_X1_step_registers, sp_X1_step_cells, sp_X1_step_address, sp_X1_step_steps, sp_X1_step_strays, sp_X1_step_slips, sp_X1_step_regionStores, sp_X1_step_latestStray, sp_X6_step, sp_X6_step_registers, sp_X6_step_memory, sp_X6_step_told, RS, hpr, g0, ew, eI, n1, n2, n3, ecl, k5, k6, k7, kf, w2, eR, e6]
theorem stp1 {P Q : Nat → Nat} {f fr fm gt : Nat → Int32} {xB pr : Int32} {n b : Nat} (hpr : ¬ pr = 0) (hn : n ≤ 60) (hG : ∀ x, P x < 256) (e : ∀ x, x < 4 * n → f x = nI (P x)) : ms_ret 240 f (nI (4 * n)) pr (fr, fm, gt 0, gt 1, gt 2, gt 3, gt 4, gt 5) = m6_ret P Q n b pr (fr, fm, gt) ∧ RS (ms_next xB 240 f (nI (4 * n)) pr (fr, fm, gt 0, gt 1, gt 2, gt 3, gt 4, gt 5)) (m6_next P Q xB n b pr (fr, fm, gt)) := by
  by_cases h : gt 0 < 0 ∨ nI (4 * n) ≤ gt 0 ∨ ¬ gt 0 - gt 0 / 4 * 4 = 0
  · exact out1 hpr hn hG e h
  · have h0 : ¬ gt 0 < 0 := fun q => h (Or.inl q)
    have h1 : ¬ nI (4 * n) ≤ gt 0 := fun q => h (Or.inr (Or.inl q))
    have h2 : gt 0 - gt 0 / 4 * 4 = 0 := Decidable.not_not.mp (fun q => h (Or.inr (Or.inr q)))
    obtain ⟨k, hk, g0⟩ := nI_of h0
    rw [g0] at h1 h2
    have hlt : k < 4 * n := Nat.lt_of_not_le (fun q => h1 ((nI_leI (by omega) hk).mpr q))
    have h4 : k % 4 = 0 := by
      have e1 : nI k - nI k / 4 * 4 = nI (k % 4) := pk_rem (d := 4) hk (by decide) (by decide)
      rw [e1] at h2
      exact k_eqT (b := 0) h2 (by omega) (by decide)
    have hl : k + 3 < 4 * n := by omega
    by_cases hw : ¬ (P k < 16 ∨ P k = 18)
    · exact bad1 hpr hn hG e h4 hl g0 (Or.inl hw)
    · by_cases hr : okR (P k) (P (k + 1)) (P (k + 2)) (P (k + 3)) = false
      · exact bad1 hpr hn hG e h4 hl g0 (Or.inr ⟨hw, hr⟩)
      · have hr' : okR (P k) (P (k + 1)) (P (k + 2)) (P (k + 3)) = true := by simpa using hr
        rw [g0]
        rcases (show P k = 0 ∨ P k = 1 ∨ P k = 2 ∨ P k = 3 ∨ P k = 4 ∨ P k = 5 ∨ P k = 6 ∨ P k = 7 ∨ P k = 8 ∨ P k = 9 ∨ P k = 10 ∨ P k = 11 ∨ P k = 12 ∨ P k = 13 ∨ P k = 14 ∨ P k = 15 ∨ P k = 18 by omega) with q | q | q | q | q | q | q | q | q | q | q | q | q | q | q | q | q <;> rw [q] at hr'
        · exact sp1_0 hpr hn h4 hl hG e g0 q hr'
        · exact sp1_1 hpr hn h4 hl hG e g0 q hr'
        · exact sp1_2 hpr hn h4 hl hG e g0 q hr'
        · exact sp1_3 hpr hn h4 hl hG e g0 q hr'
        · exact sp1_4 hpr hn h4 hl hG e g0 q hr'
        · exact sp1_5 hpr hn h4 hl hG e g0 q hr'
        · exact sp1_6 hpr hn h4 hl hG e g0 q hr'
        · exact sp1_7 hpr hn h4 hl hG e g0 q hr'
        · exact sp1_8 hpr hn h4 hl hG e g0 q hr'
        · exact sp1_9 hpr hn h4 hl hG e g0 q hr'
        · exact sp1_10 hpr hn h4 hl hG e g0 q hr'
        · exact sp1_11 hpr hn h4 hl hG e g0 q hr'
        · exact sp1_12 hpr hn h4 hl hG e g0 q hr'
        · exact sp1_13 hpr hn h4 hl hG e g0 q hr'
        · exact sp1_14 hpr hn h4 hl hG e g0 q hr'
        · exact sp1_15 hpr hn h4 hl hG e g0 q hr'
        · exact sp1_18 hpr hn h4 hl hG e g0 q hr'
theorem run1 {P Q : Nat → Nat} {f : Nat → Int32} {xB pr : Int32} {n b : Nat} (hpr : ¬ pr = 0) (hn : n ≤ 60) (hG : ∀ x, P x < 256) (e : ∀ x, x < 4 * n → f x = nI (P x)) : ∀ t (x : MS) (y : M6), RS x y → (ms_run xB 240 f (nI (4 * n)) pr t x).1 = (m6_run P Q xB n b pr t y).1 ∧ RS (ms_run xB 240 f (nI (4 * n)) pr t x).2 (m6_run P Q xB n b pr t y).2
  | 0, x, y, h => ⟨rfl, h⟩
  | t + 1, x, y, h => by
    obtain ⟨a1, a2, a3, a4, a5, a6, a7, a8⟩ := x
    obtain ⟨y1, y2, gt⟩ := y
    obtain ⟨h1, h2, h3, h4, h5, h6, h7, h8⟩ := h
    simp only at h1 h2 h3 h4 h5 h6 h7 h8
    subst a1 a2 a3 a4 a5 a6 a7 a8
    have hs := stp1 (P := P) (Q := Q) (f := f) (fr := y1) (fm := y2) (gt := gt) (xB := xB) (n := n) (b := b) hpr hn hG e
    unfold ms_run m6_run
    rw [hs.1]
    by_cases hz : m6_ret P Q n b pr (y1, y2, gt) = 0
    · rw [if_pos hz, if_pos hz]
      exact run1 hpr hn hG e t _ _ hs.2
    · rw [if_neg hz, if_neg hz]
      exact ⟨rfl, hs.2⟩
