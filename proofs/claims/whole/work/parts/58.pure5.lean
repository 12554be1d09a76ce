/-! MY PURE ROWS 5: one step of the machine -/
theorem val_N {fr : Nat → Int32} {a : Nat} (h : a ≤ 7) : sp_X1_valueOf fr (nI a) = fr a := by
  unfold sp_X1_valueOf
  rw [if_neg (nI_pos (by omega)), if_neg (fun q => absurd ((nI_leI (by decide) (by omega)).mp q) (by omega)), nI_clamp (by omega)]
theorem chg_N {fr : Nat → Int32} {a : Nat} {v : Int32} (h : a ≤ 7) : sp_X1_change_registers fr (nI a) v = upd fr a v := by
  unfold sp_X1_change_registers
  rw [if_neg (nI_pos (by omega)), if_neg (fun q => absurd ((nI_leI (by decide) (by omega)).mp q) (by omega)), nI_clamp (by omega)]
theorem chg_7 {fr : Nat → Int32} {v : Int32} : sp_X1_change_registers fr 7 v = upd fr 7 v := chg_N (a := 7) (by decide)
theorem td16 (t : Int) (h1 : -2147483648 ≤ t) (h2 : t < 2147483648) : -134217728 ≤ t.tdiv 16 ∧ t.tdiv 16 ≤ 134217727 ∧ (t = t.tdiv 16 * 16 ↔ t % 16 = 0) := by
  by_cases h : 0 ≤ t
  · rw [Int.tdiv_eq_ediv_of_nonneg h]
    omega
  · have e : t.tdiv 16 = -((-t) / 16) := by
      rw [← Int.tdiv_eq_ediv_of_nonneg (by omega), Int.neg_tdiv, Int.neg_neg]
    rw [e]
    omega
theorem and15 (x : Int32) : (x - x / 16 * 16 = 0) ↔ (x &&& 15 = 0) := by
  have e1 : x &&& 15 = nI (x.toBitVec.toNat % 2 ^ 4) := pk_and x 4 (by decide)
  have hlo : -2147483648 ≤ x.toInt := Int32.le_toInt x
  have hhi : x.toInt < 2147483648 := Int32.toInt_lt x
  obtain ⟨t1, t2, t3⟩ := td16 x.toInt hlo hhi
  have ed : (x / 16).toInt = x.toInt.tdiv 16 := by
    rw [Int32.toInt_div]
    exact Int.bmod_eq_of_le (by show -(4294967296 / 2) ≤ x.toInt.tdiv 16; omega) (by show x.toInt.tdiv 16 < (4294967296 + 1) / 2; omega)
  have em : (x / 16 * 16).toInt = x.toInt.tdiv 16 * 16 := by
    rw [Int32.toInt_mul, ed]
    exact Int.bmod_eq_of_le (by show -(4294967296 / 2) ≤ x.toInt.tdiv 16 * 16; omega) (by show x.toInt.tdiv 16 * 16 < (4294967296 + 1) / 2; omega)
  have hz : (x - x / 16 * 16 = 0) ↔ x.toInt % 16 = 0 := by
    rw [← t3, ← em, Int32.toInt_inj]
    constructor
    · intro h
      have := congrArg (fun z => z + x / 16 * 16) h
      simpa [Int32.sub_add_cancel] using this
    · intro h
      rw [← h]
      exact Int32.sub_self x
  rw [hz, e1]
  have hb : x.toInt = if 2 * x.toBitVec.toNat < 4294967296 then (x.toBitVec.toNat : Int) else (x.toBitVec.toNat : Int) - 4294967296 := by
    rw [← Int32.toInt_toBitVec, BitVec.toInt_eq_toNat_cond]
    rfl
  have hm : nI (x.toBitVec.toNat % 2 ^ 4) = 0 ↔ x.toBitVec.toNat % 16 = 0 := nI_eq (b := 0) (by have := Nat.mod_lt x.toBitVec.toNat (show 0 < 2 ^ 4 by decide); omega) (by decide)
  rw [hm, hb]
  split <;> omega

theorem ibs_N (x : Int32) : sp_X5_isBundleStart x = if x &&& 15 = 0 then 1 else 0 := by
  unfold sp_X5_isBundleStart
  by_cases h : x &&& 15 = 0
  · rw [if_pos h, if_pos ((and15 x).mpr h)]
  · rw [if_neg h, if_neg (fun q => h ((and15 x).mp q))]
theorem ibs_0 (x : Int32) : (sp_X5_isBundleStart x = 0) ↔ ¬ (x &&& 15 = 0) := by
  rw [ibs_N]
  by_cases h : x &&& 15 = 0
  · rw [if_pos h]
    exact ⟨fun q => absurd q (by decide), fun q => absurd h q⟩
  · rw [if_neg h]
    exact ⟨fun _ => h, fun _ => rfl⟩
theorem iim_N (x : Int32) : sp_X5_isInMemory x = if x < 0 then 0 else (if x ≤ 4095 then 1 else 0) := by
  unfold sp_X5_isInMemory
  by_cases h0 : x < 0
  · rw [if_pos h0, if_pos h0]
  · rw [if_neg h0, if_neg h0]
    obtain ⟨j, hj, rfl⟩ := nI_of h0
    by_cases h : j ≤ 4095
    · rw [if_pos ((q_le (x := 4095) (b := 4095) rfl hj (by decide)).mpr h), if_neg (fun q => absurd ((q_ge (x := 4096) (b := 4096) rfl hj (by decide)).mp q) (by omega))]
    · rw [if_neg (fun q => h ((q_le (x := 4095) (b := 4095) rfl hj (by decide)).mp q)), if_pos ((q_ge (x := 4096) (b := 4096) rfl hj (by decide)).mpr (by omega))]
theorem ld_N {fm : Nat → Int32} {x : Int32} (h0 : ¬ x < 0) (h1 : x ≤ 4095) : sp_X1_load fm x = fm x.toNatClampNeg := by
  unfold sp_X1_load
  obtain ⟨j, hj, rfl⟩ := nI_of h0
  have := (q_le (x := 4095) (b := 4095) rfl hj (by decide)).mp h1
  rw [if_neg h0, if_neg (fun q => absurd ((nI_leI (by decide) hj).mp q) (by omega))]
theorem st_N {fm : Nat → Int32} {x v : Int32} (h0 : ¬ x < 0) (h1 : x ≤ 4095) : sp_X1_store_cells fm x v = upd fm x.toNatClampNeg v := by
  unfold sp_X1_store_cells
  obtain ⟨j, hj, rfl⟩ := nI_of h0
  have := (q_le (x := 4095) (b := 4095) rfl hj (by decide)).mp h1
  rw [if_neg h0, if_neg (fun q => absurd ((nI_leI (by decide) hj).mp q) (by omega))]
theorem hi_T {n k : Nat} (hk : k % 4 = 0) (h : k < n) (hn : n < 2 ^ 31) : sp_X0_hasInstruction (nI n) (nI k) = 1 := by
  unfold sp_X0_hasInstruction sp_X0_has
  have e : nI k - nI k / 4 * 4 = nI (k % 4) := pk_rem (d := 4) (by omega) (by decide) (by decide)
  rw [if_neg (nI_pos (by omega)), if_neg (fun q => absurd ((nI_leI hn (by omega)).mp q) (by omega)), if_neg (by decide), e, hk]
  rfl
theorem uu {f : Nat → Int32} {k j : Nat} {x : Int32} : upd f k x j = if j = k then x else f j := rfl
/-- the machine's state and the reference's -/
def RS (x : MS) (y : M6) : Prop := x.1 = y.1 ∧ x.2.1 = y.2.1 ∧ x.2.2.1 = y.2.2 0 ∧ x.2.2.2.1 = y.2.2 1 ∧ x.2.2.2.2.1 = y.2.2 2 ∧ x.2.2.2.2.2.1 = y.2.2 3 ∧ x.2.2.2.2.2.2.1 = y.2.2 4 ∧ x.2.2.2.2.2.2.2 = y.2.2 5
