theorem k_leT {a b : Nat} (h : nI a ≤ nI b) (ha : a < 2 ^ 31) (hb : b < 2 ^ 31) : a ≤ b := (nI_leI ha hb).mp h
theorem k_leF {a b : Nat} (h : ¬ nI a ≤ nI b) (ha : a < 2 ^ 31) (hb : b < 2 ^ 31) : b < a := Nat.lt_of_not_le fun q => h ((nI_leI ha hb).mpr q)
theorem k_ltT {a b : Nat} (h : nI a < nI b) (ha : a < 2 ^ 31) (hb : b < 2 ^ 31) : a < b := (nI_ltI ha hb).mp h
theorem k_ltF {a b : Nat} (h : ¬ nI a < nI b) (ha : a < 2 ^ 31) (hb : b < 2 ^ 31) : b ≤ a := Nat.le_of_not_lt fun q => h ((nI_ltI ha hb).mpr q)
theorem k_eqT {a b : Nat} (h : nI a = nI b) (ha : a < 2 ^ 31) (hb : b < 2 ^ 31) : a = b := (nI_eq ha hb).mp h
theorem k_eqF {a b : Nat} (h : ¬ nI a = nI b) (ha : a < 2 ^ 31) (hb : b < 2 ^ 31) : a ≠ b := fun q => h ((nI_eq ha hb).mpr q)

def sp_X6_isByte (v : Int32) : Int32 := if v < 0 then 0 else (if 256 ≤ v then 0 else 1)
theorem sp_X6_isByte_b (v : Int32) : sp_X6_isByte v = 0 ∨ sp_X6_isByte v = 1 := by
  unfold sp_X6_isByte
  exact k_if01 (Or.inl rfl) (k_if01 (Or.inl rfl) (Or.inr rfl))
set_option maxHeartbeats 4000000 in
set_option maxRecDepth 100000 in
theorem c_X6_isByte (l : Launch) (g : KG) (v : Int32)  : Ci l g yX6_isByte wsX6_isByte ({ frames := 0, cells := 0, slots := 0, locals := 0 }) [.int v] [] (fun r u => r = sp_X6_isByte v ∧ u = []) 0 0 := by
  intro sz
  refine Met.ofW (cc := cX6_isByte) (maxL := 1) (ret := (some .boolean)) (by decide) rfl ?_
  intro p e s m args below meth c s₁ B hml hv
  obtain ⟨rfl, hsz, hP, hK, hD0, hE, hN⟩ := hv
  have hx := B.exec
  have hb := B.bytes
  have hr := B.returns
  have hts := atoms_spec (ws := wsX6_isByte) B.pre
  have hown : s.vm.findClass RX6 = some m.cls := findClass_of_methodNamed B.named
  have hlocks := B.notSynchronized
  subst hsz
  have hD := hD0.self (sz := s.heap.size)
  generalize hAe : va_A [] s.heap.size = A at hD hE ⊢
  have hA : ∀ q : Nat, s.heap.size ≤ q → A q := fun q h => by rw [← hAe]; exact Or.inr h
  have hS : va_S A s.heap s.heap [] := va_S.rf
  have hl := lv_entry ([.int v]) (n := 1) (Nat.le_of_ble_eq_true rfl)
  rw [lg_entry_eq]
  generalize (lg_sl ([.int v]) ++ List.replicate (1 - (lg_sl ([.int v])).length) Slot.unset).toArray = ls at hl ⊢
  have hl : lv_has ls 1 [(0, .int v)] := hl
  refine lv_iload_n hx hb dX6_isByte_0 rfl (lv_at hl 0 rfl) ?_
  refine lv_if_lt (tgt := 15) hx hb dX6_isByte_1 (by decide) (fun c_0 => ?_) (fun c_0 => ?_)
  · skip
    refine lv_iconst (v := 0) hx hb dX6_isByte_15 (by decide) ?_
    exact k_iret hx hb hr hlocks ⟨hK, hP, hD, hS, hA, hE, hN⟩ rfl dX6_isByte_16 (Nat.le_of_ble_eq_true rfl) (Nat.le_of_ble_eq_true rfl) ⟨(by simp only [sp_X6_isByte, if_pos c_0]), rfl⟩
  · skip
    refine lv_iload_n hx hb dX6_isByte_4 rfl (lv_at hl 0 rfl) ?_
    refine lv_sipush (v := 256) hx hb dX6_isByte_5 (by decide) ?_
    refine lv_icmp_ge (tgt := 15) hx hb dX6_isByte_8 (by decide) (fun c_1 => ?_) (fun c_1 => ?_)
    · skip
      refine lv_iconst (v := 0) hx hb dX6_isByte_15 (by decide) ?_
      exact k_iret hx hb hr hlocks ⟨hK, hP, hD, hS, hA, hE, hN⟩ rfl dX6_isByte_16 (Nat.le_of_ble_eq_true rfl) (Nat.le_of_ble_eq_true rfl) ⟨(by simp only [sp_X6_isByte, if_neg c_0, if_pos c_1]), rfl⟩
    · skip
      refine lv_iconst (v := 1) hx hb dX6_isByte_11 (by decide) ?_
      refine lv_goto (tgt := 16) hx hb dX6_isByte_12 (by decide) ?_
      exact k_iret hx hb hr hlocks ⟨hK, hP, hD, hS, hA, hE, hN⟩ rfl dX6_isByte_16 (Nat.le_of_ble_eq_true rfl) (Nat.le_of_ble_eq_true rfl) ⟨(by simp only [sp_X6_isByte, if_neg c_0, if_neg c_1]), rfl⟩
def sp_X6_areBytes (wd : Int32) (a0 : Int32) (b0 : Int32) (c0 : Int32) : Int32 := if (sp_X6_isByte wd) = 0 then 0 else (if (sp_X6_isByte a0) = 0 then 0 else (if (sp_X6_isByte b0) = 0 then 0 else (if (sp_X6_isByte c0) = 0 then 0 else 1)))
theorem sp_X6_areBytes_b (wd : Int32) (a0 : Int32) (b0 : Int32) (c0 : Int32) : sp_X6_areBytes wd a0 b0 c0 = 0 ∨ sp_X6_areBytes wd a0 b0 c0 = 1 := by
  unfold sp_X6_areBytes
  exact k_if01 (Or.inl rfl) (k_if01 (Or.inl rfl) (k_if01 (Or.inl rfl) (k_if01 (Or.inl rfl) (Or.inr rfl))))
set_option maxHeartbeats 4000000 in
set_option maxRecDepth 100000 in
theorem c_X6_areBytes (l : Launch) (g : KG) (wd : Int32) (a0 : Int32) (b0 : Int32) (c0 : Int32)  : Ci l g yX6_areBytes wsX6_areBytes ({ frames := 1, cells := 0, slots := 0, locals := 20 }) [.int wd, .int a0, .int b0, .int c0] [] (fun r u => r = sp_X6_areBytes wd a0 b0 c0 ∧ u = []) 0 0 := by
  intro sz
  refine Met.ofW (cc := cX6_areBytes) (maxL := 4) (ret := (some .boolean)) (by decide) rfl ?_
  intro p e s m args below meth c s₁ B hml hv
  obtain ⟨rfl, hsz, hP, hK, hD0, hE, hN⟩ := hv
  have hx := B.exec
  have hb := B.bytes
  have hr := B.returns
  have hts := atoms_spec (ws := wsX6_areBytes) B.pre
  have hown : s.vm.findClass RX6 = some m.cls := findClass_of_methodNamed B.named
  have hlocks := B.notSynchronized
  subst hsz
  have hD := hD0.self (sz := s.heap.size)
  generalize hAe : va_A [] s.heap.size = A at hD hE ⊢
  have hA : ∀ q : Nat, s.heap.size ≤ q → A q := fun q h => by rw [← hAe]; exact Or.inr h
  have hS : va_S A s.heap s.heap [] := va_S.rf
  have hl := lv_entry ([.int wd, .int a0, .int b0, .int c0]) (n := 4) (Nat.le_of_ble_eq_true rfl)
  rw [lg_entry_eq]
  generalize (lg_sl ([.int wd, .int a0, .int b0, .int c0]) ++ List.replicate (4 - (lg_sl ([.int wd, .int a0, .int b0, .int c0])).length) Slot.unset).toArray = ls at hl ⊢
  have hl : lv_has ls 4 [(0, .int wd), (1, .int a0), (2, .int b0), (3, .int c0)] := hl
  refine lv_iload_n hx hb dX6_areBytes_0 rfl (lv_at hl 0 rfl) ?_
  refine kiS (As := [.int wd]) (rest := []) (wc := []) (wr := []) ⟨hx, hb, hml, hown, hts⟩ (c_X6_isByte l g wd) (va_cwS 1 hts gX6_areBytes_X6_isByte rfl rfl rfl (by decide +kernel) ⟨Nat.le_of_ble_eq_true rfl, Nat.le_of_ble_eq_true rfl⟩) ⟨hK, hP, hD, hS, hA, hE, hN⟩ [] [] ⟨rfl, rfl, by decide⟩ rfl hl.1 (Nat.le_of_ble_eq_true rfl) dX6_areBytes_1 ⟨Nat.le_of_ble_eq_true rfl, Nat.le_of_ble_eq_true rfl⟩ rfl (fun r u H locs hw hP hD hS => ?_)
  obtain ⟨hq, hw⟩ := hw
  subst r
  subst hw
  have hP := hP.sub (ws' := []) [] rfl
  have hD := hD.sub (ws' := []) [] (by decide) rfl
  refine lv_if_eq (tgt := 32) hx hb dX6_areBytes_4 (by decide) (fun c_0 => ?_) (fun c_0 => ?_)
  · skip
    refine lv_iconst (v := 0) hx hb dX6_areBytes_32 (by decide) ?_
    exact k_iret hx hb hr hlocks ⟨hK, hP, hD, hS, hA, hE, hN⟩ rfl dX6_areBytes_33 (Nat.le_of_ble_eq_true rfl) (Nat.le_of_ble_eq_true rfl) ⟨(by simp only [sp_X6_areBytes, if_pos c_0]), rfl⟩
  · skip
    refine lv_iload_n hx hb dX6_areBytes_7 rfl (lv_at hl 1 rfl) ?_
    refine kiS (As := [.int a0]) (rest := []) (wc := []) (wr := []) ⟨hx, hb, hml, hown, hts⟩ (c_X6_isByte l g a0) (va_cwS 1 hts gX6_areBytes_X6_isByte rfl rfl rfl (by decide +kernel) ⟨Nat.le_of_ble_eq_true rfl, Nat.le_of_ble_eq_true rfl⟩) ⟨hK, hP, hD, hS, hA, hE, hN⟩ [] [] ⟨rfl, rfl, by decide⟩ rfl hl.1 (Nat.le_of_ble_eq_true rfl) dX6_areBytes_8 ⟨Nat.le_of_ble_eq_true rfl, Nat.le_of_ble_eq_true rfl⟩ rfl (fun r u H locs hw hP hD hS => ?_)
    obtain ⟨hq, hw⟩ := hw
    subst r
    subst hw
    have hP := hP.sub (ws' := []) [] rfl
    have hD := hD.sub (ws' := []) [] (by decide) rfl
    refine lv_if_eq (tgt := 32) hx hb dX6_areBytes_11 (by decide) (fun c_1 => ?_) (fun c_1 => ?_)
    · skip
      refine lv_iconst (v := 0) hx hb dX6_areBytes_32 (by decide) ?_
      exact k_iret hx hb hr hlocks ⟨hK, hP, hD, hS, hA, hE, hN⟩ rfl dX6_areBytes_33 (Nat.le_of_ble_eq_true rfl) (Nat.le_of_ble_eq_true rfl) ⟨(by simp only [sp_X6_areBytes, if_neg c_0, if_pos c_1]), rfl⟩
    · skip
      refine lv_iload_n hx hb dX6_areBytes_14 rfl (lv_at hl 2 rfl) ?_
      refine kiS (As := [.int b0]) (rest := []) (wc := []) (wr := []) ⟨hx, hb, hml, hown, hts⟩ (c_X6_isByte l g b0) (va_cwS 1 hts gX6_areBytes_X6_isByte rfl rfl rfl (by decide +kernel) ⟨Nat.le_of_ble_eq_true rfl, Nat.le_of_ble_eq_true rfl⟩) ⟨hK, hP, hD, hS, hA, hE, hN⟩ [] [] ⟨rfl, rfl, by decide⟩ rfl hl.1 (Nat.le_of_ble_eq_true rfl) dX6_areBytes_15 ⟨Nat.le_of_ble_eq_true rfl, Nat.le_of_ble_eq_true rfl⟩ rfl (fun r u H locs hw hP hD hS => ?_)
      obtain ⟨hq, hw⟩ := hw
      subst r
      subst hw
      have hP := hP.sub (ws' := []) [] rfl
      have hD := hD.sub (ws' := []) [] (by decide) rfl
      refine lv_if_eq (tgt := 32) hx hb dX6_areBytes_18 (by decide) (fun c_2 => ?_) (fun c_2 => ?_)
      · skip
        refine lv_iconst (v := 0) hx hb dX6_areBytes_32 (by decide) ?_
        exact k_iret hx hb hr hlocks ⟨hK, hP, hD, hS, hA, hE, hN⟩ rfl dX6_areBytes_33 (Nat.le_of_ble_eq_true rfl) (Nat.le_of_ble_eq_true rfl) ⟨(by simp only [sp_X6_areBytes, if_neg c_0, if_neg c_1, if_pos c_2]), rfl⟩
      · skip
        refine lv_iload_n hx hb dX6_areBytes_21 rfl (lv_at hl 3 rfl) ?_
        refine kiS (As := [.int c0]) (rest := []) (wc := []) (wr := []) ⟨hx, hb, hml, hown, hts⟩ (c_X6_isByte l g c0) (va_cwS 1 hts gX6_areBytes_X6_isByte rfl rfl rfl (by decide +kernel) ⟨Nat.le_of_ble_eq_true rfl, Nat.le_of_ble_eq_true rfl⟩) ⟨hK, hP, hD, hS, hA, hE, hN⟩ [] [] ⟨rfl, rfl, by decide⟩ rfl hl.1 (Nat.le_of_ble_eq_true rfl) dX6_areBytes_22 ⟨Nat.le_of_ble_eq_true rfl, Nat.le_of_ble_eq_true rfl⟩ rfl (fun r u H locs hw hP hD hS => ?_)
        obtain ⟨hq, hw⟩ := hw
        subst r
        subst hw
        have hP := hP.sub (ws' := []) [] rfl
        have hD := hD.sub (ws' := []) [] (by decide) rfl
        refine lv_if_eq (tgt := 32) hx hb dX6_areBytes_25 (by decide) (fun c_3 => ?_) (fun c_3 => ?_)
        · skip
          refine lv_iconst (v := 0) hx hb dX6_areBytes_32 (by decide) ?_
          exact k_iret hx hb hr hlocks ⟨hK, hP, hD, hS, hA, hE, hN⟩ rfl dX6_areBytes_33 (Nat.le_of_ble_eq_true rfl) (Nat.le_of_ble_eq_true rfl) ⟨(by simp only [sp_X6_areBytes, if_neg c_0, if_neg c_1, if_neg c_2, if_pos c_3]), rfl⟩
        · skip
          refine lv_iconst (v := 1) hx hb dX6_areBytes_28 (by decide) ?_
          refine lv_goto (tgt := 33) hx hb dX6_areBytes_29 (by decide) ?_
          exact k_iret hx hb hr hlocks ⟨hK, hP, hD, hS, hA, hE, hN⟩ rfl dX6_areBytes_33 (Nat.le_of_ble_eq_true rfl) (Nat.le_of_ble_eq_true rfl) ⟨(by simp only [sp_X6_areBytes, if_neg c_0, if_neg c_1, if_neg c_2, if_neg c_3]), rfl⟩
def sp_X6_isPlace (i : Int32) : Int32 := if i = 12 then 1 else (if i = 13 then 1 else (if i = 15 then 1 else (if i = 18 then 1 else 0)))
theorem sp_X6_isPlace_b (i : Int32) : sp_X6_isPlace i = 0 ∨ sp_X6_isPlace i = 1 := by
  unfold sp_X6_isPlace
  exact k_if01 (Or.inr rfl) (k_if01 (Or.inr rfl) (k_if01 (Or.inr rfl) (k_if01 (Or.inr rfl) (Or.inl rfl))))
set_option maxHeartbeats 4000000 in
set_option maxRecDepth 100000 in
theorem c_X6_isPlace (l : Launch) (g : KG) (i : Int32)  : Ci l g yX6_isPlace wsX6_isPlace ({ frames := 0, cells := 0, slots := 0, locals := 0 }) [.int i] [] (fun r u => r = sp_X6_isPlace i ∧ u = []) 0 0 := by
  intro sz
  refine Met.ofW (cc := cX6_isPlace) (maxL := 1) (ret := (some .boolean)) (by decide) rfl ?_
  intro p e s m args below meth c s₁ B hml hv
  obtain ⟨rfl, hsz, hP, hK, hD0, hE, hN⟩ := hv
  have hx := B.exec
  have hb := B.bytes
  have hr := B.returns
  have hts := atoms_spec (ws := wsX6_isPlace) B.pre
  have hown : s.vm.findClass RX6 = some m.cls := findClass_of_methodNamed B.named
  have hlocks := B.notSynchronized
  subst hsz
  have hD := hD0.self (sz := s.heap.size)
  generalize hAe : va_A [] s.heap.size = A at hD hE ⊢
  have hA : ∀ q : Nat, s.heap.size ≤ q → A q := fun q h => by rw [← hAe]; exact Or.inr h
  have hS : va_S A s.heap s.heap [] := va_S.rf
  have hl := lv_entry ([.int i]) (n := 1) (Nat.le_of_ble_eq_true rfl)
  rw [lg_entry_eq]
  generalize (lg_sl ([.int i]) ++ List.replicate (1 - (lg_sl ([.int i])).length) Slot.unset).toArray = ls at hl ⊢
  have hl : lv_has ls 1 [(0, .int i)] := hl
  refine lv_iload_n hx hb dX6_isPlace_0 rfl (lv_at hl 0 rfl) ?_
  refine lv_bipush (v := 12) hx hb dX6_isPlace_1 (by decide) ?_
  refine lv_icmp_eq (tgt := 24) hx hb dX6_isPlace_3 (by decide) (fun c_0 => ?_) (fun c_0 => ?_)
  · skip
    refine lv_iconst (v := 1) hx hb dX6_isPlace_24 (by decide) ?_
    refine lv_goto (tgt := 29) hx hb dX6_isPlace_25 (by decide) ?_
    exact k_iret hx hb hr hlocks ⟨hK, hP, hD, hS, hA, hE, hN⟩ rfl dX6_isPlace_29 (Nat.le_of_ble_eq_true rfl) (Nat.le_of_ble_eq_true rfl) ⟨(by simp only [sp_X6_isPlace, if_pos c_0]), rfl⟩
  · skip
    refine lv_iload_n hx hb dX6_isPlace_6 rfl (lv_at hl 0 rfl) ?_
    refine lv_bipush (v := 13) hx hb dX6_isPlace_7 (by decide) ?_
    refine lv_icmp_eq (tgt := 24) hx hb dX6_isPlace_9 (by decide) (fun c_1 => ?_) (fun c_1 => ?_)
    · skip
      refine lv_iconst (v := 1) hx hb dX6_isPlace_24 (by decide) ?_
      refine lv_goto (tgt := 29) hx hb dX6_isPlace_25 (by decide) ?_
      exact k_iret hx hb hr hlocks ⟨hK, hP, hD, hS, hA, hE, hN⟩ rfl dX6_isPlace_29 (Nat.le_of_ble_eq_true rfl) (Nat.le_of_ble_eq_true rfl) ⟨(by simp only [sp_X6_isPlace, if_neg c_0, if_pos c_1]), rfl⟩
    · skip
      refine lv_iload_n hx hb dX6_isPlace_12 rfl (lv_at hl 0 rfl) ?_
      refine lv_bipush (v := 15) hx hb dX6_isPlace_13 (by decide) ?_
      refine lv_icmp_eq (tgt := 24) hx hb dX6_isPlace_15 (by decide) (fun c_2 => ?_) (fun c_2 => ?_)
      · skip
        refine lv_iconst (v := 1) hx hb dX6_isPlace_24 (by decide) ?_
        refine lv_goto (tgt := 29) hx hb dX6_isPlace_25 (by decide) ?_
        exact k_iret hx hb hr hlocks ⟨hK, hP, hD, hS, hA, hE, hN⟩ rfl dX6_isPlace_29 (Nat.le_of_ble_eq_true rfl) (Nat.le_of_ble_eq_true rfl) ⟨(by simp only [sp_X6_isPlace, if_neg c_0, if_neg c_1, if_pos c_2]), rfl⟩
      · skip
        refine lv_iload_n hx hb dX6_isPlace_18 rfl (lv_at hl 0 rfl) ?_
        refine lv_bipush (v := 18) hx hb dX6_isPlace_19 (by decide) ?_
        refine lv_icmp_ne (tgt := 28) hx hb dX6_isPlace_21 (by decide) (fun c_3 => ?_) (fun c_3 => ?_)
        · skip
          refine lv_iconst (v := 0) hx hb dX6_isPlace_28 (by decide) ?_
          exact k_iret hx hb hr hlocks ⟨hK, hP, hD, hS, hA, hE, hN⟩ rfl dX6_isPlace_29 (Nat.le_of_ble_eq_true rfl) (Nat.le_of_ble_eq_true rfl) ⟨(by simp only [sp_X6_isPlace, if_neg c_0, if_neg c_1, if_neg c_2, if_neg c_3]), rfl⟩
        · skip
          refine lv_iconst (v := 1) hx hb dX6_isPlace_24 (by decide) ?_
          refine lv_goto (tgt := 29) hx hb dX6_isPlace_25 (by decide) ?_
          exact k_iret hx hb hr hlocks ⟨hK, hP, hD, hS, hA, hE, hN⟩ rfl dX6_isPlace_29 (Nat.le_of_ble_eq_true rfl) (Nat.le_of_ble_eq_true rfl) ⟨(by simp only [sp_X6_isPlace, if_neg c_0, if_neg c_1, if_neg c_2, if_pos c_3]), rfl⟩
def sp_X6_hasA (i : Int32) : Int32 := if i = 0 then 0 else (if i = 12 then 0 else (if i = 15 then 0 else 1))
theorem sp_X6_hasA_b (i : Int32) : sp_X6_hasA i = 0 ∨ sp_X6_hasA i = 1 := by
  unfold sp_X6_hasA
  exact k_if01 (Or.inl rfl) (k_if01 (Or.inl rfl) (k_if01 (Or.inl rfl) (Or.inr rfl)))
set_option maxHeartbeats 4000000 in
set_option maxRecDepth 100000 in
theorem c_X6_hasA (l : Launch) (g : KG) (i : Int32)  : Ci l g yX6_hasA wsX6_hasA ({ frames := 0, cells := 0, slots := 0, locals := 0 }) [.int i] [] (fun r u => r = sp_X6_hasA i ∧ u = []) 0 0 := by
  intro sz
  refine Met.ofW (cc := cX6_hasA) (maxL := 1) (ret := (some .boolean)) (by decide) rfl ?_
  intro p e s m args below meth c s₁ B hml hv
  obtain ⟨rfl, hsz, hP, hK, hD0, hE, hN⟩ := hv
  have hx := B.exec
  have hb := B.bytes
  have hr := B.returns
  have hts := atoms_spec (ws := wsX6_hasA) B.pre
  have hown : s.vm.findClass RX6 = some m.cls := findClass_of_methodNamed B.named
  have hlocks := B.notSynchronized
  subst hsz
  have hD := hD0.self (sz := s.heap.size)
  generalize hAe : va_A [] s.heap.size = A at hD hE ⊢
  have hA : ∀ q : Nat, s.heap.size ≤ q → A q := fun q h => by rw [← hAe]; exact Or.inr h
  have hS : va_S A s.heap s.heap [] := va_S.rf
  have hl := lv_entry ([.int i]) (n := 1) (Nat.le_of_ble_eq_true rfl)
  rw [lg_entry_eq]
  generalize (lg_sl ([.int i]) ++ List.replicate (1 - (lg_sl ([.int i])).length) Slot.unset).toArray = ls at hl ⊢
  have hl : lv_has ls 1 [(0, .int i)] := hl
  refine lv_iload_n hx hb dX6_hasA_0 rfl (lv_at hl 0 rfl) ?_
  refine lv_if_eq (tgt := 20) hx hb dX6_hasA_1 (by decide) (fun c_0 => ?_) (fun c_0 => ?_)
  · skip
    refine lv_iconst (v := 0) hx hb dX6_hasA_20 (by decide) ?_
    exact k_iret hx hb hr hlocks ⟨hK, hP, hD, hS, hA, hE, hN⟩ rfl dX6_hasA_21 (Nat.le_of_ble_eq_true rfl) (Nat.le_of_ble_eq_true rfl) ⟨(by simp only [sp_X6_hasA, if_pos c_0]), rfl⟩
  · skip
    refine lv_iload_n hx hb dX6_hasA_4 rfl (lv_at hl 0 rfl) ?_
    refine lv_bipush (v := 12) hx hb dX6_hasA_5 (by decide) ?_
    refine lv_icmp_eq (tgt := 20) hx hb dX6_hasA_7 (by decide) (fun c_1 => ?_) (fun c_1 => ?_)
    · skip
      refine lv_iconst (v := 0) hx hb dX6_hasA_20 (by decide) ?_
      exact k_iret hx hb hr hlocks ⟨hK, hP, hD, hS, hA, hE, hN⟩ rfl dX6_hasA_21 (Nat.le_of_ble_eq_true rfl) (Nat.le_of_ble_eq_true rfl) ⟨(by simp only [sp_X6_hasA, if_neg c_0, if_pos c_1]), rfl⟩
    · skip
      refine lv_iload_n hx hb dX6_hasA_10 rfl (lv_at hl 0 rfl) ?_
      refine lv_bipush (v := 15) hx hb dX6_hasA_11 (by decide) ?_
      refine lv_icmp_eq (tgt := 20) hx hb dX6_hasA_13 (by decide) (fun c_2 => ?_) (fun c_2 => ?_)
      · skip
        refine lv_iconst (v := 0) hx hb dX6_hasA_20 (by decide) ?_
        exact k_iret hx hb hr hlocks ⟨hK, hP, hD, hS, hA, hE, hN⟩ rfl dX6_hasA_21 (Nat.le_of_ble_eq_true rfl) (Nat.le_of_ble_eq_true rfl) ⟨(by simp only [sp_X6_hasA, if_neg c_0, if_neg c_1, if_pos c_2]), rfl⟩
      · skip
        refine lv_iconst (v := 1) hx hb dX6_hasA_16 (by decide) ?_
        refine lv_goto (tgt := 21) hx hb dX6_hasA_17 (by decide) ?_
        exact k_iret hx hb hr hlocks ⟨hK, hP, hD, hS, hA, hE, hN⟩ rfl dX6_hasA_21 (Nat.le_of_ble_eq_true rfl) (Nat.le_of_ble_eq_true rfl) ⟨(by simp only [sp_X6_hasA, if_neg c_0, if_neg c_1, if_neg c_2]), rfl⟩
def sp_X6_hasB (i : Int32) : Int32 := if i ≤ 1 then 0 else (if 12 ≤ i then 0 else 1)
theorem sp_X6_hasB_b (i : Int32) : sp_X6_hasB i = 0 ∨ sp_X6_hasB i = 1 := by
  unfold sp_X6_hasB
  exact k_if01 (Or.inl rfl) (k_if01 (Or.inl rfl) (Or.inr rfl))
set_option maxHeartbeats 4000000 in
set_option maxRecDepth 100000 in
theorem c_X6_hasB (l : Launch) (g : KG) (i : Int32)  : Ci l g yX6_hasB wsX6_hasB ({ frames := 0, cells := 0, slots := 0, locals := 0 }) [.int i] [] (fun r u => r = sp_X6_hasB i ∧ u = []) 0 0 := by
  intro sz
  refine Met.ofW (cc := cX6_hasB) (maxL := 1) (ret := (some .boolean)) (by decide) rfl ?_
  intro p e s m args below meth c s₁ B hml hv
  obtain ⟨rfl, hsz, hP, hK, hD0, hE, hN⟩ := hv
  have hx := B.exec
  have hb := B.bytes
  have hr := B.returns
  have hts := atoms_spec (ws := wsX6_hasB) B.pre
  have hown : s.vm.findClass RX6 = some m.cls := findClass_of_methodNamed B.named
  have hlocks := B.notSynchronized
  subst hsz
  have hD := hD0.self (sz := s.heap.size)
  generalize hAe : va_A [] s.heap.size = A at hD hE ⊢
  have hA : ∀ q : Nat, s.heap.size ≤ q → A q := fun q h => by rw [← hAe]; exact Or.inr h
  have hS : va_S A s.heap s.heap [] := va_S.rf
  have hl := lv_entry ([.int i]) (n := 1) (Nat.le_of_ble_eq_true rfl)
  rw [lg_entry_eq]
  generalize (lg_sl ([.int i]) ++ List.replicate (1 - (lg_sl ([.int i])).length) Slot.unset).toArray = ls at hl ⊢
  have hl : lv_has ls 1 [(0, .int i)] := hl
  refine lv_iload_n hx hb dX6_hasB_0 rfl (lv_at hl 0 rfl) ?_
  refine lv_iconst (v := 1) hx hb dX6_hasB_1 (by decide) ?_
  refine lv_icmp_le (tgt := 15) hx hb dX6_hasB_2 (by decide) (fun c_0 => ?_) (fun c_0 => ?_)
  · skip
    refine lv_iconst (v := 0) hx hb dX6_hasB_15 (by decide) ?_
    exact k_iret hx hb hr hlocks ⟨hK, hP, hD, hS, hA, hE, hN⟩ rfl dX6_hasB_16 (Nat.le_of_ble_eq_true rfl) (Nat.le_of_ble_eq_true rfl) ⟨(by simp only [sp_X6_hasB, if_pos c_0]), rfl⟩
  · skip
    refine lv_iload_n hx hb dX6_hasB_5 rfl (lv_at hl 0 rfl) ?_
    refine lv_bipush (v := 12) hx hb dX6_hasB_6 (by decide) ?_
    refine lv_icmp_ge (tgt := 15) hx hb dX6_hasB_8 (by decide) (fun c_1 => ?_) (fun c_1 => ?_)
    · skip
      refine lv_iconst (v := 0) hx hb dX6_hasB_15 (by decide) ?_
      exact k_iret hx hb hr hlocks ⟨hK, hP, hD, hS, hA, hE, hN⟩ rfl dX6_hasB_16 (Nat.le_of_ble_eq_true rfl) (Nat.le_of_ble_eq_true rfl) ⟨(by simp only [sp_X6_hasB, if_neg c_0, if_pos c_1]), rfl⟩
    · skip
      refine lv_iconst (v := 1) hx hb dX6_hasB_11 (by decide) ?_
      refine lv_goto (tgt := 16) hx hb dX6_hasB_12 (by decide) ?_
      exact k_iret hx hb hr hlocks ⟨hK, hP, hD, hS, hA, hE, hN⟩ rfl dX6_hasB_16 (Nat.le_of_ble_eq_true rfl) (Nat.le_of_ble_eq_true rfl) ⟨(by simp only [sp_X6_hasB, if_neg c_0, if_neg c_1]), rfl⟩
def sp_X6_hasC (i : Int32) : Int32 := if i ≤ 1 then 0 else (if 9 ≤ i then 0 else 1)
theorem sp_X6_hasC_b (i : Int32) : sp_X6_hasC i = 0 ∨ sp_X6_hasC i = 1 := by
  unfold sp_X6_hasC
  exact k_if01 (Or.inl rfl) (k_if01 (Or.inl rfl) (Or.inr rfl))
set_option maxHeartbeats 4000000 in
set_option maxRecDepth 100000 in
theorem c_X6_hasC (l : Launch) (g : KG) (i : Int32)  : Ci l g yX6_hasC wsX6_hasC ({ frames := 0, cells := 0, slots := 0, locals := 0 }) [.int i] [] (fun r u => r = sp_X6_hasC i ∧ u = []) 0 0 := by
  intro sz
  refine Met.ofW (cc := cX6_hasC) (maxL := 1) (ret := (some .boolean)) (by decide) rfl ?_
  intro p e s m args below meth c s₁ B hml hv
  obtain ⟨rfl, hsz, hP, hK, hD0, hE, hN⟩ := hv
  have hx := B.exec
  have hb := B.bytes
  have hr := B.returns
  have hts := atoms_spec (ws := wsX6_hasC) B.pre
  have hown : s.vm.findClass RX6 = some m.cls := findClass_of_methodNamed B.named
  have hlocks := B.notSynchronized
  subst hsz
  have hD := hD0.self (sz := s.heap.size)
  generalize hAe : va_A [] s.heap.size = A at hD hE ⊢
  have hA : ∀ q : Nat, s.heap.size ≤ q → A q := fun q h => by rw [← hAe]; exact Or.inr h
  have hS : va_S A s.heap s.heap [] := va_S.rf
  have hl := lv_entry ([.int i]) (n := 1) (Nat.le_of_ble_eq_true rfl)
  rw [lg_entry_eq]
  generalize (lg_sl ([.int i]) ++ List.replicate (1 - (lg_sl ([.int i])).length) Slot.unset).toArray = ls at hl ⊢
  have hl : lv_has ls 1 [(0, .int i)] := hl
  refine lv_iload_n hx hb dX6_hasC_0 rfl (lv_at hl 0 rfl) ?_
  refine lv_iconst (v := 1) hx hb dX6_hasC_1 (by decide) ?_
  refine lv_icmp_le (tgt := 15) hx hb dX6_hasC_2 (by decide) (fun c_0 => ?_) (fun c_0 => ?_)
  · skip
    refine lv_iconst (v := 0) hx hb dX6_hasC_15 (by decide) ?_
    exact k_iret hx hb hr hlocks ⟨hK, hP, hD, hS, hA, hE, hN⟩ rfl dX6_hasC_16 (Nat.le_of_ble_eq_true rfl) (Nat.le_of_ble_eq_true rfl) ⟨(by simp only [sp_X6_hasC, if_pos c_0]), rfl⟩
  · skip
    refine lv_iload_n hx hb dX6_hasC_5 rfl (lv_at hl 0 rfl) ?_
    refine lv_bipush (v := 9) hx hb dX6_hasC_6 (by decide) ?_
    refine lv_icmp_ge (tgt := 15) hx hb dX6_hasC_8 (by decide) (fun c_1 => ?_) (fun c_1 => ?_)
    · skip
      refine lv_iconst (v := 0) hx hb dX6_hasC_15 (by decide) ?_
      exact k_iret hx hb hr hlocks ⟨hK, hP, hD, hS, hA, hE, hN⟩ rfl dX6_hasC_16 (Nat.le_of_ble_eq_true rfl) (Nat.le_of_ble_eq_true rfl) ⟨(by simp only [sp_X6_hasC, if_neg c_0, if_pos c_1]), rfl⟩
    · skip
      refine lv_iconst (v := 1) hx hb dX6_hasC_11 (by decide) ?_
      refine lv_goto (tgt := 16) hx hb dX6_hasC_12 (by decide) ?_
      exact k_iret hx hb hr hlocks ⟨hK, hP, hD, hS, hA, hE, hN⟩ rfl dX6_hasC_16 (Nat.le_of_ble_eq_true rfl) (Nat.le_of_ble_eq_true rfl) ⟨(by simp only [sp_X6_hasC, if_neg c_0, if_neg c_1]), rfl⟩
def sp_X6_thrown (xT : Int32) : Int32 := xT
set_option maxHeartbeats 4000000 in
set_option maxRecDepth 100000 in
theorem c_X6_thrown (l : Launch) (g : KG) (hO : Nat) (qP : Nat) (qN : Nat) (qY : Nat) (qD : Nat) (qR : Nat) (qM : Nat) (qT : Nat) (xT : Int32) (xB : Int32) (xC : Int32) (xP : Int32) (xS : Int32) (xA : Int32) (xw : Int32) (xa : Int32) (xb : Int32) (xc : Int32)  : Ci l g yX6_thrown wsX6_thrown ({ frames := 0, cells := 0, slots := 0, locals := 0 }) [.ref hO] [(hO, .inr (4, [.int xT, .int xB, .int xC, .ref qP, .int xP, .ref qN, .int xS, .ref qY, .ref qD, .int xA, .ref qR, .ref qM, .ref qT, .int xw, .int xa, .int xb, .int xc]))] (fun r u => r = sp_X6_thrown xT ∧ u = [(hO, .inr (4, [.int xT, .int xB, .int xC, .ref qP, .int xP, .ref qN, .int xS, .ref qY, .ref qD, .int xA, .ref qR, .ref qM, .ref qT, .int xw, .int xa, .int xb, .int xc]))]) 0 0 := by
  intro sz
  refine Met.ofW (cc := cX6_thrown) (maxL := 1) (ret := (some .int)) (by decide) rfl ?_
  intro p e s m args below meth c s₁ B hml hv
  obtain ⟨rfl, hsz, hP, hK, hD0, hE, hN⟩ := hv
  have hx := B.exec
  have hb := B.bytes
  have hr := B.returns
  have hts := atoms_spec (ws := wsX6_thrown) B.pre
  have hown : s.vm.findClass RX6 = some m.cls := findClass_of_methodNamed B.named
  have hlocks := B.notSynchronized
  have iX6 : ∀ w ∈ u_ws RX6 TX6 17, w ∈ wsX6_thrown := by decide +kernel
  subst hsz
  have hD := hD0.self (sz := s.heap.size)
  generalize hAe : va_A [(hO, .inr (4, [.int xT, .int xB, .int xC, .ref qP, .int xP, .ref qN, .int xS, .ref qY, .ref qD, .int xA, .ref qR, .ref qM, .ref qT, .int xw, .int xa, .int xb, .int xc]))] s.heap.size = A at hD hE ⊢
  have hA : ∀ q : Nat, s.heap.size ≤ q → A q := fun q h => by rw [← hAe]; exact Or.inr h
  have hS : va_S A s.heap s.heap [] := va_S.rf
  have hl := lv_entry ([.ref hO]) (n := 1) (Nat.le_of_ble_eq_true rfl)
  rw [lg_entry_eq]
  generalize (lg_sl ([.ref hO]) ++ List.replicate (1 - (lg_sl ([.ref hO])).length) Slot.unset).toArray = ls at hl ⊢
  have hl : lv_has ls 1 [(0, .ref hO)] := hl
  refine lv_aload_n hx hb dX6_thrown_0 rfl (lv_at hl 0 rfl) ?_
  refine va_get (D := g.1) (ci := 4) (v := .int xT) (C := RX6) (T := TX6) (N := 17) hx hb hts iX6 hown hK hP 0 rfl rfl 0 (by decide) (hts (.fieldLink RX6 35 "FaultIsolationModel" "thrown" "I") (by decide +kernel)) (fun _ h9 => h9) rfl dX6_thrown_1 ?_
  exact k_iret hx hb hr hlocks ⟨hK, hP, hD, hS, hA, hE, hN⟩ rfl dX6_thrown_4 (Nat.le_of_ble_eq_true rfl) (Nat.le_of_ble_eq_true rfl) ⟨rfl, rfl⟩
def sp_X6_areRegisters (xw : Int32) (xa : Int32) (xb : Int32) (xc : Int32) : Int32 := if (sp_X6_hasA xw) = 0 then (if (sp_X6_hasB xw) = 0 then (if (sp_X6_hasC xw) = 0 then 1 else (if 7 < xc then 0 else 1)) else (if 7 < xb then 0 else (if (sp_X6_hasC xw) = 0 then 1 else (if 7 < xc then 0 else 1)))) else (if 7 < xa then 0 else (if (sp_X6_hasB xw) = 0 then (if (sp_X6_hasC xw) = 0 then 1 else (if 7 < xc then 0 else 1)) else (if 7 < xb then 0 else (if (sp_X6_hasC xw) = 0 then 1 else (if 7 < xc then 0 else 1)))))
theorem sp_X6_areRegisters_b (xw : Int32) (xa : Int32) (xb : Int32) (xc : Int32) : sp_X6_areRegisters xw xa xb xc = 0 ∨ sp_X6_areRegisters xw xa xb xc = 1 := by
  unfold sp_X6_areRegisters
  exact k_if01 (k_if01 (k_if01 (Or.inr rfl) (k_if01 (Or.inl rfl) (Or.inr rfl))) (k_if01 (Or.inl rfl) (k_if01 (Or.inr rfl) (k_if01 (Or.inl rfl) (Or.inr rfl))))) (k_if01 (Or.inl rfl) (k_if01 (k_if01 (Or.inr rfl) (k_if01 (Or.inl rfl) (Or.inr rfl))) (k_if01 (Or.inl rfl) (k_if01 (Or.inr rfl) (k_if01 (Or.inl rfl) (Or.inr rfl))))))
set_option maxHeartbeats 4000000 in
set_option maxRecDepth 100000 in
theorem c_X6_areRegisters (l : Launch) (g : KG) (hO : Nat) (qP : Nat) (qN : Nat) (qY : Nat) (qD : Nat) (qR : Nat) (qM : Nat) (qT : Nat) (xT : Int32) (xB : Int32) (xC : Int32) (xP : Int32) (xS : Int32) (xA : Int32) (xw : Int32) (xa : Int32) (xb : Int32) (xc : Int32)  : Ci l g yX6_areRegisters wsX6_areRegisters ({ frames := 1, cells := 0, slots := 0, locals := 20 }) [.ref hO] [(hO, .inr (4, [.int xT, .int xB, .int xC, .ref qP, .int xP, .ref qN, .int xS, .ref qY, .ref qD, .int xA, .ref qR, .ref qM, .ref qT, .int xw, .int xa, .int xb, .int xc]))] (fun r u => r = sp_X6_areRegisters xw xa xb xc ∧ u = [(hO, .inr (4, [.int xT, .int xB, .int xC, .ref qP, .int xP, .ref qN, .int xS, .ref qY, .ref qD, .int xA, .ref qR, .ref qM, .ref qT, .int xw, .int xa, .int xb, .int xc]))]) 0 0 := by
  intro sz
  refine Met.ofW (cc := cX6_areRegisters) (maxL := 1) (ret := (some .boolean)) (by decide) rfl ?_
  intro p e s m args below meth c s₁ B hml hv
  obtain ⟨rfl, hsz, hP, hK, hD0, hE, hN⟩ := hv
  have hx := B.exec
  have hb := B.bytes
  have hr := B.returns
  have hts := atoms_spec (ws := wsX6_areRegisters) B.pre
  have hown : s.vm.findClass RX6 = some m.cls := findClass_of_methodNamed B.named
  have hlocks := B.notSynchronized
  have iX6 : ∀ w ∈ u_ws RX6 TX6 17, w ∈ wsX6_areRegisters := by decide +kernel
  subst hsz
  have hD := hD0.self (sz := s.heap.size)
  generalize hAe : va_A [(hO, .inr (4, [.int xT, .int xB, .int xC, .ref qP, .int xP, .ref qN, .int xS, .ref qY, .ref qD, .int xA, .ref qR, .ref qM, .ref qT, .int xw, .int xa, .int xb, .int xc]))] s.heap.size = A at hD hE ⊢
  have hA : ∀ q : Nat, s.heap.size ≤ q → A q := fun q h => by rw [← hAe]; exact Or.inr h
  have hS : va_S A s.heap s.heap [] := va_S.rf
  have hl := lv_entry ([.ref hO]) (n := 1) (Nat.le_of_ble_eq_true rfl)
  rw [lg_entry_eq]
  generalize (lg_sl ([.ref hO]) ++ List.replicate (1 - (lg_sl ([.ref hO])).length) Slot.unset).toArray = ls at hl ⊢
  have hl : lv_has ls 1 [(0, .ref hO)] := hl
  refine lv_aload_n hx hb dX6_areRegisters_0 rfl (lv_at hl 0 rfl) ?_
  refine va_get (D := g.1) (ci := 4) (v := .int xw) (C := RX6) (T := TX6) (N := 17) hx hb hts iX6 hown hK hP 0 rfl rfl 13 (by decide) (hts (.fieldLink RX6 53 "FaultIsolationModel" "word" "I") (by decide +kernel)) (fun _ h9 => h9) rfl dX6_areRegisters_1 ?_
  refine kiS (As := [.int xw]) (rest := []) (wc := []) (wr := [(hO, .inr (4, [.int xT, .int xB, .int xC, .ref qP, .int xP, .ref qN, .int xS, .ref qY, .ref qD, .int xA, .ref qR, .ref qM, .ref qT, .int xw, .int xa, .int xb, .int xc]))]) ⟨hx, hb, hml, hown, hts⟩ (c_X6_hasA l g xw) (va_cwS 1 hts gX6_areRegisters_X6_hasA rfl rfl rfl (by decide +kernel) ⟨Nat.le_of_ble_eq_true rfl, Nat.le_of_ble_eq_true rfl⟩) ⟨hK, hP, hD, hS, hA, hE, hN⟩ [] [0] ⟨rfl, rfl, by decide⟩ rfl hl.1 (Nat.le_of_ble_eq_true rfl) dX6_areRegisters_4 ⟨Nat.le_of_ble_eq_true rfl, Nat.le_of_ble_eq_true rfl⟩ rfl (fun r u H locs hw hP hD hS => ?_)
  obtain ⟨hq, hw⟩ := hw
  subst r
  subst hw
  have hP := hP.sub (ws' := [(hO, .inr (4, [.int xT, .int xB, .int xC, .ref qP, .int xP, .ref qN, .int xS, .ref qY, .ref qD, .int xA, .ref qR, .ref qM, .ref qT, .int xw, .int xa, .int xb, .int xc]))]) [0] rfl
  have hD := hD.sub (ws' := [(hO, .inr (4, [.int xT, .int xB, .int xC, .ref qP, .int xP, .ref qN, .int xS, .ref qY, .ref qD, .int xA, .ref qR, .ref qM, .ref qT, .int xw, .int xa, .int xb, .int xc]))]) [0] (by decide) rfl
  refine lv_if_eq (tgt := 19) hx hb dX6_areRegisters_7 (by decide) (fun c_0 => ?_) (fun c_0 => ?_)
  · skip
    refine lv_aload_n hx hb dX6_areRegisters_19 rfl (lv_at hl 0 rfl) ?_
    refine va_get (D := g.1) (ci := 4) (v := .int xw) (C := RX6) (T := TX6) (N := 17) hx hb hts iX6 hown hK hP 0 rfl rfl 13 (by decide) (hts (.fieldLink RX6 53 "FaultIsolationModel" "word" "I") (by decide +kernel)) (fun _ h9 => h9) rfl dX6_areRegisters_20 ?_
    refine kiS (As := [.int xw]) (rest := []) (wc := []) (wr := [(hO, .inr (4, [.int xT, .int xB, .int xC, .ref qP, .int xP, .ref qN, .int xS, .ref qY, .ref qD, .int xA, .ref qR, .ref qM, .ref qT, .int xw, .int xa, .int xb, .int xc]))]) ⟨hx, hb, hml, hown, hts⟩ (c_X6_hasB l g xw) (va_cwS 1 hts gX6_areRegisters_X6_hasB rfl rfl rfl (by decide +kernel) ⟨Nat.le_of_ble_eq_true rfl, Nat.le_of_ble_eq_true rfl⟩) ⟨hK, hP, hD, hS, hA, hE, hN⟩ [] [0] ⟨rfl, rfl, by decide⟩ rfl hl.1 (Nat.le_of_ble_eq_true rfl) dX6_areRegisters_23 ⟨Nat.le_of_ble_eq_true rfl, Nat.le_of_ble_eq_true rfl⟩ rfl (fun r u H locs hw hP hD hS => ?_)
    obtain ⟨hq, hw⟩ := hw
    subst r
    subst hw
    have hP := hP.sub (ws' := [(hO, .inr (4, [.int xT, .int xB, .int xC, .ref qP, .int xP, .ref qN, .int xS, .ref qY, .ref qD, .int xA, .ref qR, .ref qM, .ref qT, .int xw, .int xa, .int xb, .int xc]))]) [0] rfl
    have hD := hD.sub (ws' := [(hO, .inr (4, [.int xT, .int xB, .int xC, .ref qP, .int xP, .ref qN, .int xS, .ref qY, .ref qD, .int xA, .ref qR, .ref qM, .ref qT, .int xw, .int xa, .int xb, .int xc]))]) [0] (by decide) rfl
    refine lv_if_eq (tgt := 38) hx hb dX6_areRegisters_26 (by decide) (fun c_1 => ?_) (fun c_1 => ?_)
    · skip
      refine lv_aload_n hx hb dX6_areRegisters_38 rfl (lv_at hl 0 rfl) ?_
      refine va_get (D := g.1) (ci := 4) (v := .int xw) (C := RX6) (T := TX6) (N := 17) hx hb hts iX6 hown hK hP 0 rfl rfl 13 (by decide) (hts (.fieldLink RX6 53 "FaultIsolationModel" "word" "I") (by decide +kernel)) (fun _ h9 => h9) rfl dX6_areRegisters_39 ?_
      refine kiS (As := [.int xw]) (rest := []) (wc := []) (wr := [(hO, .inr (4, [.int xT, .int xB, .int xC, .ref qP, .int xP, .ref qN, .int xS, .ref qY, .ref qD, .int xA, .ref qR, .ref qM, .ref qT, .int xw, .int xa, .int xb, .int xc]))]) ⟨hx, hb, hml, hown, hts⟩ (c_X6_hasC l g xw) (va_cwS 1 hts gX6_areRegisters_X6_hasC rfl rfl rfl (by decide +kernel) ⟨Nat.le_of_ble_eq_true rfl, Nat.le_of_ble_eq_true rfl⟩) ⟨hK, hP, hD, hS, hA, hE, hN⟩ [] [0] ⟨rfl, rfl, by decide⟩ rfl hl.1 (Nat.le_of_ble_eq_true rfl) dX6_areRegisters_42 ⟨Nat.le_of_ble_eq_true rfl, Nat.le_of_ble_eq_true rfl⟩ rfl (fun r u H locs hw hP hD hS => ?_)
      obtain ⟨hq, hw⟩ := hw
      subst r
      subst hw
      have hP := hP.sub (ws' := [(hO, .inr (4, [.int xT, .int xB, .int xC, .ref qP, .int xP, .ref qN, .int xS, .ref qY, .ref qD, .int xA, .ref qR, .ref qM, .ref qT, .int xw, .int xa, .int xb, .int xc]))]) [0] rfl
      have hD := hD.sub (ws' := [(hO, .inr (4, [.int xT, .int xB, .int xC, .ref qP, .int xP, .ref qN, .int xS, .ref qY, .ref qD, .int xA, .ref qR, .ref qM, .ref qT, .int xw, .int xa, .int xb, .int xc]))]) [0] (by decide) rfl
      refine lv_if_eq (tgt := 57) hx hb dX6_areRegisters_45 (by decide) (fun c_2 => ?_) (fun c_2 => ?_)
      · skip
        refine lv_iconst (v := 1) hx hb dX6_areRegisters_57 (by decide) ?_
        refine lv_goto (tgt := 62) hx hb dX6_areRegisters_58 (by decide) ?_
        exact k_iret hx hb hr hlocks ⟨hK, hP, hD, hS, hA, hE, hN⟩ rfl dX6_areRegisters_62 (Nat.le_of_ble_eq_true rfl) (Nat.le_of_ble_eq_true rfl) ⟨(by simp only [sp_X6_areRegisters, if_pos c_0, if_pos c_1, if_pos c_2]), rfl⟩
      · skip
        refine lv_aload_n hx hb dX6_areRegisters_48 rfl (lv_at hl 0 rfl) ?_
        refine va_get (D := g.1) (ci := 4) (v := .int xc) (C := RX6) (T := TX6) (N := 17) hx hb hts iX6 hown hK hP 0 rfl rfl 16 (by decide) (hts (.fieldLink RX6 62 "FaultIsolationModel" "c" "I") (by decide +kernel)) (fun _ h9 => h9) rfl dX6_areRegisters_49 ?_
        refine lv_bipush (v := 7) hx hb dX6_areRegisters_52 (by decide) ?_
        refine lv_icmp_gt (tgt := 61) hx hb dX6_areRegisters_54 (by decide) (fun c_3 => ?_) (fun c_3 => ?_)
        · skip
          refine lv_iconst (v := 0) hx hb dX6_areRegisters_61 (by decide) ?_
          exact k_iret hx hb hr hlocks ⟨hK, hP, hD, hS, hA, hE, hN⟩ rfl dX6_areRegisters_62 (Nat.le_of_ble_eq_true rfl) (Nat.le_of_ble_eq_true rfl) ⟨(by simp only [sp_X6_areRegisters, if_pos c_0, if_pos c_1, if_neg c_2, if_pos c_3]), rfl⟩
        · skip
          refine lv_iconst (v := 1) hx hb dX6_areRegisters_57 (by decide) ?_
          refine lv_goto (tgt := 62) hx hb dX6_areRegisters_58 (by decide) ?_
          exact k_iret hx hb hr hlocks ⟨hK, hP, hD, hS, hA, hE, hN⟩ rfl dX6_areRegisters_62 (Nat.le_of_ble_eq_true rfl) (Nat.le_of_ble_eq_true rfl) ⟨(by simp only [sp_X6_areRegisters, if_pos c_0, if_pos c_1, if_neg c_2, if_neg c_3]), rfl⟩
    · skip
      refine lv_aload_n hx hb dX6_areRegisters_29 rfl (lv_at hl 0 rfl) ?_
      refine va_get (D := g.1) (ci := 4) (v := .int xb) (C := RX6) (T := TX6) (N := 17) hx hb hts iX6 hown hK hP 0 rfl rfl 15 (by decide) (hts (.fieldLink RX6 59 "FaultIsolationModel" "b" "I") (by decide +kernel)) (fun _ h9 => h9) rfl dX6_areRegisters_30 ?_
      refine lv_bipush (v := 7) hx hb dX6_areRegisters_33 (by decide) ?_
      refine lv_icmp_gt (tgt := 61) hx hb dX6_areRegisters_35 (by decide) (fun c_4 => ?_) (fun c_4 => ?_)
      · skip
        refine lv_iconst (v := 0) hx hb dX6_areRegisters_61 (by decide) ?_
        exact k_iret hx hb hr hlocks ⟨hK, hP, hD, hS, hA, hE, hN⟩ rfl dX6_areRegisters_62 (Nat.le_of_ble_eq_true rfl) (Nat.le_of_ble_eq_true rfl) ⟨(by simp only [sp_X6_areRegisters, if_pos c_0, if_neg c_1, if_pos c_4]), rfl⟩
      · skip
        refine lv_aload_n hx hb dX6_areRegisters_38 rfl (lv_at hl 0 rfl) ?_
        refine va_get (D := g.1) (ci := 4) (v := .int xw) (C := RX6) (T := TX6) (N := 17) hx hb hts iX6 hown hK hP 0 rfl rfl 13 (by decide) (hts (.fieldLink RX6 53 "FaultIsolationModel" "word" "I") (by decide +kernel)) (fun _ h9 => h9) rfl dX6_areRegisters_39 ?_
        refine kiS (As := [.int xw]) (rest := []) (wc := []) (wr := [(hO, .inr (4, [.int xT, .int xB, .int xC, .ref qP, .int xP, .ref qN, .int xS, .ref qY, .ref qD, .int xA, .ref qR, .ref qM, .ref qT, .int xw, .int xa, .int xb, .int xc]))]) ⟨hx, hb, hml, hown, hts⟩ (c_X6_hasC l g xw) (va_cwS 1 hts gX6_areRegisters_X6_hasC rfl rfl rfl (by decide +kernel) ⟨Nat.le_of_ble_eq_true rfl, Nat.le_of_ble_eq_true rfl⟩) ⟨hK, hP, hD, hS, hA, hE, hN⟩ [] [0] ⟨rfl, rfl, by decide⟩ rfl hl.1 (Nat.le_of_ble_eq_true rfl) dX6_areRegisters_42 ⟨Nat.le_of_ble_eq_true rfl, Nat.le_of_ble_eq_true rfl⟩ rfl (fun r u H locs hw hP hD hS => ?_)
        obtain ⟨hq, hw⟩ := hw
        subst r
        subst hw
        have hP := hP.sub (ws' := [(hO, .inr (4, [.int xT, .int xB, .int xC, .ref qP, .int xP, .ref qN, .int xS, .ref qY, .ref qD, .int xA, .ref qR, .ref qM, .ref qT, .int xw, .int xa, .int xb, .int xc]))]) [0] rfl
        have hD := hD.sub (ws' := [(hO, .inr (4, [.int xT, .int xB, .int xC, .ref qP, .int xP, .ref qN, .int xS, .ref qY, .ref qD, .int xA, .ref qR, .ref qM, .ref qT, .int xw, .int xa, .int xb, .int xc]))]) [0] (by decide) rfl
        refine lv_if_eq (tgt := 57) hx hb dX6_areRegisters_45 (by decide) (fun c_5 => ?_) (fun c_5 => ?_)
        · skip
          refine lv_iconst (v := 1) hx hb dX6_areRegisters_57 (by decide) ?_
          refine lv_goto (tgt := 62) hx hb dX6_areRegisters_58 (by decide) ?_
          exact k_iret hx hb hr hlocks ⟨hK, hP, hD, hS, hA, hE, hN⟩ rfl dX6_areRegisters_62 (Nat.le_of_ble_eq_true rfl) (Nat.le_of_ble_eq_true rfl) ⟨(by simp only [sp_X6_areRegisters, if_pos c_0, if_neg c_1, if_neg c_4, if_pos c_5]), rfl⟩
        · skip
          refine lv_aload_n hx hb dX6_areRegisters_48 rfl (lv_at hl 0 rfl) ?_
          refine va_get (D := g.1) (ci := 4) (v := .int xc) (C := RX6) (T := TX6) (N := 17) hx hb hts iX6 hown hK hP 0 rfl rfl 16 (by decide) (hts (.fieldLink RX6 62 "FaultIsolationModel" "c" "I") (by decide +kernel)) (fun _ h9 => h9) rfl dX6_areRegisters_49 ?_
          refine lv_bipush (v := 7) hx hb dX6_areRegisters_52 (by decide) ?_
          refine lv_icmp_gt (tgt := 61) hx hb dX6_areRegisters_54 (by decide) (fun c_6 => ?_) (fun c_6 => ?_)
          · skip
            refine lv_iconst (v := 0) hx hb dX6_areRegisters_61 (by decide) ?_
            exact k_iret hx hb hr hlocks ⟨hK, hP, hD, hS, hA, hE, hN⟩ rfl dX6_areRegisters_62 (Nat.le_of_ble_eq_true rfl) (Nat.le_of_ble_eq_true rfl) ⟨(by simp only [sp_X6_areRegisters, if_pos c_0, if_neg c_1, if_neg c_4, if_neg c_5, if_pos c_6]), rfl⟩
          · skip
            refine lv_iconst (v := 1) hx hb dX6_areRegisters_57 (by decide) ?_
            refine lv_goto (tgt := 62) hx hb dX6_areRegisters_58 (by decide) ?_
            exact k_iret hx hb hr hlocks ⟨hK, hP, hD, hS, hA, hE, hN⟩ rfl dX6_areRegisters_62 (Nat.le_of_ble_eq_true rfl) (Nat.le_of_ble_eq_true rfl) ⟨(by simp only [sp_X6_areRegisters, if_pos c_0, if_neg c_1, if_neg c_4, if_neg c_5, if_neg c_6]), rfl⟩
  · skip
    refine lv_aload_n hx hb dX6_areRegisters_10 rfl (lv_at hl 0 rfl) ?_
    refine va_get (D := g.1) (ci := 4) (v := .int xa) (C := RX6) (T := TX6) (N := 17) hx hb hts iX6 hown hK hP 0 rfl rfl 14 (by decide) (hts (.fieldLink RX6 56 "FaultIsolationModel" "a" "I") (by decide +kernel)) (fun _ h9 => h9) rfl dX6_areRegisters_11 ?_
    refine lv_bipush (v := 7) hx hb dX6_areRegisters_14 (by decide) ?_
    refine lv_icmp_gt (tgt := 61) hx hb dX6_areRegisters_16 (by decide) (fun c_7 => ?_) (fun c_7 => ?_)
    · skip
      refine lv_iconst (v := 0) hx hb dX6_areRegisters_61 (by decide) ?_
      exact k_iret hx hb hr hlocks ⟨hK, hP, hD, hS, hA, hE, hN⟩ rfl dX6_areRegisters_62 (Nat.le_of_ble_eq_true rfl) (Nat.le_of_ble_eq_true rfl) ⟨(by simp only [sp_X6_areRegisters, if_neg c_0, if_pos c_7]), rfl⟩
    · skip
      refine lv_aload_n hx hb dX6_areRegisters_19 rfl (lv_at hl 0 rfl) ?_
      refine va_get (D := g.1) (ci := 4) (v := .int xw) (C := RX6) (T := TX6) (N := 17) hx hb hts iX6 hown hK hP 0 rfl rfl 13 (by decide) (hts (.fieldLink RX6 53 "FaultIsolationModel" "word" "I") (by decide +kernel)) (fun _ h9 => h9) rfl dX6_areRegisters_20 ?_
      refine kiS (As := [.int xw]) (rest := []) (wc := []) (wr := [(hO, .inr (4, [.int xT, .int xB, .int xC, .ref qP, .int xP, .ref qN, .int xS, .ref qY, .ref qD, .int xA, .ref qR, .ref qM, .ref qT, .int xw, .int xa, .int xb, .int xc]))]) ⟨hx, hb, hml, hown, hts⟩ (c_X6_hasB l g xw) (va_cwS 1 hts gX6_areRegisters_X6_hasB rfl rfl rfl (by decide +kernel) ⟨Nat.le_of_ble_eq_true rfl, Nat.le_of_ble_eq_true rfl⟩) ⟨hK, hP, hD, hS, hA, hE, hN⟩ [] [0] ⟨rfl, rfl, by decide⟩ rfl hl.1 (Nat.le_of_ble_eq_true rfl) dX6_areRegisters_23 ⟨Nat.le_of_ble_eq_true rfl, Nat.le_of_ble_eq_true rfl⟩ rfl (fun r u H locs hw hP hD hS => ?_)
      obtain ⟨hq, hw⟩ := hw
      subst r
      subst hw
      have hP := hP.sub (ws' := [(hO, .inr (4, [.int xT, .int xB, .int xC, .ref qP, .int xP, .ref qN, .int xS, .ref qY, .ref qD, .int xA, .ref qR, .ref qM, .ref qT, .int xw, .int xa, .int xb, .int xc]))]) [0] rfl
      have hD := hD.sub (ws' := [(hO, .inr (4, [.int xT, .int xB, .int xC, .ref qP, .int xP, .ref qN, .int xS, .ref qY, .ref qD, .int xA, .ref qR, .ref qM, .ref qT, .int xw, .int xa, .int xb, .int xc]))]) [0] (by decide) rfl
      refine lv_if_eq (tgt := 38) hx hb dX6_areRegisters_26 (by decide) (fun c_8 => ?_) (fun c_8 => ?_)
      · skip
        refine lv_aload_n hx hb dX6_areRegisters_38 rfl (lv_at hl 0 rfl) ?_
        refine va_get (D := g.1) (ci := 4) (v := .int xw) (C := RX6) (T := TX6) (N := 17) hx hb hts iX6 hown hK hP 0 rfl rfl 13 (by decide) (hts (.fieldLink RX6 53 "FaultIsolationModel" "word" "I") (by decide +kernel)) (fun _ h9 => h9) rfl dX6_areRegisters_39 ?_
        refine kiS (As := [.int xw]) (rest := []) (wc := []) (wr := [(hO, .inr (4, [.int xT, .int xB, .int xC, .ref qP, .int xP, .ref qN, .int xS, .ref qY, .ref qD, .int xA, .ref qR, .ref qM, .ref qT, .int xw, .int xa, .int xb, .int xc]))]) ⟨hx, hb, hml, hown, hts⟩ (c_X6_hasC l g xw) (va_cwS 1 hts gX6_areRegisters_X6_hasC rfl rfl rfl (by decide +kernel) ⟨Nat.le_of_ble_eq_true rfl, Nat.le_of_ble_eq_true rfl⟩) ⟨hK, hP, hD, hS, hA, hE, hN⟩ [] [0] ⟨rfl, rfl, by decide⟩ rfl hl.1 (Nat.le_of_ble_eq_true rfl) dX6_areRegisters_42 ⟨Nat.le_of_ble_eq_true rfl, Nat.le_of_ble_eq_true rfl⟩ rfl (fun r u H locs hw hP hD hS => ?_)
        obtain ⟨hq, hw⟩ := hw
        subst r
        subst hw
        have hP := hP.sub (ws' := [(hO, .inr (4, [.int xT, .int xB, .int xC, .ref qP, .int xP, .ref qN, .int xS, .ref qY, .ref qD, .int xA, .ref qR, .ref qM, .ref qT, .int xw, .int xa, .int xb, .int xc]))]) [0] rfl
        have hD := hD.sub (ws' := [(hO, .inr (4, [.int xT, .int xB, .int xC, .ref qP, .int xP, .ref qN, .int xS, .ref qY, .ref qD, .int xA, .ref qR, .ref qM, .ref qT, .int xw, .int xa, .int xb, .int xc]))]) [0] (by decide) rfl
        refine lv_if_eq (tgt := 57) hx hb dX6_areRegisters_45 (by decide) (fun c_9 => ?_) (fun c_9 => ?_)
        · skip
          refine lv_iconst (v := 1) hx hb dX6_areRegisters_57 (by decide) ?_
          refine lv_goto (tgt := 62) hx hb dX6_areRegisters_58 (by decide) ?_
          exact k_iret hx hb hr hlocks ⟨hK, hP, hD, hS, hA, hE, hN⟩ rfl dX6_areRegisters_62 (Nat.le_of_ble_eq_true rfl) (Nat.le_of_ble_eq_true rfl) ⟨(by simp only [sp_X6_areRegisters, if_neg c_0, if_neg c_7, if_pos c_8, if_pos c_9]), rfl⟩
        · skip
          refine lv_aload_n hx hb dX6_areRegisters_48 rfl (lv_at hl 0 rfl) ?_
          refine va_get (D := g.1) (ci := 4) (v := .int xc) (C := RX6) (T := TX6) (N := 17) hx hb hts iX6 hown hK hP 0 rfl rfl 16 (by decide) (hts (.fieldLink RX6 62 "FaultIsolationModel" "c" "I") (by decide +kernel)) (fun _ h9 => h9) rfl dX6_areRegisters_49 ?_
          refine lv_bipush (v := 7) hx hb dX6_areRegisters_52 (by decide) ?_
          refine lv_icmp_gt (tgt := 61) hx hb dX6_areRegisters_54 (by decide) (fun c_10 => ?_) (fun c_10 => ?_)
          · skip
            refine lv_iconst (v := 0) hx hb dX6_areRegisters_61 (by decide) ?_
            exact k_iret hx hb hr hlocks ⟨hK, hP, hD, hS, hA, hE, hN⟩ rfl dX6_areRegisters_62 (Nat.le_of_ble_eq_true rfl) (Nat.le_of_ble_eq_true rfl) ⟨(by simp only [sp_X6_areRegisters, if_neg c_0, if_neg c_7, if_pos c_8, if_neg c_9, if_pos c_10]), rfl⟩
          · skip
            refine lv_iconst (v := 1) hx hb dX6_areRegisters_57 (by decide) ?_
            refine lv_goto (tgt := 62) hx hb dX6_areRegisters_58 (by decide) ?_
            exact k_iret hx hb hr hlocks ⟨hK, hP, hD, hS, hA, hE, hN⟩ rfl dX6_areRegisters_62 (Nat.le_of_ble_eq_true rfl) (Nat.le_of_ble_eq_true rfl) ⟨(by simp only [sp_X6_areRegisters, if_neg c_0, if_neg c_7, if_pos c_8, if_neg c_9, if_neg c_10]), rfl⟩
      · skip
        refine lv_aload_n hx hb dX6_areRegisters_29 rfl (lv_at hl 0 rfl) ?_
        refine va_get (D := g.1) (ci := 4) (v := .int xb) (C := RX6) (T := TX6) (N := 17) hx hb hts iX6 hown hK hP 0 rfl rfl 15 (by decide) (hts (.fieldLink RX6 59 "FaultIsolationModel" "b" "I") (by decide +kernel)) (fun _ h9 => h9) rfl dX6_areRegisters_30 ?_
        refine lv_bipush (v := 7) hx hb dX6_areRegisters_33 (by decide) ?_
        refine lv_icmp_gt (tgt := 61) hx hb dX6_areRegisters_35 (by decide) (fun c_11 => ?_) (fun c_11 => ?_)
        · skip
          refine lv_iconst (v := 0) hx hb dX6_areRegisters_61 (by decide) ?_
          exact k_iret hx hb hr hlocks ⟨hK, hP, hD, hS, hA, hE, hN⟩ rfl dX6_areRegisters_62 (Nat.le_of_ble_eq_true rfl) (Nat.le_of_ble_eq_true rfl) ⟨(by simp only [sp_X6_areRegisters, if_neg c_0, if_neg c_7, if_neg c_8, if_pos c_11]), rfl⟩
        · skip
          refine lv_aload_n hx hb dX6_areRegisters_38 rfl (lv_at hl 0 rfl) ?_
          refine va_get (D := g.1) (ci := 4) (v := .int xw) (C := RX6) (T := TX6) (N := 17) hx hb hts iX6 hown hK hP 0 rfl rfl 13 (by decide) (hts (.fieldLink RX6 53 "FaultIsolationModel" "word" "I") (by decide +kernel)) (fun _ h9 => h9) rfl dX6_areRegisters_39 ?_
          refine kiS (As := [.int xw]) (rest := []) (wc := []) (wr := [(hO, .inr (4, [.int xT, .int xB, .int xC, .ref qP, .int xP, .ref qN, .int xS, .ref qY, .ref qD, .int xA, .ref qR, .ref qM, .ref qT, .int xw, .int xa, .int xb, .int xc]))]) ⟨hx, hb, hml, hown, hts⟩ (c_X6_hasC l g xw) (va_cwS 1 hts gX6_areRegisters_X6_hasC rfl rfl rfl (by decide +kernel) ⟨Nat.le_of_ble_eq_true rfl, Nat.le_of_ble_eq_true rfl⟩) ⟨hK, hP, hD, hS, hA, hE, hN⟩ [] [0] ⟨rfl, rfl, by decide⟩ rfl hl.1 (Nat.le_of_ble_eq_true rfl) dX6_areRegisters_42 ⟨Nat.le_of_ble_eq_true rfl, Nat.le_of_ble_eq_true rfl⟩ rfl (fun r u H locs hw hP hD hS => ?_)
          obtain ⟨hq, hw⟩ := hw
          subst r
          subst hw
          have hP := hP.sub (ws' := [(hO, .inr (4, [.int xT, .int xB, .int xC, .ref qP, .int xP, .ref qN, .int xS, .ref qY, .ref qD, .int xA, .ref qR, .ref qM, .ref qT, .int xw, .int xa, .int xb, .int xc]))]) [0] rfl
          have hD := hD.sub (ws' := [(hO, .inr (4, [.int xT, .int xB, .int xC, .ref qP, .int xP, .ref qN, .int xS, .ref qY, .ref qD, .int xA, .ref qR, .ref qM, .ref qT, .int xw, .int xa, .int xb, .int xc]))]) [0] (by decide) rfl
          refine lv_if_eq (tgt := 57) hx hb dX6_areRegisters_45 (by decide) (fun c_12 => ?_) (fun c_12 => ?_)
          · skip
            refine lv_iconst (v := 1) hx hb dX6_areRegisters_57 (by decide) ?_
            refine lv_goto (tgt := 62) hx hb dX6_areRegisters_58 (by decide) ?_
            exact k_iret hx hb hr hlocks ⟨hK, hP, hD, hS, hA, hE, hN⟩ rfl dX6_areRegisters_62 (Nat.le_of_ble_eq_true rfl) (Nat.le_of_ble_eq_true rfl) ⟨(by simp only [sp_X6_areRegisters, if_neg c_0, if_neg c_7, if_neg c_8, if_neg c_11, if_pos c_12]), rfl⟩
          · skip
            refine lv_aload_n hx hb dX6_areRegisters_48 rfl (lv_at hl 0 rfl) ?_
            refine va_get (D := g.1) (ci := 4) (v := .int xc) (C := RX6) (T := TX6) (N := 17) hx hb hts iX6 hown hK hP 0 rfl rfl 16 (by decide) (hts (.fieldLink RX6 62 "FaultIsolationModel" "c" "I") (by decide +kernel)) (fun _ h9 => h9) rfl dX6_areRegisters_49 ?_
            refine lv_bipush (v := 7) hx hb dX6_areRegisters_52 (by decide) ?_
            refine lv_icmp_gt (tgt := 61) hx hb dX6_areRegisters_54 (by decide) (fun c_13 => ?_) (fun c_13 => ?_)
            · skip
              refine lv_iconst (v := 0) hx hb dX6_areRegisters_61 (by decide) ?_
              exact k_iret hx hb hr hlocks ⟨hK, hP, hD, hS, hA, hE, hN⟩ rfl dX6_areRegisters_62 (Nat.le_of_ble_eq_true rfl) (Nat.le_of_ble_eq_true rfl) ⟨(by simp only [sp_X6_areRegisters, if_neg c_0, if_neg c_7, if_neg c_8, if_neg c_11, if_neg c_12, if_pos c_13]), rfl⟩
            · skip
              refine lv_iconst (v := 1) hx hb dX6_areRegisters_57 (by decide) ?_
              refine lv_goto (tgt := 62) hx hb dX6_areRegisters_58 (by decide) ?_
              exact k_iret hx hb hr hlocks ⟨hK, hP, hD, hS, hA, hE, hN⟩ rfl dX6_areRegisters_62 (Nat.le_of_ble_eq_true rfl) (Nat.le_of_ble_eq_true rfl) ⟨(by simp only [sp_X6_areRegisters, if_neg c_0, if_neg c_7, if_neg c_8, if_neg c_11, if_neg c_12, if_neg c_13]), rfl⟩

set_option maxHeartbeats 4000000 in
set_option maxRecDepth 100000 in
theorem c_X6_look (l : Launch) (g : KG) (hO : Nat) (qP : Nat) (qN : Nat) (qY : Nat) (qD : Nat) (qR : Nat) (qM : Nat) (qT : Nat) (xT : Int32) (xB : Int32) (xC : Int32) (xP : Int32) (xS : Int32) (xA : Int32) (xw : Int32) (xa : Int32) (xb : Int32) (xc : Int32) (qx : Nat) (N : Nat) (gx : Nat → Int32) (j : Nat) (hNn : N < 2 ^ 31) (hj : j + 3 < N) : Cv l g yX6_look wsX6_look ({ frames := 0, cells := 0, slots := 0, locals := 0 }) [.ref hO, .ref qx, .int (nI j)] [(hO, .inr (4, [.int xT, .int xB, .int xC, .ref qP, .int xP, .ref qN, .int xS, .ref qY, .ref qD, .int xA, .ref qR, .ref qM, .ref qT, .int xw, .int xa, .int xb, .int xc])), (qx, .inl (g.2.1.1, N, .inl gx))] (fun u => u = [(hO, .inr (4, [.int xT, .int xB, .int xC, .ref qP, .int xP, .ref qN, .int xS, .ref qY, .ref qD, .int xA, .ref qR, .ref qM, .ref qT, .int (gx j), .int (gx (j + 1)), .int (gx (j + 2)), .int (gx (j + 3))])), (qx, .inl (g.2.1.1, N, .inl gx))]) 0 0 := by
  intro sz
  refine Met.ofW (cc := cX6_look) (maxL := 3) (ret := none) (by decide) rfl ?_
  intro p e s m args below meth c s₁ B hml hv
  obtain ⟨rfl, hsz, hP, hK, hD0, hE, hN⟩ := hv
  have hx := B.exec
  have hb := B.bytes
  have hr := B.returns
  have hts := atoms_spec (ws := wsX6_look) B.pre
  have hown : s.vm.findClass RX6 = some m.cls := findClass_of_methodNamed B.named
  have hlocks := B.notSynchronized
  have iX6 : ∀ w ∈ u_ws RX6 TX6 17, w ∈ wsX6_look := by decide +kernel
  subst hsz
  have hD := hD0.self (sz := s.heap.size)
  generalize hAe : va_A [(hO, .inr (4, [.int xT, .int xB, .int xC, .ref qP, .int xP, .ref qN, .int xS, .ref qY, .ref qD, .int xA, .ref qR, .ref qM, .ref qT, .int xw, .int xa, .int xb, .int xc])), (qx, .inl (g.2.1.1, N, .inl gx))] s.heap.size = A at hD hE ⊢
  have hA : ∀ q : Nat, s.heap.size ≤ q → A q := fun q h => by rw [← hAe]; exact Or.inr h
  have hS : va_S A s.heap s.heap [] := va_S.rf
  have hl := lv_entry ([.ref hO, .ref qx, .int (nI j)]) (n := 3) (Nat.le_of_ble_eq_true rfl)
  rw [lg_entry_eq]
  generalize (lg_sl ([.ref hO, .ref qx, .int (nI j)]) ++ List.replicate (3 - (lg_sl ([.ref hO, .ref qx, .int (nI j)])).length) Slot.unset).toArray = ls at hl ⊢
  have hl : lv_has ls 3 [(0, .ref hO), (1, .ref qx), (2, .int (nI j))] := hl
  refine lv_aload_n hx hb dX6_look_0 rfl (lv_at hl 0 rfl) ?_
  refine lv_aload_n hx hb dX6_look_1 rfl (lv_at hl 1 rfl) ?_
  refine lv_iload_n hx hb dX6_look_2 rfl (lv_at hl 2 rfl) ?_
  refine va_iald hx hb hK hP 1 0 rfl rfl (vp_in_nI (by omega) (by omega)) dX6_look_3 ?_
  refine lv_topi (fun y9 e9 => ?_)
  rw [show (gx (nI j).toNatClampNeg : Int32) = gx j from congrArg gx (nI_clamp (by omega))] at e9
  subst e9
  refine va_put (D := g.1) (ci := 4) (v := .int (gx j)) (ty := .int) (C := RX6) (T := TX6) (N := 17) hx hb hts iX6 tyX6 tyX6_ok nmX6 hown hK hP hD hS 0 rfl rfl 13 (by decide) (hts (.fieldLink RX6 53 "FaultIsolationModel" "word" "I") (by decide +kernel)) (fun _ h9 => h9) rfl (by decide +kernel) rfl rfl (Nat.le_of_ble_eq_true rfl) dX6_look_4 (fun H locs hP hD hS => ?_)
  have hP : va_P g.1 vwCl [(hO, .inr (4, [.int xT, .int xB, .int xC, .ref qP, .int xP, .ref qN, .int xS, .ref qY, .ref qD, .int xA, .ref qR, .ref qM, .ref qT, .int (gx j), .int xa, .int xb, .int xc])), (qx, .inl (g.2.1.1, N, .inl gx))] H := hP
  have hD : va_D A [(hO, .inr (4, [.int xT, .int xB, .int xC, .ref qP, .int xP, .ref qN, .int xS, .ref qY, .ref qD, .int xA, .ref qR, .ref qM, .ref qT, .int (gx j), .int xa, .int xb, .int xc])), (qx, .inl (g.2.1.1, N, .inl gx))] := hD
  refine lv_aload_n hx hb dX6_look_7 rfl (lv_at hl 0 rfl) ?_
  refine lv_aload_n hx hb dX6_look_8 rfl (lv_at hl 1 rfl) ?_
  refine lv_iload_n hx hb dX6_look_9 rfl (lv_at hl 2 rfl) ?_
  refine lv_iconst (v := 1) hx hb dX6_look_10 (by decide) ?_
  refine lv_iadd hx hb dX6_look_11 ?_
  refine lv_topi (fun y9 e9 => ?_)
  rw [show ((nI j) + 1 : Int32) = nI (j + 1) from nI_add _ _] at e9
  subst e9
  refine va_iald hx hb hK hP 1 0 rfl rfl (vp_in_nI (by omega) (by omega)) dX6_look_12 ?_
  refine lv_topi (fun y9 e9 => ?_)
  rw [show (gx (nI (j + 1)).toNatClampNeg : Int32) = gx (j + 1) from congrArg gx (nI_clamp (by omega))] at e9
  subst e9
  refine va_put (D := g.1) (ci := 4) (v := .int (gx (j + 1))) (ty := .int) (C := RX6) (T := TX6) (N := 17) hx hb hts iX6 tyX6 tyX6_ok nmX6 hown hK hP hD hS 0 rfl rfl 14 (by decide) (hts (.fieldLink RX6 56 "FaultIsolationModel" "a" "I") (by decide +kernel)) (fun _ h9 => h9) rfl (by decide +kernel) rfl rfl (Nat.le_of_ble_eq_true rfl) dX6_look_13 (fun H locs hP hD hS => ?_)
  have hP : va_P g.1 vwCl [(hO, .inr (4, [.int xT, .int xB, .int xC, .ref qP, .int xP, .ref qN, .int xS, .ref qY, .ref qD, .int xA, .ref qR, .ref qM, .ref qT, .int (gx j), .int (gx (j + 1)), .int xb, .int xc])), (qx, .inl (g.2.1.1, N, .inl gx))] H := hP
  have hD : va_D A [(hO, .inr (4, [.int xT, .int xB, .int xC, .ref qP, .int xP, .ref qN, .int xS, .ref qY, .ref qD, .int xA, .ref qR, .ref qM, .ref qT, .int (gx j), .int (gx (j + 1)), .int xb, .int xc])), (qx, .inl (g.2.1.1, N, .inl gx))] := hD
  refine lv_aload_n hx hb dX6_look_16 rfl (lv_at hl 0 rfl) ?_
  refine lv_aload_n hx hb dX6_look_17 rfl (lv_at hl 1 rfl) ?_
  refine lv_iload_n hx hb dX6_look_18 rfl (lv_at hl 2 rfl) ?_
  refine lv_iconst (v := 2) hx hb dX6_look_19 (by decide) ?_
  refine lv_iadd hx hb dX6_look_20 ?_
  refine lv_topi (fun y9 e9 => ?_)
  rw [show ((nI j) + 2 : Int32) = nI (j + 2) from nI_add _ _] at e9
  subst e9
  refine va_iald hx hb hK hP 1 0 rfl rfl (vp_in_nI (by omega) (by omega)) dX6_look_21 ?_
  refine lv_topi (fun y9 e9 => ?_)
  rw [show (gx (nI (j + 2)).toNatClampNeg : Int32) = gx (j + 2) from congrArg gx (nI_clamp (by omega))] at e9
  subst e9
  refine va_put (D := g.1) (ci := 4) (v := .int (gx (j + 2))) (ty := .int) (C := RX6) (T := TX6) (N := 17) hx hb hts iX6 tyX6 tyX6_ok nmX6 hown hK hP hD hS 0 rfl rfl 15 (by decide) (hts (.fieldLink RX6 59 "FaultIsolationModel" "b" "I") (by decide +kernel)) (fun _ h9 => h9) rfl (by decide +kernel) rfl rfl (Nat.le_of_ble_eq_true rfl) dX6_look_22 (fun H locs hP hD hS => ?_)
  have hP : va_P g.1 vwCl [(hO, .inr (4, [.int xT, .int xB, .int xC, .ref qP, .int xP, .ref qN, .int xS, .ref qY, .ref qD, .int xA, .ref qR, .ref qM, .ref qT, .int (gx j), .int (gx (j + 1)), .int (gx (j + 2)), .int xc])), (qx, .inl (g.2.1.1, N, .inl gx))] H := hP
  have hD : va_D A [(hO, .inr (4, [.int xT, .int xB, .int xC, .ref qP, .int xP, .ref qN, .int xS, .ref qY, .ref qD, .int xA, .ref qR, .ref qM, .ref qT, .int (gx j), .int (gx (j + 1)), .int (gx (j + 2)), .int xc])), (qx, .inl (g.2.1.1, N, .inl gx))] := hD
  refine lv_aload_n hx hb dX6_look_25 rfl (lv_at hl 0 rfl) ?_
  refine lv_aload_n hx hb dX6_look_26 rfl (lv_at hl 1 rfl) ?_
  refine lv_iload_n hx hb dX6_look_27 rfl (lv_at hl 2 rfl) ?_
  refine lv_iconst (v := 3) hx hb dX6_look_28 (by decide) ?_
  refine lv_iadd hx hb dX6_look_29 ?_
  refine lv_topi (fun y9 e9 => ?_)
  rw [show ((nI j) + 3 : Int32) = nI (j + 3) from nI_add _ _] at e9
  subst e9
  refine va_iald hx hb hK hP 1 0 rfl rfl (vp_in_nI (by omega) (by omega)) dX6_look_30 ?_
  refine lv_topi (fun y9 e9 => ?_)
  rw [show (gx (nI (j + 3)).toNatClampNeg : Int32) = gx (j + 3) from congrArg gx (nI_clamp (by omega))] at e9
  subst e9
  refine va_put (D := g.1) (ci := 4) (v := .int (gx (j + 3))) (ty := .int) (C := RX6) (T := TX6) (N := 17) hx hb hts iX6 tyX6 tyX6_ok nmX6 hown hK hP hD hS 0 rfl rfl 16 (by decide) (hts (.fieldLink RX6 62 "FaultIsolationModel" "c" "I") (by decide +kernel)) (fun _ h9 => h9) rfl (by decide +kernel) rfl rfl (Nat.le_of_ble_eq_true rfl) dX6_look_31 (fun H locs hP hD hS => ?_)
  have hP : va_P g.1 vwCl [(hO, .inr (4, [.int xT, .int xB, .int xC, .ref qP, .int xP, .ref qN, .int xS, .ref qY, .ref qD, .int xA, .ref qR, .ref qM, .ref qT, .int (gx j), .int (gx (j + 1)), .int (gx (j + 2)), .int (gx (j + 3))])), (qx, .inl (g.2.1.1, N, .inl gx))] H := hP
  have hD : va_D A [(hO, .inr (4, [.int xT, .int xB, .int xC, .ref qP, .int xP, .ref qN, .int xS, .ref qY, .ref qD, .int xA, .ref qR, .ref qM, .ref qT, .int (gx j), .int (gx (j + 1)), .int (gx (j + 2)), .int (gx (j + 3))])), (qx, .inl (g.2.1.1, N, .inl gx))] := hD
  exact k_vret hx hb hr hlocks ⟨hK, hP, hD, hS, hA, hE, hN⟩ dX6_look_34 (Nat.le_of_ble_eq_true rfl) (Nat.le_of_ble_eq_true rfl) rfl
def sp_X6_put_program (gp : Nat → Int32) (k : Nat) (w0 : Int32) (a0 : Int32) (b0 : Int32) (c0 : Int32) : Nat → Int32 := upd (upd (upd (upd gp (4 * k) w0) ((4 * k) + 1) a0) ((4 * k) + 2) b0) ((4 * k) + 3) c0
set_option maxHeartbeats 4000000 in
set_option maxRecDepth 100000 in
theorem c_X6_put (l : Launch) (g : KG) (hO : Nat) (qP : Nat) (qN : Nat) (qY : Nat) (qD : Nat) (qR : Nat) (qM : Nat) (qT : Nat) (gp : Nat → Int32) (xT : Int32) (xB : Int32) (xC : Int32) (xP : Int32) (xS : Int32) (xA : Int32) (xw : Int32) (xa : Int32) (xb : Int32) (xc : Int32) (k : Nat) (w0 : Int32) (a0 : Int32) (b0 : Int32) (c0 : Int32) (hk : k < 60) : Cv l g yX6_put wsX6_put ({ frames := 0, cells := 0, slots := 0, locals := 0 }) [.ref hO, .int (nI k), .int w0, .int a0, .int b0, .int c0] [(hO, .inr (4, [.int xT, .int xB, .int xC, .ref qP, .int xP, .ref qN, .int xS, .ref qY, .ref qD, .int xA, .ref qR, .ref qM, .ref qT, .int xw, .int xa, .int xb, .int xc])), (qP, .inl (g.2.1.1, 240, .inl gp))] (fun u => u = [(hO, .inr (4, [.int xT, .int xB, .int xC, .ref qP, .int xP, .ref qN, .int xS, .ref qY, .ref qD, .int xA, .ref qR, .ref qM, .ref qT, .int xw, .int xa, .int xb, .int xc])), (qP, .inl (g.2.1.1, 240, .inl (sp_X6_put_program gp k w0 a0 b0 c0)))]) 0 0 := by
  intro sz
  refine Met.ofW (cc := cX6_put) (maxL := 6) (ret := none) (by decide) rfl ?_
  intro p e s m args below meth c s₁ B hml hv
  obtain ⟨rfl, hsz, hP, hK, hD0, hE, hN⟩ := hv
  have hx := B.exec
  have hb := B.bytes
  have hr := B.returns
  have hts := atoms_spec (ws := wsX6_put) B.pre
  have hown : s.vm.findClass RX6 = some m.cls := findClass_of_methodNamed B.named
  have hlocks := B.notSynchronized
  have iX6 : ∀ w ∈ u_ws RX6 TX6 17, w ∈ wsX6_put := by decide +kernel
  subst hsz
  have hD := hD0.self (sz := s.heap.size)
  generalize hAe : va_A [(hO, .inr (4, [.int xT, .int xB, .int xC, .ref qP, .int xP, .ref qN, .int xS, .ref qY, .ref qD, .int xA, .ref qR, .ref qM, .ref qT, .int xw, .int xa, .int xb, .int xc])), (qP, .inl (g.2.1.1, 240, .inl gp))] s.heap.size = A at hD hE ⊢
  have hA : ∀ q : Nat, s.heap.size ≤ q → A q := fun q h => by rw [← hAe]; exact Or.inr h
  have hS : va_S A s.heap s.heap [] := va_S.rf
  have hl := lv_entry ([.ref hO, .int (nI k), .int w0, .int a0, .int b0, .int c0]) (n := 6) (Nat.le_of_ble_eq_true rfl)
  rw [lg_entry_eq]
  generalize (lg_sl ([.ref hO, .int (nI k), .int w0, .int a0, .int b0, .int c0]) ++ List.replicate (6 - (lg_sl ([.ref hO, .int (nI k), .int w0, .int a0, .int b0, .int c0])).length) Slot.unset).toArray = ls at hl ⊢
  have hl : lv_has ls 6 [(0, .ref hO), (1, .int (nI k)), (2, .int w0), (3, .int a0), (4, .int b0), (5, .int c0)] := hl
  refine lv_aload_n hx hb dX6_put_0 rfl (lv_at hl 0 rfl) ?_
  refine va_get (D := g.1) (ci := 4) (v := .ref qP) (C := RX6) (T := TX6) (N := 17) hx hb hts iX6 hown hK hP 0 rfl rfl 3 (by decide) (hts (.fieldLink RX6 7 "FaultIsolationModel" "program" "[I") (by decide +kernel)) (fun _ h9 => h9) rfl dX6_put_1 ?_
  refine lv_iconst (v := 4) hx hb dX6_put_4 (by decide) ?_
  refine lv_iload_n hx hb dX6_put_5 rfl (lv_at hl 1 rfl) ?_
  refine lv_imul hx hb dX6_put_6 ?_
  refine lv_topi (fun y9 e9 => ?_)
  rw [show (4 * (nI k) : Int32) = nI (4 * k) from pk_mul _ _] at e9
  subst e9
  refine lv_iload_n hx hb dX6_put_7 rfl (lv_at hl 2 rfl) ?_
  refine va_iast hx hb hK hP hD hS 1 0 rfl rfl (vp_in_nI (by omega) (by decide)) dX6_put_8 (fun H locs hP hD hS => ?_)
  rw [nI_clamp (show 4 * k < 2 ^ 31 by omega)] at hP hD
  have hP : va_P g.1 vwCl [(hO, .inr (4, [.int xT, .int xB, .int xC, .ref qP, .int xP, .ref qN, .int xS, .ref qY, .ref qD, .int xA, .ref qR, .ref qM, .ref qT, .int xw, .int xa, .int xb, .int xc])), (qP, .inl (g.2.1.1, 240, .inl (upd gp (4 * k) w0)))] H := hP
  have hD : va_D A [(hO, .inr (4, [.int xT, .int xB, .int xC, .ref qP, .int xP, .ref qN, .int xS, .ref qY, .ref qD, .int xA, .ref qR, .ref qM, .ref qT, .int xw, .int xa, .int xb, .int xc])), (qP, .inl (g.2.1.1, 240, .inl (upd gp (4 * k) w0)))] := hD
  refine lv_aload_n hx hb dX6_put_9 rfl (lv_at hl 0 rfl) ?_
  refine va_get (D := g.1) (ci := 4) (v := .ref qP) (C := RX6) (T := TX6) (N := 17) hx hb hts iX6 hown hK hP 0 rfl rfl 3 (by decide) (hts (.fieldLink RX6 7 "FaultIsolationModel" "program" "[I") (by decide +kernel)) (fun _ h9 => h9) rfl dX6_put_10 ?_
  refine lv_iconst (v := 4) hx hb dX6_put_13 (by decide) ?_
  refine lv_iload_n hx hb dX6_put_14 rfl (lv_at hl 1 rfl) ?_
  refine lv_imul hx hb dX6_put_15 ?_
  refine lv_topi (fun y9 e9 => ?_)
  rw [show (4 * (nI k) : Int32) = nI (4 * k) from pk_mul _ _] at e9
  subst e9
  refine lv_iconst (v := 1) hx hb dX6_put_16 (by decide) ?_
  refine lv_iadd hx hb dX6_put_17 ?_
  refine lv_topi (fun y9 e9 => ?_)
  rw [show ((nI (4 * k)) + 1 : Int32) = nI ((4 * k) + 1) from nI_add _ _] at e9
  subst e9
  refine lv_iload_n hx hb dX6_put_18 rfl (lv_at hl 3 rfl) ?_
  refine va_iast hx hb hK hP hD hS 1 0 rfl rfl (vp_in_nI (by omega) (by decide)) dX6_put_19 (fun H locs hP hD hS => ?_)
  rw [nI_clamp (show (4 * k) + 1 < 2 ^ 31 by omega)] at hP hD
  have hP : va_P g.1 vwCl [(hO, .inr (4, [.int xT, .int xB, .int xC, .ref qP, .int xP, .ref qN, .int xS, .ref qY, .ref qD, .int xA, .ref qR, .ref qM, .ref qT, .int xw, .int xa, .int xb, .int xc])), (qP, .inl (g.2.1.1, 240, .inl (upd (upd gp (4 * k) w0) ((4 * k) + 1) a0)))] H := hP
  have hD : va_D A [(hO, .inr (4, [.int xT, .int xB, .int xC, .ref qP, .int xP, .ref qN, .int xS, .ref qY, .ref qD, .int xA, .ref qR, .ref qM, .ref qT, .int xw, .int xa, .int xb, .int xc])), (qP, .inl (g.2.1.1, 240, .inl (upd (upd gp (4 * k) w0) ((4 * k) + 1) a0)))] := hD
  refine lv_aload_n hx hb dX6_put_20 rfl (lv_at hl 0 rfl) ?_
  refine va_get (D := g.1) (ci := 4) (v := .ref qP) (C := RX6) (T := TX6) (N := 17) hx hb hts iX6 hown hK hP 0 rfl rfl 3 (by decide) (hts (.fieldLink RX6 7 "FaultIsolationModel" "program" "[I") (by decide +kernel)) (fun _ h9 => h9) rfl dX6_put_21 ?_
  refine lv_iconst (v := 4) hx hb dX6_put_24 (by decide) ?_
  refine lv_iload_n hx hb dX6_put_25 rfl (lv_at hl 1 rfl) ?_
  refine lv_imul hx hb dX6_put_26 ?_
  refine lv_topi (fun y9 e9 => ?_)
  rw [show (4 * (nI k) : Int32) = nI (4 * k) from pk_mul _ _] at e9
  subst e9
  refine lv_iconst (v := 2) hx hb dX6_put_27 (by decide) ?_
  refine lv_iadd hx hb dX6_put_28 ?_
  refine lv_topi (fun y9 e9 => ?_)
  rw [show ((nI (4 * k)) + 2 : Int32) = nI ((4 * k) + 2) from nI_add _ _] at e9
  subst e9
  refine lv_iload hx hb dX6_put_29 (lv_at hl 4 rfl) ?_
  refine va_iast hx hb hK hP hD hS 1 0 rfl rfl (vp_in_nI (by omega) (by decide)) dX6_put_31 (fun H locs hP hD hS => ?_)
  rw [nI_clamp (show (4 * k) + 2 < 2 ^ 31 by omega)] at hP hD
  have hP : va_P g.1 vwCl [(hO, .inr (4, [.int xT, .int xB, .int xC, .ref qP, .int xP, .ref qN, .int xS, .ref qY, .ref qD, .int xA, .ref qR, .ref qM, .ref qT, .int xw, .int xa, .int xb, .int xc])), (qP, .inl (g.2.1.1, 240, .inl (upd (upd (upd gp (4 * k) w0) ((4 * k) + 1) a0) ((4 * k) + 2) b0)))] H := hP
  have hD : va_D A [(hO, .inr (4, [.int xT, .int xB, .int xC, .ref qP, .int xP, .ref qN, .int xS, .ref qY, .ref qD, .int xA, .ref qR, .ref qM, .ref qT, .int xw, .int xa, .int xb, .int xc])), (qP, .inl (g.2.1.1, 240, .inl (upd (upd (upd gp (4 * k) w0) ((4 * k) + 1) a0) ((4 * k) + 2) b0)))] := hD
  refine lv_aload_n hx hb dX6_put_32 rfl (lv_at hl 0 rfl) ?_
  refine va_get (D := g.1) (ci := 4) (v := .ref qP) (C := RX6) (T := TX6) (N := 17) hx hb hts iX6 hown hK hP 0 rfl rfl 3 (by decide) (hts (.fieldLink RX6 7 "FaultIsolationModel" "program" "[I") (by decide +kernel)) (fun _ h9 => h9) rfl dX6_put_33 ?_
  refine lv_iconst (v := 4) hx hb dX6_put_36 (by decide) ?_
  refine lv_iload_n hx hb dX6_put_37 rfl (lv_at hl 1 rfl) ?_
  refine lv_imul hx hb dX6_put_38 ?_
  refine lv_topi (fun y9 e9 => ?_)
  rw [show (4 * (nI k) : Int32) = nI (4 * k) from pk_mul _ _] at e9
  subst e9
  refine lv_iconst (v := 3) hx hb dX6_put_39 (by decide) ?_
  refine lv_iadd hx hb dX6_put_40 ?_
  refine lv_topi (fun y9 e9 => ?_)
  rw [show ((nI (4 * k)) + 3 : Int32) = nI ((4 * k) + 3) from nI_add _ _] at e9
  subst e9
  refine lv_iload hx hb dX6_put_41 (lv_at hl 5 rfl) ?_
  refine va_iast hx hb hK hP hD hS 1 0 rfl rfl (vp_in_nI (by omega) (by decide)) dX6_put_43 (fun H locs hP hD hS => ?_)
  rw [nI_clamp (show (4 * k) + 3 < 2 ^ 31 by omega)] at hP hD
  have hP : va_P g.1 vwCl [(hO, .inr (4, [.int xT, .int xB, .int xC, .ref qP, .int xP, .ref qN, .int xS, .ref qY, .ref qD, .int xA, .ref qR, .ref qM, .ref qT, .int xw, .int xa, .int xb, .int xc])), (qP, .inl (g.2.1.1, 240, .inl (upd (upd (upd (upd gp (4 * k) w0) ((4 * k) + 1) a0) ((4 * k) + 2) b0) ((4 * k) + 3) c0)))] H := hP
  have hD : va_D A [(hO, .inr (4, [.int xT, .int xB, .int xC, .ref qP, .int xP, .ref qN, .int xS, .ref qY, .ref qD, .int xA, .ref qR, .ref qM, .ref qT, .int xw, .int xa, .int xb, .int xc])), (qP, .inl (g.2.1.1, 240, .inl (upd (upd (upd (upd gp (4 * k) w0) ((4 * k) + 1) a0) ((4 * k) + 2) b0) ((4 * k) + 3) c0)))] := hD
  exact k_vret hx hb hr hlocks ⟨hK, hP, hD, hS, hA, hE, hN⟩ dX6_put_44 (Nat.le_of_ble_eq_true rfl) (Nat.le_of_ble_eq_true rfl) rfl
def sp_X6_write_at (e0 : Nat) : Int32 := nI (e0 + 4)
def sp_X6_write_draft (gd : Nat → Int32) (e0 : Nat) (w0 : Int32) (a0 : Int32) (b0 : Int32) (c0 : Int32) : Nat → Int32 := upd (upd (upd (upd gd e0 w0) (e0 + 1) a0) (e0 + 2) b0) (e0 + 3) c0
set_option maxHeartbeats 4000000 in
set_option maxRecDepth 100000 in
theorem c_X6_write (l : Launch) (g : KG) (hO : Nat) (qP : Nat) (qN : Nat) (qY : Nat) (qD : Nat) (qR : Nat) (qM : Nat) (qT : Nat) (gd : Nat → Int32) (xT : Int32) (xB : Int32) (xC : Int32) (xP : Int32) (xS : Int32) (e0 : Nat) (xw : Int32) (xa : Int32) (xb : Int32) (xc : Int32) (w0 : Int32) (a0 : Int32) (b0 : Int32) (c0 : Int32) (he : e0 + 3 < 4096) : Cv l g yX6_write wsX6_write ({ frames := 0, cells := 0, slots := 0, locals := 0 }) [.ref hO, .int w0, .int a0, .int b0, .int c0] [(hO, .inr (4, [.int xT, .int xB, .int xC, .ref qP, .int xP, .ref qN, .int xS, .ref qY, .ref qD, .int (nI e0), .ref qR, .ref qM, .ref qT, .int xw, .int xa, .int xb, .int xc])), (qD, .inl (g.2.1.1, 4096, .inl gd))] (fun u => u = [(hO, .inr (4, [.int xT, .int xB, .int xC, .ref qP, .int xP, .ref qN, .int xS, .ref qY, .ref qD, .int (sp_X6_write_at e0), .ref qR, .ref qM, .ref qT, .int xw, .int xa, .int xb, .int xc])), (qD, .inl (g.2.1.1, 4096, .inl (sp_X6_write_draft gd e0 w0 a0 b0 c0)))]) 0 0 := by
  intro sz
  refine Met.ofW (cc := cX6_write) (maxL := 5) (ret := none) (by decide) rfl ?_
  intro p e s m args below meth c s₁ B hml hv
  obtain ⟨rfl, hsz, hP, hK, hD0, hE, hN⟩ := hv
  have hx := B.exec
  have hb := B.bytes
  have hr := B.returns
  have hts := atoms_spec (ws := wsX6_write) B.pre
  have hown : s.vm.findClass RX6 = some m.cls := findClass_of_methodNamed B.named
  have hlocks := B.notSynchronized
  have iX6 : ∀ w ∈ u_ws RX6 TX6 17, w ∈ wsX6_write := by decide +kernel
  subst hsz
  have hD := hD0.self (sz := s.heap.size)
  generalize hAe : va_A [(hO, .inr (4, [.int xT, .int xB, .int xC, .ref qP, .int xP, .ref qN, .int xS, .ref qY, .ref qD, .int (nI e0), .ref qR, .ref qM, .ref qT, .int xw, .int xa, .int xb, .int xc])), (qD, .inl (g.2.1.1, 4096, .inl gd))] s.heap.size = A at hD hE ⊢
  have hA : ∀ q : Nat, s.heap.size ≤ q → A q := fun q h => by rw [← hAe]; exact Or.inr h
  have hS : va_S A s.heap s.heap [] := va_S.rf
  have hl := lv_entry ([.ref hO, .int w0, .int a0, .int b0, .int c0]) (n := 5) (Nat.le_of_ble_eq_true rfl)
  rw [lg_entry_eq]
  generalize (lg_sl ([.ref hO, .int w0, .int a0, .int b0, .int c0]) ++ List.replicate (5 - (lg_sl ([.ref hO, .int w0, .int a0, .int b0, .int c0])).length) Slot.unset).toArray = ls at hl ⊢
  have hl : lv_has ls 5 [(0, .ref hO), (1, .int w0), (2, .int a0), (3, .int b0), (4, .int c0)] := hl
  refine lv_aload_n hx hb dX6_write_0 rfl (lv_at hl 0 rfl) ?_
  refine va_get (D := g.1) (ci := 4) (v := .ref qD) (C := RX6) (T := TX6) (N := 17) hx hb hts iX6 hown hK hP 0 rfl rfl 8 (by decide) (hts (.fieldLink RX6 19 "FaultIsolationModel" "draft" "[I") (by decide +kernel)) (fun _ h9 => h9) rfl dX6_write_1 ?_
  refine lv_aload_n hx hb dX6_write_4 rfl (lv_at hl 0 rfl) ?_
  refine va_get (D := g.1) (ci := 4) (v := .int (nI e0)) (C := RX6) (T := TX6) (N := 17) hx hb hts iX6 hown hK hP 0 rfl rfl 9 (by decide) (hts (.fieldLink RX6 92 "FaultIsolationModel" "at" "I") (by decide +kernel)) (fun _ h9 => h9) rfl dX6_write_5 ?_
  refine lv_iload_n hx hb dX6_write_8 rfl (lv_at hl 1 rfl) ?_
  refine va_iast hx hb hK hP hD hS 1 0 rfl rfl (vp_in_nI (by omega) (by decide)) dX6_write_9 (fun H locs hP hD hS => ?_)
  rw [nI_clamp (show e0 < 2 ^ 31 by omega)] at hP hD
  have hP : va_P g.1 vwCl [(hO, .inr (4, [.int xT, .int xB, .int xC, .ref qP, .int xP, .ref qN, .int xS, .ref qY, .ref qD, .int (nI e0), .ref qR, .ref qM, .ref qT, .int xw, .int xa, .int xb, .int xc])), (qD, .inl (g.2.1.1, 4096, .inl (upd gd e0 w0)))] H := hP
  have hD : va_D A [(hO, .inr (4, [.int xT, .int xB, .int xC, .ref qP, .int xP, .ref qN, .int xS, .ref qY, .ref qD, .int (nI e0), .ref qR, .ref qM, .ref qT, .int xw, .int xa, .int xb, .int xc])), (qD, .inl (g.2.1.1, 4096, .inl (upd gd e0 w0)))] := hD
  refine lv_aload_n hx hb dX6_write_10 rfl (lv_at hl 0 rfl) ?_
  refine va_get (D := g.1) (ci := 4) (v := .ref qD) (C := RX6) (T := TX6) (N := 17) hx hb hts iX6 hown hK hP 0 rfl rfl 8 (by decide) (hts (.fieldLink RX6 19 "FaultIsolationModel" "draft" "[I") (by decide +kernel)) (fun _ h9 => h9) rfl dX6_write_11 ?_
  refine lv_aload_n hx hb dX6_write_14 rfl (lv_at hl 0 rfl) ?_
  refine va_get (D := g.1) (ci := 4) (v := .int (nI e0)) (C := RX6) (T := TX6) (N := 17) hx hb hts iX6 hown hK hP 0 rfl rfl 9 (by decide) (hts (.fieldLink RX6 92 "FaultIsolationModel" "at" "I") (by decide +kernel)) (fun _ h9 => h9) rfl dX6_write_15 ?_
  refine lv_iconst (v := 1) hx hb dX6_write_18 (by decide) ?_
  refine lv_iadd hx hb dX6_write_19 ?_
  refine lv_topi (fun y9 e9 => ?_)
  rw [show ((nI e0) + 1 : Int32) = nI (e0 + 1) from nI_add _ _] at e9
  subst e9
  refine lv_iload_n hx hb dX6_write_20 rfl (lv_at hl 2 rfl) ?_
  refine va_iast hx hb hK hP hD hS 1 0 rfl rfl (vp_in_nI (by omega) (by decide)) dX6_write_21 (fun H locs hP hD hS => ?_)
  rw [nI_clamp (show e0 + 1 < 2 ^ 31 by omega)] at hP hD
  have hP : va_P g.1 vwCl [(hO, .inr (4, [.int xT, .int xB, .int xC, .ref qP, .int xP, .ref qN, .int xS, .ref qY, .ref qD, .int (nI e0), .ref qR, .ref qM, .ref qT, .int xw, .int xa, .int xb, .int xc])), (qD, .inl (g.2.1.1, 4096, .inl (upd (upd gd e0 w0) (e0 + 1) a0)))] H := hP
  have hD : va_D A [(hO, .inr (4, [.int xT, .int xB, .int xC, .ref qP, .int xP, .ref qN, .int xS, .ref qY, .ref qD, .int (nI e0), .ref qR, .ref qM, .ref qT, .int xw, .int xa, .int xb, .int xc])), (qD, .inl (g.2.1.1, 4096, .inl (upd (upd gd e0 w0) (e0 + 1) a0)))] := hD
  refine lv_aload_n hx hb dX6_write_22 rfl (lv_at hl 0 rfl) ?_
  refine va_get (D := g.1) (ci := 4) (v := .ref qD) (C := RX6) (T := TX6) (N := 17) hx hb hts iX6 hown hK hP 0 rfl rfl 8 (by decide) (hts (.fieldLink RX6 19 "FaultIsolationModel" "draft" "[I") (by decide +kernel)) (fun _ h9 => h9) rfl dX6_write_23 ?_
  refine lv_aload_n hx hb dX6_write_26 rfl (lv_at hl 0 rfl) ?_
  refine va_get (D := g.1) (ci := 4) (v := .int (nI e0)) (C := RX6) (T := TX6) (N := 17) hx hb hts iX6 hown hK hP 0 rfl rfl 9 (by decide) (hts (.fieldLink RX6 92 "FaultIsolationModel" "at" "I") (by decide +kernel)) (fun _ h9 => h9) rfl dX6_write_27 ?_
  refine lv_iconst (v := 2) hx hb dX6_write_30 (by decide) ?_
  refine lv_iadd hx hb dX6_write_31 ?_
  refine lv_topi (fun y9 e9 => ?_)
  rw [show ((nI e0) + 2 : Int32) = nI (e0 + 2) from nI_add _ _] at e9
  subst e9
  refine lv_iload_n hx hb dX6_write_32 rfl (lv_at hl 3 rfl) ?_
  refine va_iast hx hb hK hP hD hS 1 0 rfl rfl (vp_in_nI (by omega) (by decide)) dX6_write_33 (fun H locs hP hD hS => ?_)
  rw [nI_clamp (show e0 + 2 < 2 ^ 31 by omega)] at hP hD
  have hP : va_P g.1 vwCl [(hO, .inr (4, [.int xT, .int xB, .int xC, .ref qP, .int xP, .ref qN, .int xS, .ref qY, .ref qD, .int (nI e0), .ref qR, .ref qM, .ref qT, .int xw, .int xa, .int xb, .int xc])), (qD, .inl (g.2.1.1, 4096, .inl (upd (upd (upd gd e0 w0) (e0 + 1) a0) (e0 + 2) b0)))] H := hP
  have hD : va_D A [(hO, .inr (4, [.int xT, .int xB, .int xC, .ref qP, .int xP, .ref qN, .int xS, .ref qY, .ref qD, .int (nI e0), .ref qR, .ref qM, .ref qT, .int xw, .int xa, .int xb, .int xc])), (qD, .inl (g.2.1.1, 4096, .inl (upd (upd (upd gd e0 w0) (e0 + 1) a0) (e0 + 2) b0)))] := hD
  refine lv_aload_n hx hb dX6_write_34 rfl (lv_at hl 0 rfl) ?_
  refine va_get (D := g.1) (ci := 4) (v := .ref qD) (C := RX6) (T := TX6) (N := 17) hx hb hts iX6 hown hK hP 0 rfl rfl 8 (by decide) (hts (.fieldLink RX6 19 "FaultIsolationModel" "draft" "[I") (by decide +kernel)) (fun _ h9 => h9) rfl dX6_write_35 ?_
  refine lv_aload_n hx hb dX6_write_38 rfl (lv_at hl 0 rfl) ?_
  refine va_get (D := g.1) (ci := 4) (v := .int (nI e0)) (C := RX6) (T := TX6) (N := 17) hx hb hts iX6 hown hK hP 0 rfl rfl 9 (by decide) (hts (.fieldLink RX6 92 "FaultIsolationModel" "at" "I") (by decide +kernel)) (fun _ h9 => h9) rfl dX6_write_39 ?_
  refine lv_iconst (v := 3) hx hb dX6_write_42 (by decide) ?_
  refine lv_iadd hx hb dX6_write_43 ?_
  refine lv_topi (fun y9 e9 => ?_)
  rw [show ((nI e0) + 3 : Int32) = nI (e0 + 3) from nI_add _ _] at e9
  subst e9
  refine lv_iload hx hb dX6_write_44 (lv_at hl 4 rfl) ?_
  refine va_iast hx hb hK hP hD hS 1 0 rfl rfl (vp_in_nI (by omega) (by decide)) dX6_write_46 (fun H locs hP hD hS => ?_)
  rw [nI_clamp (show e0 + 3 < 2 ^ 31 by omega)] at hP hD
  have hP : va_P g.1 vwCl [(hO, .inr (4, [.int xT, .int xB, .int xC, .ref qP, .int xP, .ref qN, .int xS, .ref qY, .ref qD, .int (nI e0), .ref qR, .ref qM, .ref qT, .int xw, .int xa, .int xb, .int xc])), (qD, .inl (g.2.1.1, 4096, .inl (upd (upd (upd (upd gd e0 w0) (e0 + 1) a0) (e0 + 2) b0) (e0 + 3) c0)))] H := hP
  have hD : va_D A [(hO, .inr (4, [.int xT, .int xB, .int xC, .ref qP, .int xP, .ref qN, .int xS, .ref qY, .ref qD, .int (nI e0), .ref qR, .ref qM, .ref qT, .int xw, .int xa, .int xb, .int xc])), (qD, .inl (g.2.1.1, 4096, .inl (upd (upd (upd (upd gd e0 w0) (e0 + 1) a0) (e0 + 2) b0) (e0 + 3) c0)))] := hD
  refine lv_aload_n hx hb dX6_write_47 rfl (lv_at hl 0 rfl) ?_
  refine lv_aload_n hx hb dX6_write_48 rfl (lv_at hl 0 rfl) ?_
  refine va_get (D := g.1) (ci := 4) (v := .int (nI e0)) (C := RX6) (T := TX6) (N := 17) hx hb hts iX6 hown hK hP 0 rfl rfl 9 (by decide) (hts (.fieldLink RX6 92 "FaultIsolationModel" "at" "I") (by decide +kernel)) (fun _ h9 => h9) rfl dX6_write_49 ?_
  refine lv_iconst (v := 4) hx hb dX6_write_52 (by decide) ?_
  refine lv_iadd hx hb dX6_write_53 ?_
  refine lv_topi (fun y9 e9 => ?_)
  rw [show ((nI e0) + 4 : Int32) = nI (e0 + 4) from nI_add _ _] at e9
  subst e9
  refine va_put (D := g.1) (ci := 4) (v := .int (nI (e0 + 4))) (ty := .int) (C := RX6) (T := TX6) (N := 17) hx hb hts iX6 tyX6 tyX6_ok nmX6 hown hK hP hD hS 0 rfl rfl 9 (by decide) (hts (.fieldLink RX6 92 "FaultIsolationModel" "at" "I") (by decide +kernel)) (fun _ h9 => h9) rfl (by decide +kernel) rfl rfl (Nat.le_of_ble_eq_true rfl) dX6_write_54 (fun H locs hP hD hS => ?_)
  have hP : va_P g.1 vwCl [(hO, .inr (4, [.int xT, .int xB, .int xC, .ref qP, .int xP, .ref qN, .int xS, .ref qY, .ref qD, .int (nI (e0 + 4)), .ref qR, .ref qM, .ref qT, .int xw, .int xa, .int xb, .int xc])), (qD, .inl (g.2.1.1, 4096, .inl (upd (upd (upd (upd gd e0 w0) (e0 + 1) a0) (e0 + 2) b0) (e0 + 3) c0)))] H := hP
  have hD : va_D A [(hO, .inr (4, [.int xT, .int xB, .int xC, .ref qP, .int xP, .ref qN, .int xS, .ref qY, .ref qD, .int (nI (e0 + 4)), .ref qR, .ref qM, .ref qT, .int xw, .int xa, .int xb, .int xc])), (qD, .inl (g.2.1.1, 4096, .inl (upd (upd (upd (upd gd e0 w0) (e0 + 1) a0) (e0 + 2) b0) (e0 + 3) c0)))] := hD
  exact k_vret hx hb hr hlocks ⟨hK, hP, hD, hS, hA, hE, hN⟩ dX6_write_57 (Nat.le_of_ble_eq_true rfl) (Nat.le_of_ble_eq_true rfl) rfl
def sp_X6_isThere (gb : Nat → Int32) (k : Nat) (w0 : Int32) (k0 : Int32) : Int32 := if (gb k) = w0 then (if (gb (k + 1)) = 6 then (if ((256 * (gb (k + 2))) + (gb (k + 3))) = k0 then 1 else 0) else 0) else 0
theorem sp_X6_isThere_b (gb : Nat → Int32) (k : Nat) (w0 : Int32) (k0 : Int32) : sp_X6_isThere gb k w0 k0 = 0 ∨ sp_X6_isThere gb k w0 k0 = 1 := by
  unfold sp_X6_isThere
  exact k_if01 (k_if01 (k_if01 (Or.inr rfl) (Or.inl rfl)) (Or.inl rfl)) (Or.inl rfl)
set_option maxHeartbeats 4000000 in
set_option maxRecDepth 100000 in
theorem c_X6_isThere (l : Launch) (g : KG) (hO : Nat) (qP : Nat) (qN : Nat) (qY : Nat) (qD : Nat) (qR : Nat) (qM : Nat) (qT : Nat) (gb : Nat → Int32) (xT : Int32) (xB : Int32) (xC : Int32) (xP : Int32) (xS : Int32) (xA : Int32) (xw : Int32) (xa : Int32) (xb : Int32) (xc : Int32) (k : Nat) (w0 : Int32) (k0 : Int32) (hk : k + 3 < 1024) : Ci l g yX6_isThere wsX6_isThere ({ frames := 0, cells := 0, slots := 0, locals := 0 }) [.ref hO, .int (nI k), .int w0, .int k0] [(hO, .inr (4, [.int xT, .int xB, .int xC, .ref qP, .int xP, .ref qN, .int xS, .ref qY, .ref qD, .int xA, .ref qR, .ref qM, .ref qT, .int xw, .int xa, .int xb, .int xc])), (qY, .inl (g.2.1.1, 1024, .inl gb))] (fun r u => r = sp_X6_isThere gb k w0 k0 ∧ u = [(hO, .inr (4, [.int xT, .int xB, .int xC, .ref qP, .int xP, .ref qN, .int xS, .ref qY, .ref qD, .int xA, .ref qR, .ref qM, .ref qT, .int xw, .int xa, .int xb, .int xc])), (qY, .inl (g.2.1.1, 1024, .inl gb))]) 0 0 := by
  intro sz
  refine Met.ofW (cc := cX6_isThere) (maxL := 4) (ret := (some .boolean)) (by decide) rfl ?_
  intro p e s m args below meth c s₁ B hml hv
  obtain ⟨rfl, hsz, hP, hK, hD0, hE, hN⟩ := hv
  have hx := B.exec
  have hb := B.bytes
  have hr := B.returns
  have hts := atoms_spec (ws := wsX6_isThere) B.pre
  have hown : s.vm.findClass RX6 = some m.cls := findClass_of_methodNamed B.named
  have hlocks := B.notSynchronized
  have iX6 : ∀ w ∈ u_ws RX6 TX6 17, w ∈ wsX6_isThere := by decide +kernel
  subst hsz
  have hD := hD0.self (sz := s.heap.size)
  generalize hAe : va_A [(hO, .inr (4, [.int xT, .int xB, .int xC, .ref qP, .int xP, .ref qN, .int xS, .ref qY, .ref qD, .int xA, .ref qR, .ref qM, .ref qT, .int xw, .int xa, .int xb, .int xc])), (qY, .inl (g.2.1.1, 1024, .inl gb))] s.heap.size = A at hD hE ⊢
  have hA : ∀ q : Nat, s.heap.size ≤ q → A q := fun q h => by rw [← hAe]; exact Or.inr h
  have hS : va_S A s.heap s.heap [] := va_S.rf
  have hl := lv_entry ([.ref hO, .int (nI k), .int w0, .int k0]) (n := 4) (Nat.le_of_ble_eq_true rfl)
  rw [lg_entry_eq]
  generalize (lg_sl ([.ref hO, .int (nI k), .int w0, .int k0]) ++ List.replicate (4 - (lg_sl ([.ref hO, .int (nI k), .int w0, .int k0])).length) Slot.unset).toArray = ls at hl ⊢
  have hl : lv_has ls 4 [(0, .ref hO), (1, .int (nI k)), (2, .int w0), (3, .int k0)] := hl
  refine lv_aload_n hx hb dX6_isThere_0 rfl (lv_at hl 0 rfl) ?_
  refine va_get (D := g.1) (ci := 4) (v := .ref qY) (C := RX6) (T := TX6) (N := 17) hx hb hts iX6 hown hK hP 0 rfl rfl 7 (by decide) (hts (.fieldLink RX6 16 "FaultIsolationModel" "bytes" "[I") (by decide +kernel)) (fun _ h9 => h9) rfl dX6_isThere_1 ?_
  refine lv_iload_n hx hb dX6_isThere_4 rfl (lv_at hl 1 rfl) ?_
  refine va_iald hx hb hK hP 1 0 rfl rfl (vp_in_nI (by omega) (by decide)) dX6_isThere_5 ?_
  refine lv_topi (fun y9 e9 => ?_)
  rw [show (gb (nI k).toNatClampNeg : Int32) = gb k from congrArg gb (nI_clamp (by omega))] at e9
  subst e9
  refine lv_iload_n hx hb dX6_isThere_6 rfl (lv_at hl 2 rfl) ?_
  refine lv_icmp_ne (tgt := 52) hx hb dX6_isThere_7 (by decide) (fun c_0 => ?_) (fun c_0 => ?_)
  · skip
    refine lv_iconst (v := 0) hx hb dX6_isThere_52 (by decide) ?_
    exact k_iret hx hb hr hlocks ⟨hK, hP, hD, hS, hA, hE, hN⟩ rfl dX6_isThere_53 (Nat.le_of_ble_eq_true rfl) (Nat.le_of_ble_eq_true rfl) ⟨(by simp only [sp_X6_isThere, if_neg c_0]), rfl⟩
  · skip
    refine lv_aload_n hx hb dX6_isThere_10 rfl (lv_at hl 0 rfl) ?_
    refine va_get (D := g.1) (ci := 4) (v := .ref qY) (C := RX6) (T := TX6) (N := 17) hx hb hts iX6 hown hK hP 0 rfl rfl 7 (by decide) (hts (.fieldLink RX6 16 "FaultIsolationModel" "bytes" "[I") (by decide +kernel)) (fun _ h9 => h9) rfl dX6_isThere_11 ?_
    refine lv_iload_n hx hb dX6_isThere_14 rfl (lv_at hl 1 rfl) ?_
    refine lv_iconst (v := 1) hx hb dX6_isThere_15 (by decide) ?_
    refine lv_iadd hx hb dX6_isThere_16 ?_
    refine lv_topi (fun y9 e9 => ?_)
    rw [show ((nI k) + 1 : Int32) = nI (k + 1) from nI_add _ _] at e9
    subst e9
    refine va_iald hx hb hK hP 1 0 rfl rfl (vp_in_nI (by omega) (by decide)) dX6_isThere_17 ?_
    refine lv_topi (fun y9 e9 => ?_)
    rw [show (gb (nI (k + 1)).toNatClampNeg : Int32) = gb (k + 1) from congrArg gb (nI_clamp (by omega))] at e9
    subst e9
    refine lv_bipush (v := 6) hx hb dX6_isThere_18 (by decide) ?_
    refine lv_icmp_ne (tgt := 52) hx hb dX6_isThere_20 (by decide) (fun c_1 => ?_) (fun c_1 => ?_)
    · skip
      refine lv_iconst (v := 0) hx hb dX6_isThere_52 (by decide) ?_
      exact k_iret hx hb hr hlocks ⟨hK, hP, hD, hS, hA, hE, hN⟩ rfl dX6_isThere_53 (Nat.le_of_ble_eq_true rfl) (Nat.le_of_ble_eq_true rfl) ⟨(by simp only [sp_X6_isThere, if_pos c_0, if_neg c_1]), rfl⟩
    · skip
      refine lv_sipush (v := 256) hx hb dX6_isThere_23 (by decide) ?_
      refine lv_aload_n hx hb dX6_isThere_26 rfl (lv_at hl 0 rfl) ?_
      refine va_get (D := g.1) (ci := 4) (v := .ref qY) (C := RX6) (T := TX6) (N := 17) hx hb hts iX6 hown hK hP 0 rfl rfl 7 (by decide) (hts (.fieldLink RX6 16 "FaultIsolationModel" "bytes" "[I") (by decide +kernel)) (fun _ h9 => h9) rfl dX6_isThere_27 ?_
      refine lv_iload_n hx hb dX6_isThere_30 rfl (lv_at hl 1 rfl) ?_
      refine lv_iconst (v := 2) hx hb dX6_isThere_31 (by decide) ?_
      refine lv_iadd hx hb dX6_isThere_32 ?_
      refine lv_topi (fun y9 e9 => ?_)
      rw [show ((nI k) + 2 : Int32) = nI (k + 2) from nI_add _ _] at e9
      subst e9
      refine va_iald hx hb hK hP 1 0 rfl rfl (vp_in_nI (by omega) (by decide)) dX6_isThere_33 ?_
      refine lv_topi (fun y9 e9 => ?_)
      rw [show (gb (nI (k + 2)).toNatClampNeg : Int32) = gb (k + 2) from congrArg gb (nI_clamp (by omega))] at e9
      subst e9
      refine lv_imul hx hb dX6_isThere_34 ?_
      refine lv_aload_n hx hb dX6_isThere_35 rfl (lv_at hl 0 rfl) ?_
      refine va_get (D := g.1) (ci := 4) (v := .ref qY) (C := RX6) (T := TX6) (N := 17) hx hb hts iX6 hown hK hP 0 rfl rfl 7 (by decide) (hts (.fieldLink RX6 16 "FaultIsolationModel" "bytes" "[I") (by decide +kernel)) (fun _ h9 => h9) rfl dX6_isThere_36 ?_
      refine lv_iload_n hx hb dX6_isThere_39 rfl (lv_at hl 1 rfl) ?_
      refine lv_iconst (v := 3) hx hb dX6_isThere_40 (by decide) ?_
      refine lv_iadd hx hb dX6_isThere_41 ?_
      refine lv_topi (fun y9 e9 => ?_)
      rw [show ((nI k) + 3 : Int32) = nI (k + 3) from nI_add _ _] at e9
      subst e9
      refine va_iald hx hb hK hP 1 0 rfl rfl (vp_in_nI (by omega) (by decide)) dX6_isThere_42 ?_
      refine lv_topi (fun y9 e9 => ?_)
      rw [show (gb (nI (k + 3)).toNatClampNeg : Int32) = gb (k + 3) from congrArg gb (nI_clamp (by omega))] at e9
      subst e9
      refine lv_iadd hx hb dX6_isThere_43 ?_
      refine lv_iload_n hx hb dX6_isThere_44 rfl (lv_at hl 3 rfl) ?_
      refine lv_icmp_ne (tgt := 52) hx hb dX6_isThere_45 (by decide) (fun c_2 => ?_) (fun c_2 => ?_)
      · skip
        refine lv_iconst (v := 0) hx hb dX6_isThere_52 (by decide) ?_
        exact k_iret hx hb hr hlocks ⟨hK, hP, hD, hS, hA, hE, hN⟩ rfl dX6_isThere_53 (Nat.le_of_ble_eq_true rfl) (Nat.le_of_ble_eq_true rfl) ⟨(by simp only [sp_X6_isThere, if_pos c_0, if_pos c_1, if_neg c_2]), rfl⟩
      · skip
        refine lv_iconst (v := 1) hx hb dX6_isThere_48 (by decide) ?_
        refine lv_goto (tgt := 53) hx hb dX6_isThere_49 (by decide) ?_
        exact k_iret hx hb hr hlocks ⟨hK, hP, hD, hS, hA, hE, hN⟩ rfl dX6_isThere_53 (Nat.le_of_ble_eq_true rfl) (Nat.le_of_ble_eq_true rfl) ⟨(by simp only [sp_X6_isThere, if_pos c_0, if_pos c_1, if_pos c_2]), rfl⟩
def sp_X6_operated (xw : Int32) (x : Int32) (y : Int32) : Int32 := if xw = 2 then (x + y) else (if xw = 3 then (x - y) else (if xw = 4 then (x * y) else (if xw = 5 then (x &&& y) else (if xw = 6 then (x ||| y) else (if xw = 7 then (x ^^^ y) else ((x.toUInt32 >>> ((y &&& 31).toUInt32 &&& Int32.toUInt32 31)).toInt32))))))
set_option maxHeartbeats 4000000 in
set_option maxRecDepth 100000 in
theorem c_X6_operated (l : Launch) (g : KG) (hO : Nat) (qP : Nat) (qN : Nat) (qY : Nat) (qD : Nat) (qR : Nat) (qM : Nat) (qT : Nat) (xT : Int32) (xB : Int32) (xC : Int32) (xP : Int32) (xS : Int32) (xA : Int32) (xw : Int32) (xa : Int32) (xb : Int32) (xc : Int32) (x : Int32) (y : Int32)  : Ci l g yX6_operated wsX6_operated ({ frames := 0, cells := 0, slots := 0, locals := 0 }) [.ref hO, .int x, .int y] [(hO, .inr (4, [.int xT, .int xB, .int xC, .ref qP, .int xP, .ref qN, .int xS, .ref qY, .ref qD, .int xA, .ref qR, .ref qM, .ref qT, .int xw, .int xa, .int xb, .int xc]))] (fun r u => r = sp_X6_operated xw x y ∧ u = [(hO, .inr (4, [.int xT, .int xB, .int xC, .ref qP, .int xP, .ref qN, .int xS, .ref qY, .ref qD, .int xA, .ref qR, .ref qM, .ref qT, .int xw, .int xa, .int xb, .int xc]))]) 0 0 := by
  intro sz
  refine Met.ofW (cc := cX6_operated) (maxL := 3) (ret := (some .int)) (by decide) rfl ?_
  intro p e s m args below meth c s₁ B hml hv
  obtain ⟨rfl, hsz, hP, hK, hD0, hE, hN⟩ := hv
  have hx := B.exec
  have hb := B.bytes
  have hr := B.returns
  have hts := atoms_spec (ws := wsX6_operated) B.pre
  have hown : s.vm.findClass RX6 = some m.cls := findClass_of_methodNamed B.named
  have hlocks := B.notSynchronized
  have iX6 : ∀ w ∈ u_ws RX6 TX6 17, w ∈ wsX6_operated := by decide +kernel
  subst hsz
  have hD := hD0.self (sz := s.heap.size)
  generalize hAe : va_A [(hO, .inr (4, [.int xT, .int xB, .int xC, .ref qP, .int xP, .ref qN, .int xS, .ref qY, .ref qD, .int xA, .ref qR, .ref qM, .ref qT, .int xw, .int xa, .int xb, .int xc]))] s.heap.size = A at hD hE ⊢
  have hA : ∀ q : Nat, s.heap.size ≤ q → A q := fun q h => by rw [← hAe]; exact Or.inr h
  have hS : va_S A s.heap s.heap [] := va_S.rf
  have hl := lv_entry ([.ref hO, .int x, .int y]) (n := 3) (Nat.le_of_ble_eq_true rfl)
  rw [lg_entry_eq]
  generalize (lg_sl ([.ref hO, .int x, .int y]) ++ List.replicate (3 - (lg_sl ([.ref hO, .int x, .int y])).length) Slot.unset).toArray = ls at hl ⊢
  have hl : lv_has ls 3 [(0, .ref hO), (1, .int x), (2, .int y)] := hl
  refine lv_aload_n hx hb dX6_operated_0 rfl (lv_at hl 0 rfl) ?_
  refine va_get (D := g.1) (ci := 4) (v := .int xw) (C := RX6) (T := TX6) (N := 17) hx hb hts iX6 hown hK hP 0 rfl rfl 13 (by decide) (hts (.fieldLink RX6 53 "FaultIsolationModel" "word" "I") (by decide +kernel)) (fun _ h9 => h9) rfl dX6_operated_1 ?_
  by_cases c_0 : xw = 2
  · skip
    refine lv_tableIn (tgt := 44) (off := 40) hx hb dX6_operated_4 (by rw [c_0]; decide) (by rw [c_0]; decide) (by rw [c_0]; decide) (by decide) ?_
    refine lv_iload_n hx hb dX6_operated_44 rfl (lv_at hl 1 rfl) ?_
    refine lv_iload_n hx hb dX6_operated_45 rfl (lv_at hl 2 rfl) ?_
    refine lv_iadd hx hb dX6_operated_46 ?_
    exact k_iret hx hb hr hlocks ⟨hK, hP, hD, hS, hA, hE, hN⟩ rfl dX6_operated_47 (Nat.le_of_ble_eq_true rfl) (Nat.le_of_ble_eq_true rfl) ⟨(by simp only [sp_X6_operated, if_pos c_0]), rfl⟩
  by_cases c_1 : xw = 3
  · skip
    refine lv_tableIn (tgt := 48) (off := 44) hx hb dX6_operated_4 (by rw [c_1]; decide) (by rw [c_1]; decide) (by rw [c_1]; decide) (by decide) ?_
    refine lv_iload_n hx hb dX6_operated_48 rfl (lv_at hl 1 rfl) ?_
    refine lv_iload_n hx hb dX6_operated_49 rfl (lv_at hl 2 rfl) ?_
    refine lv_isub hx hb dX6_operated_50 ?_
    exact k_iret hx hb hr hlocks ⟨hK, hP, hD, hS, hA, hE, hN⟩ rfl dX6_operated_51 (Nat.le_of_ble_eq_true rfl) (Nat.le_of_ble_eq_true rfl) ⟨(by simp only [sp_X6_operated, if_neg c_0, if_pos c_1]), rfl⟩
  by_cases c_2 : xw = 4
  · skip
    refine lv_tableIn (tgt := 52) (off := 48) hx hb dX6_operated_4 (by rw [c_2]; decide) (by rw [c_2]; decide) (by rw [c_2]; decide) (by decide) ?_
    refine lv_iload_n hx hb dX6_operated_52 rfl (lv_at hl 1 rfl) ?_
    refine lv_iload_n hx hb dX6_operated_53 rfl (lv_at hl 2 rfl) ?_
    refine lv_imul hx hb dX6_operated_54 ?_
    exact k_iret hx hb hr hlocks ⟨hK, hP, hD, hS, hA, hE, hN⟩ rfl dX6_operated_55 (Nat.le_of_ble_eq_true rfl) (Nat.le_of_ble_eq_true rfl) ⟨(by simp only [sp_X6_operated, if_neg c_0, if_neg c_1, if_pos c_2]), rfl⟩
  by_cases c_3 : xw = 5
  · skip
    refine lv_tableIn (tgt := 56) (off := 52) hx hb dX6_operated_4 (by rw [c_3]; decide) (by rw [c_3]; decide) (by rw [c_3]; decide) (by decide) ?_
    refine lv_iload_n hx hb dX6_operated_56 rfl (lv_at hl 1 rfl) ?_
    refine lv_iload_n hx hb dX6_operated_57 rfl (lv_at hl 2 rfl) ?_
    refine lv_iand hx hb dX6_operated_58 ?_
    exact k_iret hx hb hr hlocks ⟨hK, hP, hD, hS, hA, hE, hN⟩ rfl dX6_operated_59 (Nat.le_of_ble_eq_true rfl) (Nat.le_of_ble_eq_true rfl) ⟨(by simp only [sp_X6_operated, if_neg c_0, if_neg c_1, if_neg c_2, if_pos c_3]), rfl⟩
  by_cases c_4 : xw = 6
  · skip
    refine lv_tableIn (tgt := 60) (off := 56) hx hb dX6_operated_4 (by rw [c_4]; decide) (by rw [c_4]; decide) (by rw [c_4]; decide) (by decide) ?_
    refine lv_iload_n hx hb dX6_operated_60 rfl (lv_at hl 1 rfl) ?_
    refine lv_iload_n hx hb dX6_operated_61 rfl (lv_at hl 2 rfl) ?_
    refine lv_ior hx hb dX6_operated_62 ?_
    exact k_iret hx hb hr hlocks ⟨hK, hP, hD, hS, hA, hE, hN⟩ rfl dX6_operated_63 (Nat.le_of_ble_eq_true rfl) (Nat.le_of_ble_eq_true rfl) ⟨(by simp only [sp_X6_operated, if_neg c_0, if_neg c_1, if_neg c_2, if_neg c_3, if_pos c_4]), rfl⟩
  by_cases c_5 : xw = 7
  · skip
    refine lv_tableIn (tgt := 64) (off := 60) hx hb dX6_operated_4 (by rw [c_5]; decide) (by rw [c_5]; decide) (by rw [c_5]; decide) (by decide) ?_
    refine lv_iload_n hx hb dX6_operated_64 rfl (lv_at hl 1 rfl) ?_
    refine lv_iload_n hx hb dX6_operated_65 rfl (lv_at hl 2 rfl) ?_
    refine lv_ixor hx hb dX6_operated_66 ?_
    exact k_iret hx hb hr hlocks ⟨hK, hP, hD, hS, hA, hE, hN⟩ rfl dX6_operated_67 (Nat.le_of_ble_eq_true rfl) (Nat.le_of_ble_eq_true rfl) ⟨(by simp only [sp_X6_operated, if_neg c_0, if_neg c_1, if_neg c_2, if_neg c_3, if_neg c_4, if_pos c_5]), rfl⟩
  refine lv_tableOut (tgt := 68) hx hb dX6_operated_4 (by have z0 := lv_neT c_0 (by decide : (2 : Int32).toInt = 2); have z1 := lv_neT c_1 (by decide : (3 : Int32).toInt = 3); have z2 := lv_neT c_2 (by decide : (4 : Int32).toInt = 4); have z3 := lv_neT c_3 (by decide : (5 : Int32).toInt = 5); have z4 := lv_neT c_4 (by decide : (6 : Int32).toInt = 6); have z5 := lv_neT c_5 (by decide : (7 : Int32).toInt = 7); omega) (by decide) ?_
  refine lv_iload_n hx hb dX6_operated_68 rfl (lv_at hl 1 rfl) ?_
  refine lv_iload_n hx hb dX6_operated_69 rfl (lv_at hl 2 rfl) ?_
  refine lv_bipush (v := 31) hx hb dX6_operated_70 (by decide) ?_
  refine lv_iand hx hb dX6_operated_72 ?_
  refine lv_iushr (v := (x.toUInt32 >>> ((y &&& 31).toUInt32 &&& Int32.toUInt32 31)).toInt32) hx hb dX6_operated_73 rfl ?_
  exact k_iret hx hb hr hlocks ⟨hK, hP, hD, hS, hA, hE, hN⟩ rfl dX6_operated_74 (Nat.le_of_ble_eq_true rfl) (Nat.le_of_ble_eq_true rfl) ⟨(by simp only [sp_X6_operated, if_neg c_0, if_neg c_1, if_neg c_2, if_neg c_3, if_neg c_4, if_neg c_5]), rfl⟩
def sp_X6_size (xS : Int32) : Int32 := xS
def sp_X6_size_thrown  : Int32 := 0
set_option maxHeartbeats 4000000 in
set_option maxRecDepth 100000 in
theorem c_X6_size (l : Launch) (g : KG) (hO : Nat) (qP : Nat) (qN : Nat) (qY : Nat) (qD : Nat) (qR : Nat) (qM : Nat) (qT : Nat) (xT : Int32) (xB : Int32) (xC : Int32) (xP : Int32) (xS : Int32) (xA : Int32) (xw : Int32) (xa : Int32) (xb : Int32) (xc : Int32)  : Ci l g yX6_size wsX6_size ({ frames := 0, cells := 0, slots := 0, locals := 0 }) [.ref hO] [(hO, .inr (4, [.int xT, .int xB, .int xC, .ref qP, .int xP, .ref qN, .int xS, .ref qY, .ref qD, .int xA, .ref qR, .ref qM, .ref qT, .int xw, .int xa, .int xb, .int xc]))] (fun r u => r = sp_X6_size xS ∧ u = [(hO, .inr (4, [.int sp_X6_size_thrown, .int xB, .int xC, .ref qP, .int xP, .ref qN, .int xS, .ref qY, .ref qD, .int xA, .ref qR, .ref qM, .ref qT, .int xw, .int xa, .int xb, .int xc]))]) 0 0 := by
  intro sz
  refine Met.ofW (cc := cX6_size) (maxL := 1) (ret := (some .int)) (by decide) rfl ?_
  intro p e s m args below meth c s₁ B hml hv
  obtain ⟨rfl, hsz, hP, hK, hD0, hE, hN⟩ := hv
  have hx := B.exec
  have hb := B.bytes
  have hr := B.returns
  have hts := atoms_spec (ws := wsX6_size) B.pre
  have hown : s.vm.findClass RX6 = some m.cls := findClass_of_methodNamed B.named
  have hlocks := B.notSynchronized
  have iX6 : ∀ w ∈ u_ws RX6 TX6 17, w ∈ wsX6_size := by decide +kernel
  subst hsz
  have hD := hD0.self (sz := s.heap.size)
  generalize hAe : va_A [(hO, .inr (4, [.int xT, .int xB, .int xC, .ref qP, .int xP, .ref qN, .int xS, .ref qY, .ref qD, .int xA, .ref qR, .ref qM, .ref qT, .int xw, .int xa, .int xb, .int xc]))] s.heap.size = A at hD hE ⊢
  have hA : ∀ q : Nat, s.heap.size ≤ q → A q := fun q h => by rw [← hAe]; exact Or.inr h
  have hS : va_S A s.heap s.heap [] := va_S.rf
  have hl := lv_entry ([.ref hO]) (n := 1) (Nat.le_of_ble_eq_true rfl)
  rw [lg_entry_eq]
  generalize (lg_sl ([.ref hO]) ++ List.replicate (1 - (lg_sl ([.ref hO])).length) Slot.unset).toArray = ls at hl ⊢
  have hl : lv_has ls 1 [(0, .ref hO)] := hl
  refine lv_aload_n hx hb dX6_size_0 rfl (lv_at hl 0 rfl) ?_
  refine lv_iconst (v := 0) hx hb dX6_size_1 (by decide) ?_
  refine va_put (D := g.1) (ci := 4) (v := .int 0) (ty := .int) (C := RX6) (T := TX6) (N := 17) hx hb hts iX6 tyX6 tyX6_ok nmX6 hown hK hP hD hS 0 rfl rfl 0 (by decide) (hts (.fieldLink RX6 35 "FaultIsolationModel" "thrown" "I") (by decide +kernel)) (fun _ h9 => h9) rfl (by decide +kernel) rfl rfl (Nat.le_of_ble_eq_true rfl) dX6_size_2 (fun H locs hP hD hS => ?_)
  have hP : va_P g.1 vwCl [(hO, .inr (4, [.int 0, .int xB, .int xC, .ref qP, .int xP, .ref qN, .int xS, .ref qY, .ref qD, .int xA, .ref qR, .ref qM, .ref qT, .int xw, .int xa, .int xb, .int xc]))] H := hP
  have hD : va_D A [(hO, .inr (4, [.int 0, .int xB, .int xC, .ref qP, .int xP, .ref qN, .int xS, .ref qY, .ref qD, .int xA, .ref qR, .ref qM, .ref qT, .int xw, .int xa, .int xb, .int xc]))] := hD
  refine lv_aload_n hx hb dX6_size_5 rfl (lv_at hl 0 rfl) ?_
  refine va_get (D := g.1) (ci := 4) (v := .int xS) (C := RX6) (T := TX6) (N := 17) hx hb hts iX6 hown hK hP 0 rfl rfl 6 (by decide) (hts (.fieldLink RX6 109 "FaultIsolationModel" "size" "I") (by decide +kernel)) (fun _ h9 => h9) rfl dX6_size_6 ?_
  exact k_iret hx hb hr hlocks ⟨hK, hP, hD, hS, hA, hE, hN⟩ rfl dX6_size_9 (Nat.le_of_ble_eq_true rfl) (Nat.le_of_ble_eq_true rfl) ⟨rfl, rfl⟩
