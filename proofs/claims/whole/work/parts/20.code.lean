def sp_X5_isByte (v : Int32) : Int32 := if v < 0 then 0 else (if 255 < v then 0 else 1)
theorem sp_X5_isByte_b (v : Int32) : sp_X5_isByte v = 0 ∨ sp_X5_isByte v = 1 := by
  unfold sp_X5_isByte
  repeat' split
  all_goals first | (with_reducible exact Or.inl rfl) | (with_reducible exact Or.inr rfl)
set_option maxHeartbeats 4000000 in
set_option maxRecDepth 100000 in
theorem c_X5_isByte (l : Launch) (g : KG) (v : Int32)  : Ci l g yX5_isByte wsX5_isByte ({ frames := 0, cells := 0, slots := 0, locals := 0 }) [.int v] [] (fun r u => r = sp_X5_isByte v ∧ u = []) 0 0 := by
  intro sz
  refine Met.ofW (cc := cX5_isByte) (maxL := 1) (ret := (some .boolean)) (by decide) rfl ?_
  intro p e s m args below meth c s₁ B hml hv
  obtain ⟨rfl, hsz, hP, hK, hD0, hE, hN⟩ := hv
  have hx := B.exec
  have hb := B.bytes
  have hr := B.returns
  have hts := atoms_spec (ws := wsX5_isByte) B.pre
  have hown : s.vm.findClass RX5 = some m.cls := findClass_of_methodNamed B.named
  have hlocks := B.notSynchronized
  subst hsz
  have hD := hD0.self (sz := s.heap.size)
  generalize hAe : va_A [] s.heap.size = A at hD hE ⊢
  have hA : ∀ q : Nat, s.heap.size ≤ q → A q := fun q h => by rw [← hAe]; exact Or.inr h
  have hS : va_S A s.heap s.heap [] := va_S.rf
  have hl := lv_entry ([.int v]) (n := 1) (Nat.le_of_ble_eq_true rfl)
  rw [lg_entry_eq]
  generalize (lg_sl ([.int v]) ++ List.replicate (1 - (lg_sl ([.int v])).length) Slot.unset).toArray = ls at hl ⊢
  have hl : lv_has ls 1 [(0, .int v)] := hl
  refine lv_iload_n hx hb dX5_isByte_0 rfl (lv_at hl 0 rfl) ?_
  refine lv_if_lt (tgt := 15) hx hb dX5_isByte_1 (by decide) (fun c_0 => ?_) (fun c_0 => ?_)
  · skip
    refine lv_iconst (v := 0) hx hb dX5_isByte_15 (by decide) ?_
    exact k_iret hx hb hr hlocks ⟨hK, hP, hD, hS, hA, hE, hN⟩ rfl dX5_isByte_16 (Nat.le_of_ble_eq_true rfl) (Nat.le_of_ble_eq_true rfl) ⟨(by simp only [sp_X5_isByte, if_pos c_0]), rfl⟩
  · skip
    refine lv_iload_n hx hb dX5_isByte_4 rfl (lv_at hl 0 rfl) ?_
    refine lv_sipush (v := 255) hx hb dX5_isByte_5 (by decide) ?_
    refine lv_icmp_gt (tgt := 15) hx hb dX5_isByte_8 (by decide) (fun c_1 => ?_) (fun c_1 => ?_)
    · skip
      refine lv_iconst (v := 0) hx hb dX5_isByte_15 (by decide) ?_
      exact k_iret hx hb hr hlocks ⟨hK, hP, hD, hS, hA, hE, hN⟩ rfl dX5_isByte_16 (Nat.le_of_ble_eq_true rfl) (Nat.le_of_ble_eq_true rfl) ⟨(by simp only [sp_X5_isByte, if_neg c_0, if_pos c_1]), rfl⟩
    · skip
      refine lv_iconst (v := 1) hx hb dX5_isByte_11 (by decide) ?_
      refine lv_goto (tgt := 16) hx hb dX5_isByte_12 (by decide) ?_
      exact k_iret hx hb hr hlocks ⟨hK, hP, hD, hS, hA, hE, hN⟩ rfl dX5_isByte_16 (Nat.le_of_ble_eq_true rfl) (Nat.le_of_ble_eq_true rfl) ⟨(by simp only [sp_X5_isByte, if_neg c_0, if_neg c_1]), rfl⟩
def sp_X5_areBytes (word : Int32) (a : Int32) (b : Int32) (c0 : Int32) : Int32 := if (sp_X5_isByte word) = 0 then 0 else (if (sp_X5_isByte a) = 0 then 0 else (if (sp_X5_isByte b) = 0 then 0 else (if (sp_X5_isByte c0) = 0 then 0 else 1)))
theorem sp_X5_areBytes_b (word : Int32) (a : Int32) (b : Int32) (c0 : Int32) : sp_X5_areBytes word a b c0 = 0 ∨ sp_X5_areBytes word a b c0 = 1 := by
  unfold sp_X5_areBytes
  repeat' split
  all_goals first | (with_reducible exact Or.inl rfl) | (with_reducible exact Or.inr rfl) | (with_reducible apply sp_X5_isByte_b)
set_option maxHeartbeats 4000000 in
set_option maxRecDepth 100000 in
theorem c_X5_areBytes (l : Launch) (g : KG) (word : Int32) (a : Int32) (b : Int32) (c0 : Int32)  : Ci l g yX5_areBytes wsX5_areBytes ({ frames := 1, cells := 0, slots := 0, locals := 20 }) [.int word, .int a, .int b, .int c0] [] (fun r u => r = sp_X5_areBytes word a b c0 ∧ u = []) 0 0 := by
  intro sz
  refine Met.ofW (cc := cX5_areBytes) (maxL := 4) (ret := (some .boolean)) (by decide) rfl ?_
  intro p e s m args below meth c s₁ B hml hv
  obtain ⟨rfl, hsz, hP, hK, hD0, hE, hN⟩ := hv
  have hx := B.exec
  have hb := B.bytes
  have hr := B.returns
  have hts := atoms_spec (ws := wsX5_areBytes) B.pre
  have hown : s.vm.findClass RX5 = some m.cls := findClass_of_methodNamed B.named
  have hlocks := B.notSynchronized
  subst hsz
  have hD := hD0.self (sz := s.heap.size)
  generalize hAe : va_A [] s.heap.size = A at hD hE ⊢
  have hA : ∀ q : Nat, s.heap.size ≤ q → A q := fun q h => by rw [← hAe]; exact Or.inr h
  have hS : va_S A s.heap s.heap [] := va_S.rf
  have hl := lv_entry ([.int word, .int a, .int b, .int c0]) (n := 4) (Nat.le_of_ble_eq_true rfl)
  rw [lg_entry_eq]
  generalize (lg_sl ([.int word, .int a, .int b, .int c0]) ++ List.replicate (4 - (lg_sl ([.int word, .int a, .int b, .int c0])).length) Slot.unset).toArray = ls at hl ⊢
  have hl : lv_has ls 4 [(0, .int word), (1, .int a), (2, .int b), (3, .int c0)] := hl
  refine lv_iload_n hx hb dX5_areBytes_0 rfl (lv_at hl 0 rfl) ?_
  refine kiS (As := [.int word]) (rest := []) (wc := []) (wr := []) ⟨hx, hb, hml, hown, hts⟩ (c_X5_isByte l g word) (va_cwS 1 hts gX5_areBytes_X5_isByte rfl rfl rfl (by decide +kernel) ⟨Nat.le_of_ble_eq_true rfl, Nat.le_of_ble_eq_true rfl⟩) ⟨hK, hP, hD, hS, hA, hE, hN⟩ [] [] ⟨rfl, rfl, by decide⟩ rfl hl.1 (Nat.le_of_ble_eq_true rfl) dX5_areBytes_1 ⟨Nat.le_of_ble_eq_true rfl, Nat.le_of_ble_eq_true rfl⟩ rfl (fun r u H locs hw hP hD hS => ?_)
  obtain ⟨hq, hw⟩ := hw
  subst r
  subst hw
  have hP := hP.sub (ws' := []) [] rfl
  have hD := hD.sub (ws' := []) [] (by decide) rfl
  refine lv_if_eq (tgt := 32) hx hb dX5_areBytes_4 (by decide) (fun c_0 => ?_) (fun c_0 => ?_)
  · skip
    refine lv_iconst (v := 0) hx hb dX5_areBytes_32 (by decide) ?_
    exact k_iret hx hb hr hlocks ⟨hK, hP, hD, hS, hA, hE, hN⟩ rfl dX5_areBytes_33 (Nat.le_of_ble_eq_true rfl) (Nat.le_of_ble_eq_true rfl) ⟨(by simp only [sp_X5_areBytes, if_pos c_0]), rfl⟩
  · skip
    refine lv_iload_n hx hb dX5_areBytes_7 rfl (lv_at hl 1 rfl) ?_
    refine kiS (As := [.int a]) (rest := []) (wc := []) (wr := []) ⟨hx, hb, hml, hown, hts⟩ (c_X5_isByte l g a) (va_cwS 1 hts gX5_areBytes_X5_isByte rfl rfl rfl (by decide +kernel) ⟨Nat.le_of_ble_eq_true rfl, Nat.le_of_ble_eq_true rfl⟩) ⟨hK, hP, hD, hS, hA, hE, hN⟩ [] [] ⟨rfl, rfl, by decide⟩ rfl hl.1 (Nat.le_of_ble_eq_true rfl) dX5_areBytes_8 ⟨Nat.le_of_ble_eq_true rfl, Nat.le_of_ble_eq_true rfl⟩ rfl (fun r u H locs hw hP hD hS => ?_)
    obtain ⟨hq, hw⟩ := hw
    subst r
    subst hw
    have hP := hP.sub (ws' := []) [] rfl
    have hD := hD.sub (ws' := []) [] (by decide) rfl
    refine lv_if_eq (tgt := 32) hx hb dX5_areBytes_11 (by decide) (fun c_1 => ?_) (fun c_1 => ?_)
    · skip
      refine lv_iconst (v := 0) hx hb dX5_areBytes_32 (by decide) ?_
      exact k_iret hx hb hr hlocks ⟨hK, hP, hD, hS, hA, hE, hN⟩ rfl dX5_areBytes_33 (Nat.le_of_ble_eq_true rfl) (Nat.le_of_ble_eq_true rfl) ⟨(by simp only [sp_X5_areBytes, if_neg c_0, if_pos c_1]), rfl⟩
    · skip
      refine lv_iload_n hx hb dX5_areBytes_14 rfl (lv_at hl 2 rfl) ?_
      refine kiS (As := [.int b]) (rest := []) (wc := []) (wr := []) ⟨hx, hb, hml, hown, hts⟩ (c_X5_isByte l g b) (va_cwS 1 hts gX5_areBytes_X5_isByte rfl rfl rfl (by decide +kernel) ⟨Nat.le_of_ble_eq_true rfl, Nat.le_of_ble_eq_true rfl⟩) ⟨hK, hP, hD, hS, hA, hE, hN⟩ [] [] ⟨rfl, rfl, by decide⟩ rfl hl.1 (Nat.le_of_ble_eq_true rfl) dX5_areBytes_15 ⟨Nat.le_of_ble_eq_true rfl, Nat.le_of_ble_eq_true rfl⟩ rfl (fun r u H locs hw hP hD hS => ?_)
      obtain ⟨hq, hw⟩ := hw
      subst r
      subst hw
      have hP := hP.sub (ws' := []) [] rfl
      have hD := hD.sub (ws' := []) [] (by decide) rfl
      refine lv_if_eq (tgt := 32) hx hb dX5_areBytes_18 (by decide) (fun c_2 => ?_) (fun c_2 => ?_)
      · skip
        refine lv_iconst (v := 0) hx hb dX5_areBytes_32 (by decide) ?_
        exact k_iret hx hb hr hlocks ⟨hK, hP, hD, hS, hA, hE, hN⟩ rfl dX5_areBytes_33 (Nat.le_of_ble_eq_true rfl) (Nat.le_of_ble_eq_true rfl) ⟨(by simp only [sp_X5_areBytes, if_neg c_0, if_neg c_1, if_pos c_2]), rfl⟩
      · skip
        refine lv_iload_n hx hb dX5_areBytes_21 rfl (lv_at hl 3 rfl) ?_
        refine kiS (As := [.int c0]) (rest := []) (wc := []) (wr := []) ⟨hx, hb, hml, hown, hts⟩ (c_X5_isByte l g c0) (va_cwS 1 hts gX5_areBytes_X5_isByte rfl rfl rfl (by decide +kernel) ⟨Nat.le_of_ble_eq_true rfl, Nat.le_of_ble_eq_true rfl⟩) ⟨hK, hP, hD, hS, hA, hE, hN⟩ [] [] ⟨rfl, rfl, by decide⟩ rfl hl.1 (Nat.le_of_ble_eq_true rfl) dX5_areBytes_22 ⟨Nat.le_of_ble_eq_true rfl, Nat.le_of_ble_eq_true rfl⟩ rfl (fun r u H locs hw hP hD hS => ?_)
        obtain ⟨hq, hw⟩ := hw
        subst r
        subst hw
        have hP := hP.sub (ws' := []) [] rfl
        have hD := hD.sub (ws' := []) [] (by decide) rfl
        refine lv_if_eq (tgt := 32) hx hb dX5_areBytes_25 (by decide) (fun c_3 => ?_) (fun c_3 => ?_)
        · skip
          refine lv_iconst (v := 0) hx hb dX5_areBytes_32 (by decide) ?_
          exact k_iret hx hb hr hlocks ⟨hK, hP, hD, hS, hA, hE, hN⟩ rfl dX5_areBytes_33 (Nat.le_of_ble_eq_true rfl) (Nat.le_of_ble_eq_true rfl) ⟨(by simp only [sp_X5_areBytes, if_neg c_0, if_neg c_1, if_neg c_2, if_pos c_3]), rfl⟩
        · skip
          refine lv_iconst (v := 1) hx hb dX5_areBytes_28 (by decide) ?_
          refine lv_goto (tgt := 33) hx hb dX5_areBytes_29 (by decide) ?_
          exact k_iret hx hb hr hlocks ⟨hK, hP, hD, hS, hA, hE, hN⟩ rfl dX5_areBytes_33 (Nat.le_of_ble_eq_true rfl) (Nat.le_of_ble_eq_true rfl) ⟨(by simp only [sp_X5_areBytes, if_neg c_0, if_neg c_1, if_neg c_2, if_neg c_3]), rfl⟩
def sp_X5_isRegister (r0 : Int32) : Int32 := if r0 < 0 then 0 else (if 8 ≤ r0 then 0 else 1)
theorem sp_X5_isRegister_b (r0 : Int32) : sp_X5_isRegister r0 = 0 ∨ sp_X5_isRegister r0 = 1 := by
  unfold sp_X5_isRegister
  repeat' split
  all_goals first | (with_reducible exact Or.inl rfl) | (with_reducible exact Or.inr rfl)
set_option maxHeartbeats 4000000 in
set_option maxRecDepth 100000 in
theorem c_X5_isRegister (l : Launch) (g : KG) (r0 : Int32)  : Ci l g yX5_isRegister wsX5_isRegister ({ frames := 0, cells := 0, slots := 0, locals := 0 }) [.int r0] [] (fun r u => r = sp_X5_isRegister r0 ∧ u = []) 0 0 := by
  intro sz
  refine Met.ofW (cc := cX5_isRegister) (maxL := 1) (ret := (some .boolean)) (by decide) rfl ?_
  intro p e s m args below meth c s₁ B hml hv
  obtain ⟨rfl, hsz, hP, hK, hD0, hE, hN⟩ := hv
  have hx := B.exec
  have hb := B.bytes
  have hr := B.returns
  have hts := atoms_spec (ws := wsX5_isRegister) B.pre
  have hown : s.vm.findClass RX5 = some m.cls := findClass_of_methodNamed B.named
  have hlocks := B.notSynchronized
  subst hsz
  have hD := hD0.self (sz := s.heap.size)
  generalize hAe : va_A [] s.heap.size = A at hD hE ⊢
  have hA : ∀ q : Nat, s.heap.size ≤ q → A q := fun q h => by rw [← hAe]; exact Or.inr h
  have hS : va_S A s.heap s.heap [] := va_S.rf
  have hl := lv_entry ([.int r0]) (n := 1) (Nat.le_of_ble_eq_true rfl)
  rw [lg_entry_eq]
  generalize (lg_sl ([.int r0]) ++ List.replicate (1 - (lg_sl ([.int r0])).length) Slot.unset).toArray = ls at hl ⊢
  have hl : lv_has ls 1 [(0, .int r0)] := hl
  refine lv_iload_n hx hb dX5_isRegister_0 rfl (lv_at hl 0 rfl) ?_
  refine lv_if_lt (tgt := 14) hx hb dX5_isRegister_1 (by decide) (fun c_0 => ?_) (fun c_0 => ?_)
  · skip
    refine lv_iconst (v := 0) hx hb dX5_isRegister_14 (by decide) ?_
    exact k_iret hx hb hr hlocks ⟨hK, hP, hD, hS, hA, hE, hN⟩ rfl dX5_isRegister_15 (Nat.le_of_ble_eq_true rfl) (Nat.le_of_ble_eq_true rfl) ⟨(by simp only [sp_X5_isRegister, if_pos c_0]), rfl⟩
  · skip
    refine lv_iload_n hx hb dX5_isRegister_4 rfl (lv_at hl 0 rfl) ?_
    refine lv_bipush (v := 8) hx hb dX5_isRegister_5 (by decide) ?_
    refine lv_icmp_ge (tgt := 14) hx hb dX5_isRegister_7 (by decide) (fun c_1 => ?_) (fun c_1 => ?_)
    · skip
      refine lv_iconst (v := 0) hx hb dX5_isRegister_14 (by decide) ?_
      exact k_iret hx hb hr hlocks ⟨hK, hP, hD, hS, hA, hE, hN⟩ rfl dX5_isRegister_15 (Nat.le_of_ble_eq_true rfl) (Nat.le_of_ble_eq_true rfl) ⟨(by simp only [sp_X5_isRegister, if_neg c_0, if_pos c_1]), rfl⟩
    · skip
      refine lv_iconst (v := 1) hx hb dX5_isRegister_10 (by decide) ?_
      refine lv_goto (tgt := 15) hx hb dX5_isRegister_11 (by decide) ?_
      exact k_iret hx hb hr hlocks ⟨hK, hP, hD, hS, hA, hE, hN⟩ rfl dX5_isRegister_15 (Nat.le_of_ble_eq_true rfl) (Nat.le_of_ble_eq_true rfl) ⟨(by simp only [sp_X5_isRegister, if_neg c_0, if_neg c_1]), rfl⟩
def sp_X5_isInMemory (i : Int32) : Int32 := if i < 0 then 0 else (if 4096 ≤ i then 0 else 1)
theorem sp_X5_isInMemory_b (i : Int32) : sp_X5_isInMemory i = 0 ∨ sp_X5_isInMemory i = 1 := by
  unfold sp_X5_isInMemory
  repeat' split
  all_goals first | (with_reducible exact Or.inl rfl) | (with_reducible exact Or.inr rfl)
set_option maxHeartbeats 4000000 in
set_option maxRecDepth 100000 in
theorem c_X5_isInMemory (l : Launch) (g : KG) (i : Int32)  : Ci l g yX5_isInMemory wsX5_isInMemory ({ frames := 0, cells := 0, slots := 0, locals := 0 }) [.int i] [] (fun r u => r = sp_X5_isInMemory i ∧ u = []) 0 0 := by
  intro sz
  refine Met.ofW (cc := cX5_isInMemory) (maxL := 1) (ret := (some .boolean)) (by decide) rfl ?_
  intro p e s m args below meth c s₁ B hml hv
  obtain ⟨rfl, hsz, hP, hK, hD0, hE, hN⟩ := hv
  have hx := B.exec
  have hb := B.bytes
  have hr := B.returns
  have hts := atoms_spec (ws := wsX5_isInMemory) B.pre
  have hown : s.vm.findClass RX5 = some m.cls := findClass_of_methodNamed B.named
  have hlocks := B.notSynchronized
  subst hsz
  have hD := hD0.self (sz := s.heap.size)
  generalize hAe : va_A [] s.heap.size = A at hD hE ⊢
  have hA : ∀ q : Nat, s.heap.size ≤ q → A q := fun q h => by rw [← hAe]; exact Or.inr h
  have hS : va_S A s.heap s.heap [] := va_S.rf
  have hl := lv_entry ([.int i]) (n := 1) (Nat.le_of_ble_eq_true rfl)
  rw [lg_entry_eq]
  generalize (lg_sl ([.int i]) ++ List.replicate (1 - (lg_sl ([.int i])).length) Slot.unset).toArray = ls at hl ⊢
  have hl : lv_has ls 1 [(0, .int i)] := hl
  refine lv_iload_n hx hb dX5_isInMemory_0 rfl (lv_at hl 0 rfl) ?_
  refine lv_if_lt (tgt := 15) hx hb dX5_isInMemory_1 (by decide) (fun c_0 => ?_) (fun c_0 => ?_)
  · skip
    refine lv_iconst (v := 0) hx hb dX5_isInMemory_15 (by decide) ?_
    exact k_iret hx hb hr hlocks ⟨hK, hP, hD, hS, hA, hE, hN⟩ rfl dX5_isInMemory_16 (Nat.le_of_ble_eq_true rfl) (Nat.le_of_ble_eq_true rfl) ⟨(by simp only [sp_X5_isInMemory, if_pos c_0]), rfl⟩
  · skip
    refine lv_iload_n hx hb dX5_isInMemory_4 rfl (lv_at hl 0 rfl) ?_
    refine lv_sipush (v := 4096) hx hb dX5_isInMemory_5 (by decide) ?_
    refine lv_icmp_ge (tgt := 15) hx hb dX5_isInMemory_8 (by decide) (fun c_1 => ?_) (fun c_1 => ?_)
    · skip
      refine lv_iconst (v := 0) hx hb dX5_isInMemory_15 (by decide) ?_
      exact k_iret hx hb hr hlocks ⟨hK, hP, hD, hS, hA, hE, hN⟩ rfl dX5_isInMemory_16 (Nat.le_of_ble_eq_true rfl) (Nat.le_of_ble_eq_true rfl) ⟨(by simp only [sp_X5_isInMemory, if_neg c_0, if_pos c_1]), rfl⟩
    · skip
      refine lv_iconst (v := 1) hx hb dX5_isInMemory_11 (by decide) ?_
      refine lv_goto (tgt := 16) hx hb dX5_isInMemory_12 (by decide) ?_
      exact k_iret hx hb hr hlocks ⟨hK, hP, hD, hS, hA, hE, hN⟩ rfl dX5_isInMemory_16 (Nat.le_of_ble_eq_true rfl) (Nat.le_of_ble_eq_true rfl) ⟨(by simp only [sp_X5_isInMemory, if_neg c_0, if_neg c_1]), rfl⟩
def sp_X5_isBundleStart (i : Int32) : Int32 := if (i - i / 16 * 16) = 0 then 1 else 0
theorem sp_X5_isBundleStart_b (i : Int32) : sp_X5_isBundleStart i = 0 ∨ sp_X5_isBundleStart i = 1 := by
  unfold sp_X5_isBundleStart
  repeat' split
  all_goals first | (with_reducible exact Or.inl rfl) | (with_reducible exact Or.inr rfl)
set_option maxHeartbeats 4000000 in
set_option maxRecDepth 100000 in
theorem c_X5_isBundleStart (l : Launch) (g : KG) (i : Int32)  : Ci l g yX5_isBundleStart wsX5_isBundleStart ({ frames := 0, cells := 0, slots := 0, locals := 0 }) [.int i] [] (fun r u => r = sp_X5_isBundleStart i ∧ u = []) 0 0 := by
  intro sz
  refine Met.ofW (cc := cX5_isBundleStart) (maxL := 1) (ret := (some .boolean)) (by decide) rfl ?_
  intro p e s m args below meth c s₁ B hml hv
  obtain ⟨rfl, hsz, hP, hK, hD0, hE, hN⟩ := hv
  have hx := B.exec
  have hb := B.bytes
  have hr := B.returns
  have hts := atoms_spec (ws := wsX5_isBundleStart) B.pre
  have hown : s.vm.findClass RX5 = some m.cls := findClass_of_methodNamed B.named
  have hlocks := B.notSynchronized
  subst hsz
  have hD := hD0.self (sz := s.heap.size)
  generalize hAe : va_A [] s.heap.size = A at hD hE ⊢
  have hA : ∀ q : Nat, s.heap.size ≤ q → A q := fun q h => by rw [← hAe]; exact Or.inr h
  have hS : va_S A s.heap s.heap [] := va_S.rf
  have hl := lv_entry ([.int i]) (n := 1) (Nat.le_of_ble_eq_true rfl)
  rw [lg_entry_eq]
  generalize (lg_sl ([.int i]) ++ List.replicate (1 - (lg_sl ([.int i])).length) Slot.unset).toArray = ls at hl ⊢
  have hl : lv_has ls 1 [(0, .int i)] := hl
  refine lv_iload_n hx hb dX5_isBundleStart_0 rfl (lv_at hl 0 rfl) ?_
  refine lv_bipush (v := 16) hx hb dX5_isBundleStart_1 (by decide) ?_
  refine lv_irem hx hb dX5_isBundleStart_3 (by decide) ?_
  refine lv_if_ne (tgt := 11) hx hb dX5_isBundleStart_4 (by decide) (fun c_0 => ?_) (fun c_0 => ?_)
  · skip
    refine lv_iconst (v := 0) hx hb dX5_isBundleStart_11 (by decide) ?_
    exact k_iret hx hb hr hlocks ⟨hK, hP, hD, hS, hA, hE, hN⟩ rfl dX5_isBundleStart_12 (Nat.le_of_ble_eq_true rfl) (Nat.le_of_ble_eq_true rfl) ⟨(by simp only [sp_X5_isBundleStart, if_neg c_0]), rfl⟩
  · skip
    refine lv_iconst (v := 1) hx hb dX5_isBundleStart_7 (by decide) ?_
    refine lv_goto (tgt := 12) hx hb dX5_isBundleStart_8 (by decide) ?_
    exact k_iret hx hb hr hlocks ⟨hK, hP, hD, hS, hA, hE, hN⟩ rfl dX5_isBundleStart_12 (Nat.le_of_ble_eq_true rfl) (Nat.le_of_ble_eq_true rfl) ⟨(by simp only [sp_X5_isBundleStart, if_pos c_0]), rfl⟩
def sp_X5_hasPlace (i : Int32) : Int32 := if i = 12 then 1 else (if i = 13 then 1 else (if i = 15 then 1 else (if i = 18 then 1 else 0)))
theorem sp_X5_hasPlace_b (i : Int32) : sp_X5_hasPlace i = 0 ∨ sp_X5_hasPlace i = 1 := by
  unfold sp_X5_hasPlace
  repeat' split
  all_goals first | (with_reducible exact Or.inl rfl) | (with_reducible exact Or.inr rfl)
set_option maxHeartbeats 4000000 in
set_option maxRecDepth 100000 in
theorem c_X5_hasPlace (l : Launch) (g : KG) (i : Int32)  : Ci l g yX5_hasPlace wsX5_hasPlace ({ frames := 0, cells := 0, slots := 0, locals := 0 }) [.int i] [] (fun r u => r = sp_X5_hasPlace i ∧ u = []) 0 0 := by
  intro sz
  refine Met.ofW (cc := cX5_hasPlace) (maxL := 1) (ret := (some .boolean)) (by decide) rfl ?_
  intro p e s m args below meth c s₁ B hml hv
  obtain ⟨rfl, hsz, hP, hK, hD0, hE, hN⟩ := hv
  have hx := B.exec
  have hb := B.bytes
  have hr := B.returns
  have hts := atoms_spec (ws := wsX5_hasPlace) B.pre
  have hown : s.vm.findClass RX5 = some m.cls := findClass_of_methodNamed B.named
  have hlocks := B.notSynchronized
  subst hsz
  have hD := hD0.self (sz := s.heap.size)
  generalize hAe : va_A [] s.heap.size = A at hD hE ⊢
  have hA : ∀ q : Nat, s.heap.size ≤ q → A q := fun q h => by rw [← hAe]; exact Or.inr h
  have hS : va_S A s.heap s.heap [] := va_S.rf
  have hl := lv_entry ([.int i]) (n := 1) (Nat.le_of_ble_eq_true rfl)
  rw [lg_entry_eq]
  generalize (lg_sl ([.int i]) ++ List.replicate (1 - (lg_sl ([.int i])).length) Slot.unset).toArray = ls at hl ⊢
  have hl : lv_has ls 1 [(0, .int i)] := hl
  refine lv_iload_n hx hb dX5_hasPlace_0 rfl (lv_at hl 0 rfl) ?_
  refine lv_bipush (v := 12) hx hb dX5_hasPlace_1 (by decide) ?_
  refine lv_icmp_eq (tgt := 24) hx hb dX5_hasPlace_3 (by decide) (fun c_0 => ?_) (fun c_0 => ?_)
  · skip
    refine lv_iconst (v := 1) hx hb dX5_hasPlace_24 (by decide) ?_
    refine lv_goto (tgt := 29) hx hb dX5_hasPlace_25 (by decide) ?_
    exact k_iret hx hb hr hlocks ⟨hK, hP, hD, hS, hA, hE, hN⟩ rfl dX5_hasPlace_29 (Nat.le_of_ble_eq_true rfl) (Nat.le_of_ble_eq_true rfl) ⟨(by simp only [sp_X5_hasPlace, if_pos c_0]), rfl⟩
  · skip
    refine lv_iload_n hx hb dX5_hasPlace_6 rfl (lv_at hl 0 rfl) ?_
    refine lv_bipush (v := 13) hx hb dX5_hasPlace_7 (by decide) ?_
    refine lv_icmp_eq (tgt := 24) hx hb dX5_hasPlace_9 (by decide) (fun c_1 => ?_) (fun c_1 => ?_)
    · skip
      refine lv_iconst (v := 1) hx hb dX5_hasPlace_24 (by decide) ?_
      refine lv_goto (tgt := 29) hx hb dX5_hasPlace_25 (by decide) ?_
      exact k_iret hx hb hr hlocks ⟨hK, hP, hD, hS, hA, hE, hN⟩ rfl dX5_hasPlace_29 (Nat.le_of_ble_eq_true rfl) (Nat.le_of_ble_eq_true rfl) ⟨(by simp only [sp_X5_hasPlace, if_neg c_0, if_pos c_1]), rfl⟩
    · skip
      refine lv_iload_n hx hb dX5_hasPlace_12 rfl (lv_at hl 0 rfl) ?_
      refine lv_bipush (v := 15) hx hb dX5_hasPlace_13 (by decide) ?_
      refine lv_icmp_eq (tgt := 24) hx hb dX5_hasPlace_15 (by decide) (fun c_2 => ?_) (fun c_2 => ?_)
      · skip
        refine lv_iconst (v := 1) hx hb dX5_hasPlace_24 (by decide) ?_
        refine lv_goto (tgt := 29) hx hb dX5_hasPlace_25 (by decide) ?_
        exact k_iret hx hb hr hlocks ⟨hK, hP, hD, hS, hA, hE, hN⟩ rfl dX5_hasPlace_29 (Nat.le_of_ble_eq_true rfl) (Nat.le_of_ble_eq_true rfl) ⟨(by simp only [sp_X5_hasPlace, if_neg c_0, if_neg c_1, if_pos c_2]), rfl⟩
      · skip
        refine lv_iload_n hx hb dX5_hasPlace_18 rfl (lv_at hl 0 rfl) ?_
        refine lv_bipush (v := 18) hx hb dX5_hasPlace_19 (by decide) ?_
        refine lv_icmp_ne (tgt := 28) hx hb dX5_hasPlace_21 (by decide) (fun c_3 => ?_) (fun c_3 => ?_)
        · skip
          refine lv_iconst (v := 0) hx hb dX5_hasPlace_28 (by decide) ?_
          exact k_iret hx hb hr hlocks ⟨hK, hP, hD, hS, hA, hE, hN⟩ rfl dX5_hasPlace_29 (Nat.le_of_ble_eq_true rfl) (Nat.le_of_ble_eq_true rfl) ⟨(by simp only [sp_X5_hasPlace, if_neg c_0, if_neg c_1, if_neg c_2, if_neg c_3]), rfl⟩
        · skip
          refine lv_iconst (v := 1) hx hb dX5_hasPlace_24 (by decide) ?_
          refine lv_goto (tgt := 29) hx hb dX5_hasPlace_25 (by decide) ?_
          exact k_iret hx hb hr hlocks ⟨hK, hP, hD, hS, hA, hE, hN⟩ rfl dX5_hasPlace_29 (Nat.le_of_ble_eq_true rfl) (Nat.le_of_ble_eq_true rfl) ⟨(by simp only [sp_X5_hasPlace, if_neg c_0, if_neg c_1, if_neg c_2, if_pos c_3]), rfl⟩
def sp_X5_registersOf (i : Int32) : Int32 := if i < 0 then 0 else (if 19 ≤ i then 0 else (kT i.toNatClampNeg))
set_option maxHeartbeats 4000000 in
set_option maxRecDepth 100000 in
theorem c_X5_registersOf (l : Launch) (g : KG) (i : Int32)  : Ci l g yX5_registersOf wsX5_registersOf ({ frames := 0, cells := 0, slots := 0, locals := 0 }) [.int i] [] (fun r u => r = sp_X5_registersOf i ∧ u = []) 0 0 := by
  intro sz
  refine Met.ofW (cc := cX5_registersOf) (maxL := 1) (ret := (some .int)) (by decide) rfl ?_
  intro p e s m args below meth c s₁ B hml hv
  obtain ⟨rfl, hsz, hP, hK, hD0, hE, hN⟩ := hv
  have hx := B.exec
  have hb := B.bytes
  have hr := B.returns
  have hts := atoms_spec (ws := wsX5_registersOf) B.pre
  have hown : s.vm.findClass RX5 = some m.cls := findClass_of_methodNamed B.named
  have hlocks := B.notSynchronized
  subst hsz
  have hD := hD0.self (sz := s.heap.size)
  generalize hAe : va_A [] s.heap.size = A at hD hE ⊢
  have hA : ∀ q : Nat, s.heap.size ≤ q → A q := fun q h => by rw [← hAe]; exact Or.inr h
  have hS : va_S A s.heap s.heap [] := va_S.rf
  have hl := lv_entry ([.int i]) (n := 1) (Nat.le_of_ble_eq_true rfl)
  rw [lg_entry_eq]
  generalize (lg_sl ([.int i]) ++ List.replicate (1 - (lg_sl ([.int i])).length) Slot.unset).toArray = ls at hl ⊢
  have hl : lv_has ls 1 [(0, .int i)] := hl
  refine lv_iload_n hx hb dX5_registersOf_0 rfl (lv_at hl 0 rfl) ?_
  refine lv_if_lt (tgt := 20) hx hb dX5_registersOf_1 (by decide) (fun c_0 => ?_) (fun c_0 => ?_)
  · skip
    refine lv_iconst (v := 0) hx hb dX5_registersOf_20 (by decide) ?_
    exact k_iret hx hb hr hlocks ⟨hK, hP, hD, hS, hA, hE, hN⟩ rfl dX5_registersOf_21 (Nat.le_of_ble_eq_true rfl) (Nat.le_of_ble_eq_true rfl) ⟨(by simp only [sp_X5_registersOf, if_pos c_0]), rfl⟩
  · skip
    refine lv_iload_n hx hb dX5_registersOf_4 rfl (lv_at hl 0 rfl) ?_
    refine va_gets hx hb hE.1 hS hown (hts (.fieldLink RX5 182 "FaultIsolation" "REGISTERS_OF_WORD" "[I") (by decide +kernel)) (fun _ h9 => h9) dX5_registersOf_5 ?_
    refine va_tlen (v := 19) hx hb hE.2.1 hS rfl dX5_registersOf_8 ?_
    refine lv_icmp_ge (tgt := 20) hx hb dX5_registersOf_9 (by decide) (fun c_1 => ?_) (fun c_1 => ?_)
    · skip
      refine lv_iconst (v := 0) hx hb dX5_registersOf_20 (by decide) ?_
      exact k_iret hx hb hr hlocks ⟨hK, hP, hD, hS, hA, hE, hN⟩ rfl dX5_registersOf_21 (Nat.le_of_ble_eq_true rfl) (Nat.le_of_ble_eq_true rfl) ⟨(by simp only [sp_X5_registersOf, if_neg c_0, if_pos c_1]), rfl⟩
    · skip
      refine va_gets hx hb hE.1 hS hown (hts (.fieldLink RX5 182 "FaultIsolation" "REGISTERS_OF_WORD" "[I") (by decide +kernel)) (fun _ h9 => h9) dX5_registersOf_12 ?_
      refine lv_iload_n hx hb dX5_registersOf_15 rfl (lv_at hl 0 rfl) ?_
      refine va_ti (v := .int (kT i.toNatClampNeg)) hx hb hE.2.1 hS (k_in c_0 c_1 (by decide)) rfl dX5_registersOf_16 ?_
      refine lv_goto (tgt := 21) hx hb dX5_registersOf_17 (by decide) ?_
      exact k_iret hx hb hr hlocks ⟨hK, hP, hD, hS, hA, hE, hN⟩ rfl dX5_registersOf_21 (Nat.le_of_ble_eq_true rfl) (Nat.le_of_ble_eq_true rfl) ⟨(by simp only [sp_X5_registersOf, if_neg c_0, if_neg c_1]), rfl⟩
def sp_X3_isProgramWord (i : Int32) : Int32 := if i < 0 then (if i = 18 then 1 else 0) else (if i ≤ 15 then 1 else (if i = 18 then 1 else 0))
theorem sp_X3_isProgramWord_b (i : Int32) : sp_X3_isProgramWord i = 0 ∨ sp_X3_isProgramWord i = 1 := by
  unfold sp_X3_isProgramWord
  repeat' split
  all_goals first | (with_reducible exact Or.inl rfl) | (with_reducible exact Or.inr rfl)
set_option maxHeartbeats 4000000 in
set_option maxRecDepth 100000 in
theorem c_X3_isProgramWord (l : Launch) (g : KG) (i : Int32)  : Ci l g yX3_isProgramWord wsX3_isProgramWord ({ frames := 0, cells := 0, slots := 0, locals := 0 }) [.int i] [] (fun r u => r = sp_X3_isProgramWord i ∧ u = []) 0 0 := by
  intro sz
  refine Met.ofW (cc := cX3_isProgramWord) (maxL := 1) (ret := (some .boolean)) (by decide) rfl ?_
  intro p e s m args below meth c s₁ B hml hv
  obtain ⟨rfl, hsz, hP, hK, hD0, hE, hN⟩ := hv
  have hx := B.exec
  have hb := B.bytes
  have hr := B.returns
  have hts := atoms_spec (ws := wsX3_isProgramWord) B.pre
  have hown : s.vm.findClass RX3 = some m.cls := findClass_of_methodNamed B.named
  have hlocks := B.notSynchronized
  subst hsz
  have hD := hD0.self (sz := s.heap.size)
  generalize hAe : va_A [] s.heap.size = A at hD hE ⊢
  have hA : ∀ q : Nat, s.heap.size ≤ q → A q := fun q h => by rw [← hAe]; exact Or.inr h
  have hS : va_S A s.heap s.heap [] := va_S.rf
  have hl := lv_entry ([.int i]) (n := 1) (Nat.le_of_ble_eq_true rfl)
  rw [lg_entry_eq]
  generalize (lg_sl ([.int i]) ++ List.replicate (1 - (lg_sl ([.int i])).length) Slot.unset).toArray = ls at hl ⊢
  have hl : lv_has ls 1 [(0, .int i)] := hl
  refine lv_iload_n hx hb dX3_isProgramWord_0 rfl (lv_at hl 0 rfl) ?_
  refine lv_if_lt (tgt := 10) hx hb dX3_isProgramWord_1 (by decide) (fun c_0 => ?_) (fun c_0 => ?_)
  · skip
    refine lv_iload_n hx hb dX3_isProgramWord_10 rfl (lv_at hl 0 rfl) ?_
    refine lv_bipush (v := 18) hx hb dX3_isProgramWord_11 (by decide) ?_
    refine lv_icmp_ne (tgt := 20) hx hb dX3_isProgramWord_13 (by decide) (fun c_1 => ?_) (fun c_1 => ?_)
    · skip
      refine lv_iconst (v := 0) hx hb dX3_isProgramWord_20 (by decide) ?_
      exact k_iret hx hb hr hlocks ⟨hK, hP, hD, hS, hA, hE, hN⟩ rfl dX3_isProgramWord_21 (Nat.le_of_ble_eq_true rfl) (Nat.le_of_ble_eq_true rfl) ⟨(by simp only [sp_X3_isProgramWord, if_pos c_0, if_neg c_1]), rfl⟩
    · skip
      refine lv_iconst (v := 1) hx hb dX3_isProgramWord_16 (by decide) ?_
      refine lv_goto (tgt := 21) hx hb dX3_isProgramWord_17 (by decide) ?_
      exact k_iret hx hb hr hlocks ⟨hK, hP, hD, hS, hA, hE, hN⟩ rfl dX3_isProgramWord_21 (Nat.le_of_ble_eq_true rfl) (Nat.le_of_ble_eq_true rfl) ⟨(by simp only [sp_X3_isProgramWord, if_pos c_0, if_pos c_1]), rfl⟩
  · skip
    refine lv_iload_n hx hb dX3_isProgramWord_4 rfl (lv_at hl 0 rfl) ?_
    refine lv_bipush (v := 15) hx hb dX3_isProgramWord_5 (by decide) ?_
    refine lv_icmp_le (tgt := 16) hx hb dX3_isProgramWord_7 (by decide) (fun c_2 => ?_) (fun c_2 => ?_)
    · skip
      refine lv_iconst (v := 1) hx hb dX3_isProgramWord_16 (by decide) ?_
      refine lv_goto (tgt := 21) hx hb dX3_isProgramWord_17 (by decide) ?_
      exact k_iret hx hb hr hlocks ⟨hK, hP, hD, hS, hA, hE, hN⟩ rfl dX3_isProgramWord_21 (Nat.le_of_ble_eq_true rfl) (Nat.le_of_ble_eq_true rfl) ⟨(by simp only [sp_X3_isProgramWord, if_neg c_0, if_pos c_2]), rfl⟩
    · skip
      refine lv_iload_n hx hb dX3_isProgramWord_10 rfl (lv_at hl 0 rfl) ?_
      refine lv_bipush (v := 18) hx hb dX3_isProgramWord_11 (by decide) ?_
      refine lv_icmp_ne (tgt := 20) hx hb dX3_isProgramWord_13 (by decide) (fun c_3 => ?_) (fun c_3 => ?_)
      · skip
        refine lv_iconst (v := 0) hx hb dX3_isProgramWord_20 (by decide) ?_
        exact k_iret hx hb hr hlocks ⟨hK, hP, hD, hS, hA, hE, hN⟩ rfl dX3_isProgramWord_21 (Nat.le_of_ble_eq_true rfl) (Nat.le_of_ble_eq_true rfl) ⟨(by simp only [sp_X3_isProgramWord, if_neg c_0, if_neg c_2, if_neg c_3]), rfl⟩
      · skip
        refine lv_iconst (v := 1) hx hb dX3_isProgramWord_16 (by decide) ?_
        refine lv_goto (tgt := 21) hx hb dX3_isProgramWord_17 (by decide) ?_
        exact k_iret hx hb hr hlocks ⟨hK, hP, hD, hS, hA, hE, hN⟩ rfl dX3_isProgramWord_21 (Nat.le_of_ble_eq_true rfl) (Nat.le_of_ble_eq_true rfl) ⟨(by simp only [sp_X3_isProgramWord, if_neg c_0, if_neg c_2, if_pos c_3]), rfl⟩
def sp_X0_length (len : Int32) : Int32 := len
set_option maxHeartbeats 4000000 in
set_option maxRecDepth 100000 in
theorem c_X0_length (l : Launch) (g : KG) (h : Nat) (q : Nat) (N : Nat) (f : Nat → Int32) (len : Int32) (hNn : N < 2 ^ 31) : Ci l g yX0_length wsX0_length ({ frames := 0, cells := 0, slots := 0, locals := 0 }) [.ref h] [(h, .inr (0, [.ref q, .int len])), (q, .inl (g.2.1.1, N, .inl f))] (fun r u => r = sp_X0_length len ∧ u = [(h, .inr (0, [.ref q, .int len])), (q, .inl (g.2.1.1, N, .inl f))]) 0 0 := by
  intro sz
  refine Met.ofW (cc := cX0_length) (maxL := 1) (ret := (some .int)) (by decide) rfl ?_
  intro p e s m args below meth c s₁ B hml hv
  obtain ⟨rfl, hsz, hP, hK, hD0, hE, hN⟩ := hv
  have hx := B.exec
  have hb := B.bytes
  have hr := B.returns
  have hts := atoms_spec (ws := wsX0_length) B.pre
  have hown : s.vm.findClass RX0 = some m.cls := findClass_of_methodNamed B.named
  have hlocks := B.notSynchronized
  have iX0 : ∀ w ∈ u_ws RX0 TX0 2, w ∈ wsX0_length := by decide +kernel
  subst hsz
  have hD := hD0.self (sz := s.heap.size)
  generalize hAe : va_A [(h, .inr (0, [.ref q, .int len])), (q, .inl (g.2.1.1, N, .inl f))] s.heap.size = A at hD hE ⊢
  have hA : ∀ q : Nat, s.heap.size ≤ q → A q := fun q h => by rw [← hAe]; exact Or.inr h
  have hS : va_S A s.heap s.heap [] := va_S.rf
  have hl := lv_entry ([.ref h]) (n := 1) (Nat.le_of_ble_eq_true rfl)
  rw [lg_entry_eq]
  generalize (lg_sl ([.ref h]) ++ List.replicate (1 - (lg_sl ([.ref h])).length) Slot.unset).toArray = ls at hl ⊢
  have hl : lv_has ls 1 [(0, .ref h)] := hl
  refine lv_aload_n hx hb dX0_length_0 rfl (lv_at hl 0 rfl) ?_
  refine va_get (D := g.1) (ci := 0) (v := .int len) (C := RX0) (T := TX0) (N := 2) hx hb hts iX0 hown hK hP 0 rfl rfl 1 (by decide) (hts (.fieldLink RX0 21 "FaultIsolation$Code" "length" "I") (by decide +kernel)) (fun _ h9 => h9) rfl dX0_length_1 ?_
  exact k_iret hx hb hr hlocks ⟨hK, hP, hD, hS, hA, hE, hN⟩ rfl dX0_length_4 (Nat.le_of_ble_eq_true rfl) (Nat.le_of_ble_eq_true rfl) ⟨rfl, rfl⟩
def sp_X0_instructions (len : Int32) : Int32 := len / 4
set_option maxHeartbeats 4000000 in
set_option maxRecDepth 100000 in
theorem c_X0_instructions (l : Launch) (g : KG) (h : Nat) (q : Nat) (N : Nat) (f : Nat → Int32) (len : Int32) (hNn : N < 2 ^ 31) : Ci l g yX0_instructions wsX0_instructions ({ frames := 0, cells := 0, slots := 0, locals := 0 }) [.ref h] [(h, .inr (0, [.ref q, .int len])), (q, .inl (g.2.1.1, N, .inl f))] (fun r u => r = sp_X0_instructions len ∧ u = [(h, .inr (0, [.ref q, .int len])), (q, .inl (g.2.1.1, N, .inl f))]) 0 0 := by
  intro sz
  refine Met.ofW (cc := cX0_instructions) (maxL := 1) (ret := (some .int)) (by decide) rfl ?_
  intro p e s m args below meth c s₁ B hml hv
  obtain ⟨rfl, hsz, hP, hK, hD0, hE, hN⟩ := hv
  have hx := B.exec
  have hb := B.bytes
  have hr := B.returns
  have hts := atoms_spec (ws := wsX0_instructions) B.pre
  have hown : s.vm.findClass RX0 = some m.cls := findClass_of_methodNamed B.named
  have hlocks := B.notSynchronized
  have iX0 : ∀ w ∈ u_ws RX0 TX0 2, w ∈ wsX0_instructions := by decide +kernel
  subst hsz
  have hD := hD0.self (sz := s.heap.size)
  generalize hAe : va_A [(h, .inr (0, [.ref q, .int len])), (q, .inl (g.2.1.1, N, .inl f))] s.heap.size = A at hD hE ⊢
  have hA : ∀ q : Nat, s.heap.size ≤ q → A q := fun q h => by rw [← hAe]; exact Or.inr h
  have hS : va_S A s.heap s.heap [] := va_S.rf
  have hl := lv_entry ([.ref h]) (n := 1) (Nat.le_of_ble_eq_true rfl)
  rw [lg_entry_eq]
  generalize (lg_sl ([.ref h]) ++ List.replicate (1 - (lg_sl ([.ref h])).length) Slot.unset).toArray = ls at hl ⊢
  have hl : lv_has ls 1 [(0, .ref h)] := hl
  refine lv_aload_n hx hb dX0_instructions_0 rfl (lv_at hl 0 rfl) ?_
  refine va_get (D := g.1) (ci := 0) (v := .int len) (C := RX0) (T := TX0) (N := 2) hx hb hts iX0 hown hK hP 0 rfl rfl 1 (by decide) (hts (.fieldLink RX0 21 "FaultIsolation$Code" "length" "I") (by decide +kernel)) (fun _ h9 => h9) rfl dX0_instructions_1 ?_
  refine lv_iconst (v := 4) hx hb dX0_instructions_4 (by decide) ?_
  refine lv_idiv hx hb dX0_instructions_5 (by decide) ?_
  exact k_iret hx hb hr hlocks ⟨hK, hP, hD, hS, hA, hE, hN⟩ rfl dX0_instructions_6 (Nat.le_of_ble_eq_true rfl) (Nat.le_of_ble_eq_true rfl) ⟨rfl, rfl⟩
def sp_X0_has (len : Int32) (i : Int32) : Int32 := if i < 0 then 0 else (if len ≤ i then 0 else 1)
theorem sp_X0_has_b (len : Int32) (i : Int32) : sp_X0_has len i = 0 ∨ sp_X0_has len i = 1 := by
  unfold sp_X0_has
  repeat' split
  all_goals first | (with_reducible exact Or.inl rfl) | (with_reducible exact Or.inr rfl)
set_option maxHeartbeats 4000000 in
set_option maxRecDepth 100000 in
theorem c_X0_has (l : Launch) (g : KG) (h : Nat) (q : Nat) (N : Nat) (f : Nat → Int32) (len : Int32) (i : Int32) (hNn : N < 2 ^ 31) : Ci l g yX0_has wsX0_has ({ frames := 0, cells := 0, slots := 0, locals := 0 }) [.ref h, .int i] [(h, .inr (0, [.ref q, .int len])), (q, .inl (g.2.1.1, N, .inl f))] (fun r u => r = sp_X0_has len i ∧ u = [(h, .inr (0, [.ref q, .int len])), (q, .inl (g.2.1.1, N, .inl f))]) 0 0 := by
  intro sz
  refine Met.ofW (cc := cX0_has) (maxL := 2) (ret := (some .boolean)) (by decide) rfl ?_
  intro p e s m args below meth c s₁ B hml hv
  obtain ⟨rfl, hsz, hP, hK, hD0, hE, hN⟩ := hv
  have hx := B.exec
  have hb := B.bytes
  have hr := B.returns
  have hts := atoms_spec (ws := wsX0_has) B.pre
  have hown : s.vm.findClass RX0 = some m.cls := findClass_of_methodNamed B.named
  have hlocks := B.notSynchronized
  have iX0 : ∀ w ∈ u_ws RX0 TX0 2, w ∈ wsX0_has := by decide +kernel
  subst hsz
  have hD := hD0.self (sz := s.heap.size)
  generalize hAe : va_A [(h, .inr (0, [.ref q, .int len])), (q, .inl (g.2.1.1, N, .inl f))] s.heap.size = A at hD hE ⊢
  have hA : ∀ q : Nat, s.heap.size ≤ q → A q := fun q h => by rw [← hAe]; exact Or.inr h
  have hS : va_S A s.heap s.heap [] := va_S.rf
  have hl := lv_entry ([.ref h, .int i]) (n := 2) (Nat.le_of_ble_eq_true rfl)
  rw [lg_entry_eq]
  generalize (lg_sl ([.ref h, .int i]) ++ List.replicate (2 - (lg_sl ([.ref h, .int i])).length) Slot.unset).toArray = ls at hl ⊢
  have hl : lv_has ls 2 [(0, .ref h), (1, .int i)] := hl
  refine lv_iload_n hx hb dX0_has_0 rfl (lv_at hl 1 rfl) ?_
  refine lv_if_lt (tgt := 16) hx hb dX0_has_1 (by decide) (fun c_0 => ?_) (fun c_0 => ?_)
  · skip
    refine lv_iconst (v := 0) hx hb dX0_has_16 (by decide) ?_
    exact k_iret hx hb hr hlocks ⟨hK, hP, hD, hS, hA, hE, hN⟩ rfl dX0_has_17 (Nat.le_of_ble_eq_true rfl) (Nat.le_of_ble_eq_true rfl) ⟨(by simp only [sp_X0_has, if_pos c_0]), rfl⟩
  · skip
    refine lv_iload_n hx hb dX0_has_4 rfl (lv_at hl 1 rfl) ?_
    refine lv_aload_n hx hb dX0_has_5 rfl (lv_at hl 0 rfl) ?_
    refine va_get (D := g.1) (ci := 0) (v := .int len) (C := RX0) (T := TX0) (N := 2) hx hb hts iX0 hown hK hP 0 rfl rfl 1 (by decide) (hts (.fieldLink RX0 21 "FaultIsolation$Code" "length" "I") (by decide +kernel)) (fun _ h9 => h9) rfl dX0_has_6 ?_
    refine lv_icmp_ge (tgt := 16) hx hb dX0_has_9 (by decide) (fun c_1 => ?_) (fun c_1 => ?_)
    · skip
      refine lv_iconst (v := 0) hx hb dX0_has_16 (by decide) ?_
      exact k_iret hx hb hr hlocks ⟨hK, hP, hD, hS, hA, hE, hN⟩ rfl dX0_has_17 (Nat.le_of_ble_eq_true rfl) (Nat.le_of_ble_eq_true rfl) ⟨(by simp only [sp_X0_has, if_neg c_0, if_pos c_1]), rfl⟩
    · skip
      refine lv_iconst (v := 1) hx hb dX0_has_12 (by decide) ?_
      refine lv_goto (tgt := 17) hx hb dX0_has_13 (by decide) ?_
      exact k_iret hx hb hr hlocks ⟨hK, hP, hD, hS, hA, hE, hN⟩ rfl dX0_has_17 (Nat.le_of_ble_eq_true rfl) (Nat.le_of_ble_eq_true rfl) ⟨(by simp only [sp_X0_has, if_neg c_0, if_neg c_1]), rfl⟩
def sp_X0_hasInstruction (len : Int32) (i : Int32) : Int32 := if (sp_X0_has len i) = 0 then 0 else (if (i - i / 4 * 4) = 0 then 1 else 0)
theorem sp_X0_hasInstruction_b (len : Int32) (i : Int32) : sp_X0_hasInstruction len i = 0 ∨ sp_X0_hasInstruction len i = 1 := by
  unfold sp_X0_hasInstruction
  repeat' split
  all_goals first | (with_reducible exact Or.inl rfl) | (with_reducible exact Or.inr rfl) | (with_reducible apply sp_X0_has_b)
set_option maxHeartbeats 4000000 in
set_option maxRecDepth 100000 in
theorem c_X0_hasInstruction (l : Launch) (g : KG) (h : Nat) (q : Nat) (N : Nat) (f : Nat → Int32) (len : Int32) (i : Int32) (hNn : N < 2 ^ 31) : Ci l g yX0_hasInstruction wsX0_hasInstruction ({ frames := 1, cells := 0, slots := 0, locals := 21 }) [.ref h, .int i] [(h, .inr (0, [.ref q, .int len])), (q, .inl (g.2.1.1, N, .inl f))] (fun r u => r = sp_X0_hasInstruction len i ∧ u = [(h, .inr (0, [.ref q, .int len])), (q, .inl (g.2.1.1, N, .inl f))]) 0 0 := by
  intro sz
  refine Met.ofW (cc := cX0_hasInstruction) (maxL := 2) (ret := (some .boolean)) (by decide) rfl ?_
  intro p e s m args below meth c s₁ B hml hv
  obtain ⟨rfl, hsz, hP, hK, hD0, hE, hN⟩ := hv
  have hx := B.exec
  have hb := B.bytes
  have hr := B.returns
  have hts := atoms_spec (ws := wsX0_hasInstruction) B.pre
  have hown : s.vm.findClass RX0 = some m.cls := findClass_of_methodNamed B.named
  have hlocks := B.notSynchronized
  subst hsz
  have hD := hD0.self (sz := s.heap.size)
  generalize hAe : va_A [(h, .inr (0, [.ref q, .int len])), (q, .inl (g.2.1.1, N, .inl f))] s.heap.size = A at hD hE ⊢
  have hA : ∀ q : Nat, s.heap.size ≤ q → A q := fun q h => by rw [← hAe]; exact Or.inr h
  have hS : va_S A s.heap s.heap [] := va_S.rf
  have hl := lv_entry ([.ref h, .int i]) (n := 2) (Nat.le_of_ble_eq_true rfl)
  rw [lg_entry_eq]
  generalize (lg_sl ([.ref h, .int i]) ++ List.replicate (2 - (lg_sl ([.ref h, .int i])).length) Slot.unset).toArray = ls at hl ⊢
  have hl : lv_has ls 2 [(0, .ref h), (1, .int i)] := hl
  refine lv_aload_n hx hb dX0_hasInstruction_0 rfl (lv_at hl 0 rfl) ?_
  refine lv_iload_n hx hb dX0_hasInstruction_1 rfl (lv_at hl 1 rfl) ?_
  refine kiV (As := [.int i]) (rest := []) (wc := [(h, .inr (0, [.ref q, .int len])), (q, .inl (g.2.1.1, N, .inl f))]) (wr := []) ⟨hx, hb, hml, hown, hts⟩ (c_X0_has l g h q N f len i hNn) (cwV 1 hts gX0_hasInstruction_X0_has rfl rfl rfl (by decide +kernel) ⟨Nat.le_of_ble_eq_true rfl, Nat.le_of_ble_eq_true rfl⟩) ⟨hK, hP, hD, hS, hA, hE, hN⟩ [0, 1] [] ⟨rfl, rfl, by decide⟩ (q0 := 0) (ci := 0) rfl rfl rfl rfl hl.1 (Nat.le_of_ble_eq_true rfl) dX0_hasInstruction_2 ⟨Nat.le_of_ble_eq_true rfl, Nat.le_of_ble_eq_true rfl⟩ rfl (fun r u H locs hw hP hD hS => ?_)
  obtain ⟨hq, hw⟩ := hw
  subst r
  subst hw
  have hP := hP.sub (ws' := [(h, .inr (0, [.ref q, .int len])), (q, .inl (g.2.1.1, N, .inl f))]) [0, 1] rfl
  have hD := hD.sub (ws' := [(h, .inr (0, [.ref q, .int len])), (q, .inl (g.2.1.1, N, .inl f))]) [0, 1] (by decide) rfl
  refine lv_if_eq (tgt := 18) hx hb dX0_hasInstruction_5 (by decide) (fun c_0 => ?_) (fun c_0 => ?_)
  · skip
    refine lv_iconst (v := 0) hx hb dX0_hasInstruction_18 (by decide) ?_
    exact k_iret hx hb hr hlocks ⟨hK, hP, hD, hS, hA, hE, hN⟩ rfl dX0_hasInstruction_19 (Nat.le_of_ble_eq_true rfl) (Nat.le_of_ble_eq_true rfl) ⟨(by simp only [sp_X0_hasInstruction, if_pos c_0]), rfl⟩
  · skip
    refine lv_iload_n hx hb dX0_hasInstruction_8 rfl (lv_at hl 1 rfl) ?_
    refine lv_iconst (v := 4) hx hb dX0_hasInstruction_9 (by decide) ?_
    refine lv_irem hx hb dX0_hasInstruction_10 (by decide) ?_
    refine lv_if_ne (tgt := 18) hx hb dX0_hasInstruction_11 (by decide) (fun c_1 => ?_) (fun c_1 => ?_)
    · skip
      refine lv_iconst (v := 0) hx hb dX0_hasInstruction_18 (by decide) ?_
      exact k_iret hx hb hr hlocks ⟨hK, hP, hD, hS, hA, hE, hN⟩ rfl dX0_hasInstruction_19 (Nat.le_of_ble_eq_true rfl) (Nat.le_of_ble_eq_true rfl) ⟨(by simp only [sp_X0_hasInstruction, if_neg c_0, if_neg c_1]), rfl⟩
    · skip
      refine lv_iconst (v := 1) hx hb dX0_hasInstruction_14 (by decide) ?_
      refine lv_goto (tgt := 19) hx hb dX0_hasInstruction_15 (by decide) ?_
      exact k_iret hx hb hr hlocks ⟨hK, hP, hD, hS, hA, hE, hN⟩ rfl dX0_hasInstruction_19 (Nat.le_of_ble_eq_true rfl) (Nat.le_of_ble_eq_true rfl) ⟨(by simp only [sp_X0_hasInstruction, if_neg c_0, if_pos c_1]), rfl⟩
def sp_X0_read (N : Nat) (f : Nat → Int32) (i : Int32) : Int32 := if i < 0 then 0 else (if (nI N) ≤ i then 0 else (f i.toNatClampNeg))
set_option maxHeartbeats 4000000 in
set_option maxRecDepth 100000 in
theorem c_X0_read (l : Launch) (g : KG) (h : Nat) (q : Nat) (N : Nat) (f : Nat → Int32) (len : Int32) (i : Int32) (hNn : N < 2 ^ 31) : Ci l g yX0_read wsX0_read ({ frames := 0, cells := 0, slots := 0, locals := 0 }) [.ref h, .int i] [(h, .inr (0, [.ref q, .int len])), (q, .inl (g.2.1.1, N, .inl f))] (fun r u => r = sp_X0_read N f i ∧ u = [(h, .inr (0, [.ref q, .int len])), (q, .inl (g.2.1.1, N, .inl f))]) 0 0 := by
  intro sz
  refine Met.ofW (cc := cX0_read) (maxL := 2) (ret := (some .int)) (by decide) rfl ?_
  intro p e s m args below meth c s₁ B hml hv
  obtain ⟨rfl, hsz, hP, hK, hD0, hE, hN⟩ := hv
  have hx := B.exec
  have hb := B.bytes
  have hr := B.returns
  have hts := atoms_spec (ws := wsX0_read) B.pre
  have hown : s.vm.findClass RX0 = some m.cls := findClass_of_methodNamed B.named
  have hlocks := B.notSynchronized
  have iX0 : ∀ w ∈ u_ws RX0 TX0 2, w ∈ wsX0_read := by decide +kernel
  subst hsz
  have hD := hD0.self (sz := s.heap.size)
  generalize hAe : va_A [(h, .inr (0, [.ref q, .int len])), (q, .inl (g.2.1.1, N, .inl f))] s.heap.size = A at hD hE ⊢
  have hA : ∀ q : Nat, s.heap.size ≤ q → A q := fun q h => by rw [← hAe]; exact Or.inr h
  have hS : va_S A s.heap s.heap [] := va_S.rf
  have hl := lv_entry ([.ref h, .int i]) (n := 2) (Nat.le_of_ble_eq_true rfl)
  rw [lg_entry_eq]
  generalize (lg_sl ([.ref h, .int i]) ++ List.replicate (2 - (lg_sl ([.ref h, .int i])).length) Slot.unset).toArray = ls at hl ⊢
  have hl : lv_has ls 2 [(0, .ref h), (1, .int i)] := hl
  refine lv_iload_n hx hb dX0_read_0 rfl (lv_at hl 1 rfl) ?_
  refine lv_if_lt (tgt := 22) hx hb dX0_read_1 (by decide) (fun c_0 => ?_) (fun c_0 => ?_)
  · skip
    refine lv_iconst (v := 0) hx hb dX0_read_22 (by decide) ?_
    exact k_iret hx hb hr hlocks ⟨hK, hP, hD, hS, hA, hE, hN⟩ rfl dX0_read_23 (Nat.le_of_ble_eq_true rfl) (Nat.le_of_ble_eq_true rfl) ⟨(by simp only [sp_X0_read, if_pos c_0]), rfl⟩
  · skip
    refine lv_iload_n hx hb dX0_read_4 rfl (lv_at hl 1 rfl) ?_
    refine lv_aload_n hx hb dX0_read_5 rfl (lv_at hl 0 rfl) ?_
    refine va_get (D := g.1) (ci := 0) (v := .ref q) (C := RX0) (T := TX0) (N := 2) hx hb hts iX0 hown hK hP 0 rfl rfl 0 (by decide) (hts (.fieldLink RX0 15 "FaultIsolation$Code" "cells" "[I") (by decide +kernel)) (fun _ h9 => h9) rfl dX0_read_6 ?_
    refine va_alen (v := nI N) hx hb hK hP 1 0 rfl rfl rfl dX0_read_9 ?_
    refine lv_icmp_ge (tgt := 22) hx hb dX0_read_10 (by decide) (fun c_1 => ?_) (fun c_1 => ?_)
    · skip
      refine lv_iconst (v := 0) hx hb dX0_read_22 (by decide) ?_
      exact k_iret hx hb hr hlocks ⟨hK, hP, hD, hS, hA, hE, hN⟩ rfl dX0_read_23 (Nat.le_of_ble_eq_true rfl) (Nat.le_of_ble_eq_true rfl) ⟨(by simp only [sp_X0_read, if_neg c_0, if_pos c_1]), rfl⟩
    · skip
      refine lv_aload_n hx hb dX0_read_13 rfl (lv_at hl 0 rfl) ?_
      refine va_get (D := g.1) (ci := 0) (v := .ref q) (C := RX0) (T := TX0) (N := 2) hx hb hts iX0 hown hK hP 0 rfl rfl 0 (by decide) (hts (.fieldLink RX0 15 "FaultIsolation$Code" "cells" "[I") (by decide +kernel)) (fun _ h9 => h9) rfl dX0_read_14 ?_
      refine lv_iload_n hx hb dX0_read_17 rfl (lv_at hl 1 rfl) ?_
      refine va_iald hx hb hK hP 1 0 rfl rfl (k_in c_0 c_1 hNn) dX0_read_18 ?_
      refine lv_goto (tgt := 23) hx hb dX0_read_19 (by decide) ?_
      exact k_iret hx hb hr hlocks ⟨hK, hP, hD, hS, hA, hE, hN⟩ rfl dX0_read_23 (Nat.le_of_ble_eq_true rfl) (Nat.le_of_ble_eq_true rfl) ⟨(by simp only [sp_X0_read, if_neg c_0, if_neg c_1]), rfl⟩
def sp_X0_word (N : Nat) (f : Nat → Int32) (i : Int32) : Int32 := sp_X0_read N f i
set_option maxHeartbeats 4000000 in
set_option maxRecDepth 100000 in
theorem c_X0_word (l : Launch) (g : KG) (h : Nat) (q : Nat) (N : Nat) (f : Nat → Int32) (len : Int32) (i : Int32) (hNn : N < 2 ^ 31) : Ci l g yX0_word wsX0_word ({ frames := 1, cells := 0, slots := 0, locals := 21 }) [.ref h, .int i] [(h, .inr (0, [.ref q, .int len])), (q, .inl (g.2.1.1, N, .inl f))] (fun r u => r = sp_X0_word N f i ∧ u = [(h, .inr (0, [.ref q, .int len])), (q, .inl (g.2.1.1, N, .inl f))]) 0 0 := by
  intro sz
  refine Met.ofW (cc := cX0_word) (maxL := 2) (ret := (some .int)) (by decide) rfl ?_
  intro p e s m args below meth c s₁ B hml hv
  obtain ⟨rfl, hsz, hP, hK, hD0, hE, hN⟩ := hv
  have hx := B.exec
  have hb := B.bytes
  have hr := B.returns
  have hts := atoms_spec (ws := wsX0_word) B.pre
  have hown : s.vm.findClass RX0 = some m.cls := findClass_of_methodNamed B.named
  have hlocks := B.notSynchronized
  subst hsz
  have hD := hD0.self (sz := s.heap.size)
  generalize hAe : va_A [(h, .inr (0, [.ref q, .int len])), (q, .inl (g.2.1.1, N, .inl f))] s.heap.size = A at hD hE ⊢
  have hA : ∀ q : Nat, s.heap.size ≤ q → A q := fun q h => by rw [← hAe]; exact Or.inr h
  have hS : va_S A s.heap s.heap [] := va_S.rf
  have hl := lv_entry ([.ref h, .int i]) (n := 2) (Nat.le_of_ble_eq_true rfl)
  rw [lg_entry_eq]
  generalize (lg_sl ([.ref h, .int i]) ++ List.replicate (2 - (lg_sl ([.ref h, .int i])).length) Slot.unset).toArray = ls at hl ⊢
  have hl : lv_has ls 2 [(0, .ref h), (1, .int i)] := hl
  refine lv_aload_n hx hb dX0_word_0 rfl (lv_at hl 0 rfl) ?_
  refine lv_iload_n hx hb dX0_word_1 rfl (lv_at hl 1 rfl) ?_
  refine kiV (As := [.int i]) (rest := []) (wc := [(h, .inr (0, [.ref q, .int len])), (q, .inl (g.2.1.1, N, .inl f))]) (wr := []) ⟨hx, hb, hml, hown, hts⟩ (c_X0_read l g h q N f len i hNn) (cwV 1 hts gX0_word_X0_read rfl rfl rfl (by decide +kernel) ⟨Nat.le_of_ble_eq_true rfl, Nat.le_of_ble_eq_true rfl⟩) ⟨hK, hP, hD, hS, hA, hE, hN⟩ [0, 1] [] ⟨rfl, rfl, by decide⟩ (q0 := 0) (ci := 0) rfl rfl rfl rfl hl.1 (Nat.le_of_ble_eq_true rfl) dX0_word_2 ⟨Nat.le_of_ble_eq_true rfl, Nat.le_of_ble_eq_true rfl⟩ rfl (fun r u H locs hw hP hD hS => ?_)
  obtain ⟨hq, hw⟩ := hw
  subst r
  subst hw
  have hP := hP.sub (ws' := [(h, .inr (0, [.ref q, .int len])), (q, .inl (g.2.1.1, N, .inl f))]) [0, 1] rfl
  have hD := hD.sub (ws' := [(h, .inr (0, [.ref q, .int len])), (q, .inl (g.2.1.1, N, .inl f))]) [0, 1] (by decide) rfl
  exact k_iret hx hb hr hlocks ⟨hK, hP, hD, hS, hA, hE, hN⟩ rfl dX0_word_5 (Nat.le_of_ble_eq_true rfl) (Nat.le_of_ble_eq_true rfl) ⟨rfl, rfl⟩
def sp_X0_a (N : Nat) (f : Nat → Int32) (i : Int32) : Int32 := sp_X0_read N f (i + 1)
set_option maxHeartbeats 4000000 in
set_option maxRecDepth 100000 in
theorem c_X0_a (l : Launch) (g : KG) (h : Nat) (q : Nat) (N : Nat) (f : Nat → Int32) (len : Int32) (i : Int32) (hNn : N < 2 ^ 31) : Ci l g yX0_a wsX0_a ({ frames := 1, cells := 0, slots := 0, locals := 21 }) [.ref h, .int i] [(h, .inr (0, [.ref q, .int len])), (q, .inl (g.2.1.1, N, .inl f))] (fun r u => r = sp_X0_a N f i ∧ u = [(h, .inr (0, [.ref q, .int len])), (q, .inl (g.2.1.1, N, .inl f))]) 0 0 := by
  intro sz
  refine Met.ofW (cc := cX0_a) (maxL := 2) (ret := (some .int)) (by decide) rfl ?_
  intro p e s m args below meth c s₁ B hml hv
  obtain ⟨rfl, hsz, hP, hK, hD0, hE, hN⟩ := hv
  have hx := B.exec
  have hb := B.bytes
  have hr := B.returns
  have hts := atoms_spec (ws := wsX0_a) B.pre
  have hown : s.vm.findClass RX0 = some m.cls := findClass_of_methodNamed B.named
  have hlocks := B.notSynchronized
  subst hsz
  have hD := hD0.self (sz := s.heap.size)
  generalize hAe : va_A [(h, .inr (0, [.ref q, .int len])), (q, .inl (g.2.1.1, N, .inl f))] s.heap.size = A at hD hE ⊢
  have hA : ∀ q : Nat, s.heap.size ≤ q → A q := fun q h => by rw [← hAe]; exact Or.inr h
  have hS : va_S A s.heap s.heap [] := va_S.rf
  have hl := lv_entry ([.ref h, .int i]) (n := 2) (Nat.le_of_ble_eq_true rfl)
  rw [lg_entry_eq]
  generalize (lg_sl ([.ref h, .int i]) ++ List.replicate (2 - (lg_sl ([.ref h, .int i])).length) Slot.unset).toArray = ls at hl ⊢
  have hl : lv_has ls 2 [(0, .ref h), (1, .int i)] := hl
  refine lv_aload_n hx hb dX0_a_0 rfl (lv_at hl 0 rfl) ?_
  refine lv_iload_n hx hb dX0_a_1 rfl (lv_at hl 1 rfl) ?_
  refine lv_iconst (v := 1) hx hb dX0_a_2 (by decide) ?_
  refine lv_iadd hx hb dX0_a_3 ?_
  refine kiV (As := [.int (i + 1)]) (rest := []) (wc := [(h, .inr (0, [.ref q, .int len])), (q, .inl (g.2.1.1, N, .inl f))]) (wr := []) ⟨hx, hb, hml, hown, hts⟩ (c_X0_read l g h q N f len (i + 1) hNn) (cwV 1 hts gX0_a_X0_read rfl rfl rfl (by decide +kernel) ⟨Nat.le_of_ble_eq_true rfl, Nat.le_of_ble_eq_true rfl⟩) ⟨hK, hP, hD, hS, hA, hE, hN⟩ [0, 1] [] ⟨rfl, rfl, by decide⟩ (q0 := 0) (ci := 0) rfl rfl rfl rfl hl.1 (Nat.le_of_ble_eq_true rfl) dX0_a_4 ⟨Nat.le_of_ble_eq_true rfl, Nat.le_of_ble_eq_true rfl⟩ rfl (fun r u H locs hw hP hD hS => ?_)
  obtain ⟨hq, hw⟩ := hw
  subst r
  subst hw
  have hP := hP.sub (ws' := [(h, .inr (0, [.ref q, .int len])), (q, .inl (g.2.1.1, N, .inl f))]) [0, 1] rfl
  have hD := hD.sub (ws' := [(h, .inr (0, [.ref q, .int len])), (q, .inl (g.2.1.1, N, .inl f))]) [0, 1] (by decide) rfl
  exact k_iret hx hb hr hlocks ⟨hK, hP, hD, hS, hA, hE, hN⟩ rfl dX0_a_7 (Nat.le_of_ble_eq_true rfl) (Nat.le_of_ble_eq_true rfl) ⟨rfl, rfl⟩
def sp_X0_b (N : Nat) (f : Nat → Int32) (i : Int32) : Int32 := sp_X0_read N f (i + 2)
set_option maxHeartbeats 4000000 in
set_option maxRecDepth 100000 in
theorem c_X0_b (l : Launch) (g : KG) (h : Nat) (q : Nat) (N : Nat) (f : Nat → Int32) (len : Int32) (i : Int32) (hNn : N < 2 ^ 31) : Ci l g yX0_b wsX0_b ({ frames := 1, cells := 0, slots := 0, locals := 21 }) [.ref h, .int i] [(h, .inr (0, [.ref q, .int len])), (q, .inl (g.2.1.1, N, .inl f))] (fun r u => r = sp_X0_b N f i ∧ u = [(h, .inr (0, [.ref q, .int len])), (q, .inl (g.2.1.1, N, .inl f))]) 0 0 := by
  intro sz
  refine Met.ofW (cc := cX0_b) (maxL := 2) (ret := (some .int)) (by decide) rfl ?_
  intro p e s m args below meth c s₁ B hml hv
  obtain ⟨rfl, hsz, hP, hK, hD0, hE, hN⟩ := hv
  have hx := B.exec
  have hb := B.bytes
  have hr := B.returns
  have hts := atoms_spec (ws := wsX0_b) B.pre
  have hown : s.vm.findClass RX0 = some m.cls := findClass_of_methodNamed B.named
  have hlocks := B.notSynchronized
  subst hsz
  have hD := hD0.self (sz := s.heap.size)
  generalize hAe : va_A [(h, .inr (0, [.ref q, .int len])), (q, .inl (g.2.1.1, N, .inl f))] s.heap.size = A at hD hE ⊢
  have hA : ∀ q : Nat, s.heap.size ≤ q → A q := fun q h => by rw [← hAe]; exact Or.inr h
  have hS : va_S A s.heap s.heap [] := va_S.rf
  have hl := lv_entry ([.ref h, .int i]) (n := 2) (Nat.le_of_ble_eq_true rfl)
  rw [lg_entry_eq]
  generalize (lg_sl ([.ref h, .int i]) ++ List.replicate (2 - (lg_sl ([.ref h, .int i])).length) Slot.unset).toArray = ls at hl ⊢
  have hl : lv_has ls 2 [(0, .ref h), (1, .int i)] := hl
  refine lv_aload_n hx hb dX0_b_0 rfl (lv_at hl 0 rfl) ?_
  refine lv_iload_n hx hb dX0_b_1 rfl (lv_at hl 1 rfl) ?_
  refine lv_iconst (v := 2) hx hb dX0_b_2 (by decide) ?_
  refine lv_iadd hx hb dX0_b_3 ?_
  refine kiV (As := [.int (i + 2)]) (rest := []) (wc := [(h, .inr (0, [.ref q, .int len])), (q, .inl (g.2.1.1, N, .inl f))]) (wr := []) ⟨hx, hb, hml, hown, hts⟩ (c_X0_read l g h q N f len (i + 2) hNn) (cwV 1 hts gX0_b_X0_read rfl rfl rfl (by decide +kernel) ⟨Nat.le_of_ble_eq_true rfl, Nat.le_of_ble_eq_true rfl⟩) ⟨hK, hP, hD, hS, hA, hE, hN⟩ [0, 1] [] ⟨rfl, rfl, by decide⟩ (q0 := 0) (ci := 0) rfl rfl rfl rfl hl.1 (Nat.le_of_ble_eq_true rfl) dX0_b_4 ⟨Nat.le_of_ble_eq_true rfl, Nat.le_of_ble_eq_true rfl⟩ rfl (fun r u H locs hw hP hD hS => ?_)
  obtain ⟨hq, hw⟩ := hw
  subst r
  subst hw
  have hP := hP.sub (ws' := [(h, .inr (0, [.ref q, .int len])), (q, .inl (g.2.1.1, N, .inl f))]) [0, 1] rfl
  have hD := hD.sub (ws' := [(h, .inr (0, [.ref q, .int len])), (q, .inl (g.2.1.1, N, .inl f))]) [0, 1] (by decide) rfl
  exact k_iret hx hb hr hlocks ⟨hK, hP, hD, hS, hA, hE, hN⟩ rfl dX0_b_7 (Nat.le_of_ble_eq_true rfl) (Nat.le_of_ble_eq_true rfl) ⟨rfl, rfl⟩
def sp_X0_c (N : Nat) (f : Nat → Int32) (i : Int32) : Int32 := sp_X0_read N f (i + 3)
set_option maxHeartbeats 4000000 in
set_option maxRecDepth 100000 in
theorem c_X0_c (l : Launch) (g : KG) (h : Nat) (q : Nat) (N : Nat) (f : Nat → Int32) (len : Int32) (i : Int32) (hNn : N < 2 ^ 31) : Ci l g yX0_c wsX0_c ({ frames := 1, cells := 0, slots := 0, locals := 21 }) [.ref h, .int i] [(h, .inr (0, [.ref q, .int len])), (q, .inl (g.2.1.1, N, .inl f))] (fun r u => r = sp_X0_c N f i ∧ u = [(h, .inr (0, [.ref q, .int len])), (q, .inl (g.2.1.1, N, .inl f))]) 0 0 := by
  intro sz
  refine Met.ofW (cc := cX0_c) (maxL := 2) (ret := (some .int)) (by decide) rfl ?_
  intro p e s m args below meth c s₁ B hml hv
  obtain ⟨rfl, hsz, hP, hK, hD0, hE, hN⟩ := hv
  have hx := B.exec
  have hb := B.bytes
  have hr := B.returns
  have hts := atoms_spec (ws := wsX0_c) B.pre
  have hown : s.vm.findClass RX0 = some m.cls := findClass_of_methodNamed B.named
  have hlocks := B.notSynchronized
  subst hsz
  have hD := hD0.self (sz := s.heap.size)
  generalize hAe : va_A [(h, .inr (0, [.ref q, .int len])), (q, .inl (g.2.1.1, N, .inl f))] s.heap.size = A at hD hE ⊢
  have hA : ∀ q : Nat, s.heap.size ≤ q → A q := fun q h => by rw [← hAe]; exact Or.inr h
  have hS : va_S A s.heap s.heap [] := va_S.rf
  have hl := lv_entry ([.ref h, .int i]) (n := 2) (Nat.le_of_ble_eq_true rfl)
  rw [lg_entry_eq]
  generalize (lg_sl ([.ref h, .int i]) ++ List.replicate (2 - (lg_sl ([.ref h, .int i])).length) Slot.unset).toArray = ls at hl ⊢
  have hl : lv_has ls 2 [(0, .ref h), (1, .int i)] := hl
  refine lv_aload_n hx hb dX0_c_0 rfl (lv_at hl 0 rfl) ?_
  refine lv_iload_n hx hb dX0_c_1 rfl (lv_at hl 1 rfl) ?_
  refine lv_iconst (v := 3) hx hb dX0_c_2 (by decide) ?_
  refine lv_iadd hx hb dX0_c_3 ?_
  refine kiV (As := [.int (i + 3)]) (rest := []) (wc := [(h, .inr (0, [.ref q, .int len])), (q, .inl (g.2.1.1, N, .inl f))]) (wr := []) ⟨hx, hb, hml, hown, hts⟩ (c_X0_read l g h q N f len (i + 3) hNn) (cwV 1 hts gX0_c_X0_read rfl rfl rfl (by decide +kernel) ⟨Nat.le_of_ble_eq_true rfl, Nat.le_of_ble_eq_true rfl⟩) ⟨hK, hP, hD, hS, hA, hE, hN⟩ [0, 1] [] ⟨rfl, rfl, by decide⟩ (q0 := 0) (ci := 0) rfl rfl rfl rfl hl.1 (Nat.le_of_ble_eq_true rfl) dX0_c_4 ⟨Nat.le_of_ble_eq_true rfl, Nat.le_of_ble_eq_true rfl⟩ rfl (fun r u H locs hw hP hD hS => ?_)
  obtain ⟨hq, hw⟩ := hw
  subst r
  subst hw
  have hP := hP.sub (ws' := [(h, .inr (0, [.ref q, .int len])), (q, .inl (g.2.1.1, N, .inl f))]) [0, 1] rfl
  have hD := hD.sub (ws' := [(h, .inr (0, [.ref q, .int len])), (q, .inl (g.2.1.1, N, .inl f))]) [0, 1] (by decide) rfl
  exact k_iret hx hb hr hlocks ⟨hK, hP, hD, hS, hA, hE, hN⟩ rfl dX0_c_7 (Nat.le_of_ble_eq_true rfl) (Nat.le_of_ble_eq_true rfl) ⟨rfl, rfl⟩
def sp_X0_n (N : Nat) (f : Nat → Int32) (i : Int32) : Int32 := (256 * (sp_X0_read N f (i + 2))) + (sp_X0_read N f (i + 3))
set_option maxHeartbeats 4000000 in
set_option maxRecDepth 100000 in
theorem c_X0_n (l : Launch) (g : KG) (h : Nat) (q : Nat) (N : Nat) (f : Nat → Int32) (len : Int32) (i : Int32) (hNn : N < 2 ^ 31) : Ci l g yX0_n wsX0_n ({ frames := 1, cells := 0, slots := 0, locals := 21 }) [.ref h, .int i] [(h, .inr (0, [.ref q, .int len])), (q, .inl (g.2.1.1, N, .inl f))] (fun r u => r = sp_X0_n N f i ∧ u = [(h, .inr (0, [.ref q, .int len])), (q, .inl (g.2.1.1, N, .inl f))]) 0 0 := by
  intro sz
  refine Met.ofW (cc := cX0_n) (maxL := 2) (ret := (some .int)) (by decide) rfl ?_
  intro p e s m args below meth c s₁ B hml hv
  obtain ⟨rfl, hsz, hP, hK, hD0, hE, hN⟩ := hv
  have hx := B.exec
  have hb := B.bytes
  have hr := B.returns
  have hts := atoms_spec (ws := wsX0_n) B.pre
  have hown : s.vm.findClass RX0 = some m.cls := findClass_of_methodNamed B.named
  have hlocks := B.notSynchronized
  subst hsz
  have hD := hD0.self (sz := s.heap.size)
  generalize hAe : va_A [(h, .inr (0, [.ref q, .int len])), (q, .inl (g.2.1.1, N, .inl f))] s.heap.size = A at hD hE ⊢
  have hA : ∀ q : Nat, s.heap.size ≤ q → A q := fun q h => by rw [← hAe]; exact Or.inr h
  have hS : va_S A s.heap s.heap [] := va_S.rf
  have hl := lv_entry ([.ref h, .int i]) (n := 2) (Nat.le_of_ble_eq_true rfl)
  rw [lg_entry_eq]
  generalize (lg_sl ([.ref h, .int i]) ++ List.replicate (2 - (lg_sl ([.ref h, .int i])).length) Slot.unset).toArray = ls at hl ⊢
  have hl : lv_has ls 2 [(0, .ref h), (1, .int i)] := hl
  refine lv_sipush (v := 256) hx hb dX0_n_0 (by decide) ?_
  refine lv_aload_n hx hb dX0_n_3 rfl (lv_at hl 0 rfl) ?_
  refine lv_iload_n hx hb dX0_n_4 rfl (lv_at hl 1 rfl) ?_
  refine lv_iconst (v := 2) hx hb dX0_n_5 (by decide) ?_
  refine lv_iadd hx hb dX0_n_6 ?_
  refine kiV (As := [.int (i + 2)]) (rest := [.int 256]) (wc := [(h, .inr (0, [.ref q, .int len])), (q, .inl (g.2.1.1, N, .inl f))]) (wr := []) ⟨hx, hb, hml, hown, hts⟩ (c_X0_read l g h q N f len (i + 2) hNn) (cwV 1 hts gX0_n_X0_read rfl rfl rfl (by decide +kernel) ⟨Nat.le_of_ble_eq_true rfl, Nat.le_of_ble_eq_true rfl⟩) ⟨hK, hP, hD, hS, hA, hE, hN⟩ [0, 1] [] ⟨rfl, rfl, by decide⟩ (q0 := 0) (ci := 0) rfl rfl rfl rfl hl.1 (Nat.le_of_ble_eq_true rfl) dX0_n_7 ⟨Nat.le_of_ble_eq_true rfl, Nat.le_of_ble_eq_true rfl⟩ rfl (fun r u H locs hw hP hD hS => ?_)
  obtain ⟨hq, hw⟩ := hw
  subst r
  subst hw
  have hP := hP.sub (ws' := [(h, .inr (0, [.ref q, .int len])), (q, .inl (g.2.1.1, N, .inl f))]) [0, 1] rfl
  have hD := hD.sub (ws' := [(h, .inr (0, [.ref q, .int len])), (q, .inl (g.2.1.1, N, .inl f))]) [0, 1] (by decide) rfl
  refine lv_imul hx hb dX0_n_10 ?_
  refine lv_aload_n hx hb dX0_n_11 rfl (lv_at hl 0 rfl) ?_
  refine lv_iload_n hx hb dX0_n_12 rfl (lv_at hl 1 rfl) ?_
  refine lv_iconst (v := 3) hx hb dX0_n_13 (by decide) ?_
  refine lv_iadd hx hb dX0_n_14 ?_
  refine kiV (As := [.int (i + 3)]) (rest := [.int (256 * (sp_X0_read N f (i + 2)))]) (wc := [(h, .inr (0, [.ref q, .int len])), (q, .inl (g.2.1.1, N, .inl f))]) (wr := []) ⟨hx, hb, hml, hown, hts⟩ (c_X0_read l g h q N f len (i + 3) hNn) (cwV 1 hts gX0_n_X0_read rfl rfl rfl (by decide +kernel) ⟨Nat.le_of_ble_eq_true rfl, Nat.le_of_ble_eq_true rfl⟩) ⟨hK, hP, hD, hS, hA, hE, hN⟩ [0, 1] [] ⟨rfl, rfl, by decide⟩ (q0 := 0) (ci := 0) rfl rfl rfl rfl hl.1 (Nat.le_of_ble_eq_true rfl) dX0_n_15 ⟨Nat.le_of_ble_eq_true rfl, Nat.le_of_ble_eq_true rfl⟩ rfl (fun r u H locs hw hP hD hS => ?_)
  obtain ⟨hq, hw⟩ := hw
  subst r
  subst hw
  have hP := hP.sub (ws' := [(h, .inr (0, [.ref q, .int len])), (q, .inl (g.2.1.1, N, .inl f))]) [0, 1] rfl
  have hD := hD.sub (ws' := [(h, .inr (0, [.ref q, .int len])), (q, .inl (g.2.1.1, N, .inl f))]) [0, 1] (by decide) rfl
  refine lv_iadd hx hb dX0_n_18 ?_
  exact k_iret hx hb hr hlocks ⟨hK, hP, hD, hS, hA, hE, hN⟩ rfl dX0_n_19 (Nat.le_of_ble_eq_true rfl) (Nat.le_of_ble_eq_true rfl) ⟨rfl, rfl⟩
def sp_X0_is (N : Nat) (f : Nat → Int32) (i : Int32) (w : Int32) (a : Int32) (k : Int32) : Int32 := if (sp_X0_word N f i) = w then (if (sp_X0_a N f i) = a then (if (sp_X0_n N f i) = k then 1 else 0) else 0) else 0
theorem sp_X0_is_b (N : Nat) (f : Nat → Int32) (i : Int32) (w : Int32) (a : Int32) (k : Int32) : sp_X0_is N f i w a k = 0 ∨ sp_X0_is N f i w a k = 1 := by
  unfold sp_X0_is
  repeat' split
  all_goals first | (with_reducible exact Or.inl rfl) | (with_reducible exact Or.inr rfl)
set_option maxHeartbeats 4000000 in
set_option maxRecDepth 100000 in
theorem c_X0_is (l : Launch) (g : KG) (h : Nat) (q : Nat) (N : Nat) (f : Nat → Int32) (len : Int32) (i : Int32) (w : Int32) (a : Int32) (k : Int32) (hNn : N < 2 ^ 31) : Ci l g yX0_is wsX0_is ({ frames := 2, cells := 0, slots := 0, locals := 42 }) [.ref h, .int i, .int w, .int a, .int k] [(h, .inr (0, [.ref q, .int len])), (q, .inl (g.2.1.1, N, .inl f))] (fun r u => r = sp_X0_is N f i w a k ∧ u = [(h, .inr (0, [.ref q, .int len])), (q, .inl (g.2.1.1, N, .inl f))]) 0 0 := by
  intro sz
  refine Met.ofW (cc := cX0_is) (maxL := 5) (ret := (some .boolean)) (by decide) rfl ?_
  intro p e s m args below meth c s₁ B hml hv
  obtain ⟨rfl, hsz, hP, hK, hD0, hE, hN⟩ := hv
  have hx := B.exec
  have hb := B.bytes
  have hr := B.returns
  have hts := atoms_spec (ws := wsX0_is) B.pre
  have hown : s.vm.findClass RX0 = some m.cls := findClass_of_methodNamed B.named
  have hlocks := B.notSynchronized
  subst hsz
  have hD := hD0.self (sz := s.heap.size)
  generalize hAe : va_A [(h, .inr (0, [.ref q, .int len])), (q, .inl (g.2.1.1, N, .inl f))] s.heap.size = A at hD hE ⊢
  have hA : ∀ q : Nat, s.heap.size ≤ q → A q := fun q h => by rw [← hAe]; exact Or.inr h
  have hS : va_S A s.heap s.heap [] := va_S.rf
  have hl := lv_entry ([.ref h, .int i, .int w, .int a, .int k]) (n := 5) (Nat.le_of_ble_eq_true rfl)
  rw [lg_entry_eq]
  generalize (lg_sl ([.ref h, .int i, .int w, .int a, .int k]) ++ List.replicate (5 - (lg_sl ([.ref h, .int i, .int w, .int a, .int k])).length) Slot.unset).toArray = ls at hl ⊢
  have hl : lv_has ls 5 [(0, .ref h), (1, .int i), (2, .int w), (3, .int a), (4, .int k)] := hl
  refine lv_aload_n hx hb dX0_is_0 rfl (lv_at hl 0 rfl) ?_
  refine lv_iload_n hx hb dX0_is_1 rfl (lv_at hl 1 rfl) ?_
  refine kiV (As := [.int i]) (rest := []) (wc := [(h, .inr (0, [.ref q, .int len])), (q, .inl (g.2.1.1, N, .inl f))]) (wr := []) ⟨hx, hb, hml, hown, hts⟩ (c_X0_word l g h q N f len i hNn) (cwV 1 hts gX0_is_X0_word rfl rfl rfl (by decide +kernel) ⟨Nat.le_of_ble_eq_true rfl, Nat.le_of_ble_eq_true rfl⟩) ⟨hK, hP, hD, hS, hA, hE, hN⟩ [0, 1] [] ⟨rfl, rfl, by decide⟩ (q0 := 0) (ci := 0) rfl rfl rfl rfl hl.1 (Nat.le_of_ble_eq_true rfl) dX0_is_2 ⟨Nat.le_of_ble_eq_true rfl, Nat.le_of_ble_eq_true rfl⟩ rfl (fun r u H locs hw hP hD hS => ?_)
  obtain ⟨hq, hw⟩ := hw
  subst r
  subst hw
  have hP := hP.sub (ws' := [(h, .inr (0, [.ref q, .int len])), (q, .inl (g.2.1.1, N, .inl f))]) [0, 1] rfl
  have hD := hD.sub (ws' := [(h, .inr (0, [.ref q, .int len])), (q, .inl (g.2.1.1, N, .inl f))]) [0, 1] (by decide) rfl
  refine lv_iload_n hx hb dX0_is_5 rfl (lv_at hl 2 rfl) ?_
  refine lv_icmp_ne (tgt := 32) hx hb dX0_is_6 (by decide) (fun c_0 => ?_) (fun c_0 => ?_)
  · skip
    refine lv_iconst (v := 0) hx hb dX0_is_32 (by decide) ?_
    exact k_iret hx hb hr hlocks ⟨hK, hP, hD, hS, hA, hE, hN⟩ rfl dX0_is_33 (Nat.le_of_ble_eq_true rfl) (Nat.le_of_ble_eq_true rfl) ⟨(by simp only [sp_X0_is, if_neg c_0]), rfl⟩
  · skip
    refine lv_aload_n hx hb dX0_is_9 rfl (lv_at hl 0 rfl) ?_
    refine lv_iload_n hx hb dX0_is_10 rfl (lv_at hl 1 rfl) ?_
    refine kiV (As := [.int i]) (rest := []) (wc := [(h, .inr (0, [.ref q, .int len])), (q, .inl (g.2.1.1, N, .inl f))]) (wr := []) ⟨hx, hb, hml, hown, hts⟩ (c_X0_a l g h q N f len i hNn) (cwV 1 hts gX0_is_X0_a rfl rfl rfl (by decide +kernel) ⟨Nat.le_of_ble_eq_true rfl, Nat.le_of_ble_eq_true rfl⟩) ⟨hK, hP, hD, hS, hA, hE, hN⟩ [0, 1] [] ⟨rfl, rfl, by decide⟩ (q0 := 0) (ci := 0) rfl rfl rfl rfl hl.1 (Nat.le_of_ble_eq_true rfl) dX0_is_11 ⟨Nat.le_of_ble_eq_true rfl, Nat.le_of_ble_eq_true rfl⟩ rfl (fun r u H locs hw hP hD hS => ?_)
    obtain ⟨hq, hw⟩ := hw
    subst r
    subst hw
    have hP := hP.sub (ws' := [(h, .inr (0, [.ref q, .int len])), (q, .inl (g.2.1.1, N, .inl f))]) [0, 1] rfl
    have hD := hD.sub (ws' := [(h, .inr (0, [.ref q, .int len])), (q, .inl (g.2.1.1, N, .inl f))]) [0, 1] (by decide) rfl
    refine lv_iload_n hx hb dX0_is_14 rfl (lv_at hl 3 rfl) ?_
    refine lv_icmp_ne (tgt := 32) hx hb dX0_is_15 (by decide) (fun c_1 => ?_) (fun c_1 => ?_)
    · skip
      refine lv_iconst (v := 0) hx hb dX0_is_32 (by decide) ?_
      exact k_iret hx hb hr hlocks ⟨hK, hP, hD, hS, hA, hE, hN⟩ rfl dX0_is_33 (Nat.le_of_ble_eq_true rfl) (Nat.le_of_ble_eq_true rfl) ⟨(by simp only [sp_X0_is, if_pos c_0, if_neg c_1]), rfl⟩
    · skip
      refine lv_aload_n hx hb dX0_is_18 rfl (lv_at hl 0 rfl) ?_
      refine lv_iload_n hx hb dX0_is_19 rfl (lv_at hl 1 rfl) ?_
      refine kiV (As := [.int i]) (rest := []) (wc := [(h, .inr (0, [.ref q, .int len])), (q, .inl (g.2.1.1, N, .inl f))]) (wr := []) ⟨hx, hb, hml, hown, hts⟩ (c_X0_n l g h q N f len i hNn) (cwV 1 hts gX0_is_X0_n rfl rfl rfl (by decide +kernel) ⟨Nat.le_of_ble_eq_true rfl, Nat.le_of_ble_eq_true rfl⟩) ⟨hK, hP, hD, hS, hA, hE, hN⟩ [0, 1] [] ⟨rfl, rfl, by decide⟩ (q0 := 0) (ci := 0) rfl rfl rfl rfl hl.1 (Nat.le_of_ble_eq_true rfl) dX0_is_20 ⟨Nat.le_of_ble_eq_true rfl, Nat.le_of_ble_eq_true rfl⟩ rfl (fun r u H locs hw hP hD hS => ?_)
      obtain ⟨hq, hw⟩ := hw
      subst r
      subst hw
      have hP := hP.sub (ws' := [(h, .inr (0, [.ref q, .int len])), (q, .inl (g.2.1.1, N, .inl f))]) [0, 1] rfl
      have hD := hD.sub (ws' := [(h, .inr (0, [.ref q, .int len])), (q, .inl (g.2.1.1, N, .inl f))]) [0, 1] (by decide) rfl
      refine lv_iload hx hb dX0_is_23 (lv_at hl 4 rfl) ?_
      refine lv_icmp_ne (tgt := 32) hx hb dX0_is_25 (by decide) (fun c_2 => ?_) (fun c_2 => ?_)
      · skip
        refine lv_iconst (v := 0) hx hb dX0_is_32 (by decide) ?_
        exact k_iret hx hb hr hlocks ⟨hK, hP, hD, hS, hA, hE, hN⟩ rfl dX0_is_33 (Nat.le_of_ble_eq_true rfl) (Nat.le_of_ble_eq_true rfl) ⟨(by simp only [sp_X0_is, if_pos c_0, if_pos c_1, if_neg c_2]), rfl⟩
      · skip
        refine lv_iconst (v := 1) hx hb dX0_is_28 (by decide) ?_
        refine lv_goto (tgt := 33) hx hb dX0_is_29 (by decide) ?_
        exact k_iret hx hb hr hlocks ⟨hK, hP, hD, hS, hA, hE, hN⟩ rfl dX0_is_33 (Nat.le_of_ble_eq_true rfl) (Nat.le_of_ble_eq_true rfl) ⟨(by simp only [sp_X0_is, if_pos c_0, if_pos c_1, if_pos c_2]), rfl⟩
def sp_X0_writeByte_cells (N : Nat) (f : Nat → Int32) (i : Int32) (v : Int32) : Nat → Int32 := if i < 0 then f else (if (nI N) ≤ i then f else (upd f i.toNatClampNeg v))
set_option maxHeartbeats 4000000 in
set_option maxRecDepth 100000 in
theorem c_X0_writeByte (l : Launch) (g : KG) (h : Nat) (q : Nat) (N : Nat) (f : Nat → Int32) (len : Int32) (i : Int32) (v : Int32) (hNn : N < 2 ^ 31) : Cv l g yX0_writeByte wsX0_writeByte ({ frames := 0, cells := 0, slots := 0, locals := 0 }) [.ref h, .int i, .int v] [(h, .inr (0, [.ref q, .int len])), (q, .inl (g.2.1.1, N, .inl f))] (fun u => u = [(h, .inr (0, [.ref q, .int len])), (q, .inl (g.2.1.1, N, .inl (sp_X0_writeByte_cells N f i v)))]) 0 0 := by
  intro sz
  refine Met.ofW (cc := cX0_writeByte) (maxL := 3) (ret := none) (by decide) rfl ?_
  intro p e s m args below meth c s₁ B hml hv
  obtain ⟨rfl, hsz, hP, hK, hD0, hE, hN⟩ := hv
  have hx := B.exec
  have hb := B.bytes
  have hr := B.returns
  have hts := atoms_spec (ws := wsX0_writeByte) B.pre
  have hown : s.vm.findClass RX0 = some m.cls := findClass_of_methodNamed B.named
  have hlocks := B.notSynchronized
  have iX0 : ∀ w ∈ u_ws RX0 TX0 2, w ∈ wsX0_writeByte := by decide +kernel
  subst hsz
  have hD := hD0.self (sz := s.heap.size)
  generalize hAe : va_A [(h, .inr (0, [.ref q, .int len])), (q, .inl (g.2.1.1, N, .inl f))] s.heap.size = A at hD hE ⊢
  have hA : ∀ q : Nat, s.heap.size ≤ q → A q := fun q h => by rw [← hAe]; exact Or.inr h
  have hS : va_S A s.heap s.heap [] := va_S.rf
  have hl := lv_entry ([.ref h, .int i, .int v]) (n := 3) (Nat.le_of_ble_eq_true rfl)
  rw [lg_entry_eq]
  generalize (lg_sl ([.ref h, .int i, .int v]) ++ List.replicate (3 - (lg_sl ([.ref h, .int i, .int v])).length) Slot.unset).toArray = ls at hl ⊢
  have hl : lv_has ls 3 [(0, .ref h), (1, .int i), (2, .int v)] := hl
  refine lv_iload_n hx hb dX0_writeByte_0 rfl (lv_at hl 1 rfl) ?_
  refine lv_if_lt (tgt := 20) hx hb dX0_writeByte_1 (by decide) (fun c_0 => ?_) (fun c_0 => ?_)
  · skip
    exact k_vret hx hb hr hlocks ⟨hK, hP, hD, hS, hA, hE, hN⟩ dX0_writeByte_20 (Nat.le_of_ble_eq_true rfl) (Nat.le_of_ble_eq_true rfl) (by simp only [sp_X0_writeByte_cells, if_pos c_0])
  · skip
    refine lv_iload_n hx hb dX0_writeByte_4 rfl (lv_at hl 1 rfl) ?_
    refine lv_aload_n hx hb dX0_writeByte_5 rfl (lv_at hl 0 rfl) ?_
    refine va_get (D := g.1) (ci := 0) (v := .ref q) (C := RX0) (T := TX0) (N := 2) hx hb hts iX0 hown hK hP 0 rfl rfl 0 (by decide) (hts (.fieldLink RX0 15 "FaultIsolation$Code" "cells" "[I") (by decide +kernel)) (fun _ h9 => h9) rfl dX0_writeByte_6 ?_
    refine va_alen (v := nI N) hx hb hK hP 1 0 rfl rfl rfl dX0_writeByte_9 ?_
    refine lv_icmp_ge (tgt := 20) hx hb dX0_writeByte_10 (by decide) (fun c_1 => ?_) (fun c_1 => ?_)
    · skip
      exact k_vret hx hb hr hlocks ⟨hK, hP, hD, hS, hA, hE, hN⟩ dX0_writeByte_20 (Nat.le_of_ble_eq_true rfl) (Nat.le_of_ble_eq_true rfl) (by simp only [sp_X0_writeByte_cells, if_neg c_0, if_pos c_1])
    · skip
      refine lv_aload_n hx hb dX0_writeByte_13 rfl (lv_at hl 0 rfl) ?_
      refine va_get (D := g.1) (ci := 0) (v := .ref q) (C := RX0) (T := TX0) (N := 2) hx hb hts iX0 hown hK hP 0 rfl rfl 0 (by decide) (hts (.fieldLink RX0 15 "FaultIsolation$Code" "cells" "[I") (by decide +kernel)) (fun _ h9 => h9) rfl dX0_writeByte_14 ?_
      refine lv_iload_n hx hb dX0_writeByte_17 rfl (lv_at hl 1 rfl) ?_
      refine lv_iload_n hx hb dX0_writeByte_18 rfl (lv_at hl 2 rfl) ?_
      refine va_iast hx hb hK hP hD hS 1 0 rfl rfl (k_in c_0 c_1 hNn) dX0_writeByte_19 (fun H locs hP hD hS => ?_)
      have hP : va_P g.1 vwCl [(h, .inr (0, [.ref q, .int len])), (q, .inl (g.2.1.1, N, .inl (upd f i.toNatClampNeg v)))] H := hP
      have hD : va_D A [(h, .inr (0, [.ref q, .int len])), (q, .inl (g.2.1.1, N, .inl (upd f i.toNatClampNeg v)))] := hD
      exact k_vret hx hb hr hlocks ⟨hK, hP, hD, hS, hA, hE, hN⟩ dX0_writeByte_20 (Nat.le_of_ble_eq_true rfl) (Nat.le_of_ble_eq_true rfl) (by simp only [sp_X0_writeByte_cells, if_neg c_0, if_neg c_1])
