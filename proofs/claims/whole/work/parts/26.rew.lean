theorem k_if01 {c : Prop} [Decidable c] {a b : Int32} (ha : a = 0 ∨ a = 1) (hb : b = 0 ∨ b = 1) : (if c then a else b) = 0 ∨ (if c then a else b) = 1 := by
  split
  · exact ha
  · exact hb
def sp_X2_newAddress (fa : Nat → Int32) (kn : Int32) (i : Int32) : Int32 := if i < 0 then (-1) else (if kn ≤ i then (-1) else (if (nI 60) ≤ i then (-1) else (fa i.toNatClampNeg)))
set_option maxHeartbeats 4000000 in
set_option maxRecDepth 100000 in
theorem c_X2_newAddress (l : Launch) (g : KG) (hR : Nat) (ql : Nat) (qp : Nat) (qa : Nat) (fl : Nat → Int32) (fp : Nat → Int32) (fa : Nat → Int32) (base : Int32) (kn : Int32) (en : Int32) (i : Int32)  : Ci l g yX2_newAddress wsX2_newAddress ({ frames := 0, cells := 0, slots := 0, locals := 0 }) [.ref hR, .int i] [(hR, .inr (2, [.int base, .ref ql, .ref qp, .ref qa, .int kn, .int en])), (ql, .inl (g.2.1.2.1, 60, .inl fl)), (qp, .inl (g.2.1.1, 60, .inl fp)), (qa, .inl (g.2.1.1, 60, .inl fa))] (fun r u => r = sp_X2_newAddress fa kn i ∧ u = [(hR, .inr (2, [.int base, .ref ql, .ref qp, .ref qa, .int kn, .int en])), (ql, .inl (g.2.1.2.1, 60, .inl fl)), (qp, .inl (g.2.1.1, 60, .inl fp)), (qa, .inl (g.2.1.1, 60, .inl fa))]) 0 0 := by
  intro sz
  refine Met.ofW (cc := cX2_newAddress) (maxL := 2) (ret := (some .int)) (by decide) rfl ?_
  intro p e s m args below meth c s₁ B hml hv
  obtain ⟨rfl, hsz, hP, hK, hD0, hE, hN⟩ := hv
  have hx := B.exec
  have hb := B.bytes
  have hr := B.returns
  have hts := atoms_spec (ws := wsX2_newAddress) B.pre
  have hown : s.vm.findClass RX2 = some m.cls := findClass_of_methodNamed B.named
  have hlocks := B.notSynchronized
  have iX2 : ∀ w ∈ u_ws RX2 TX2 6, w ∈ wsX2_newAddress := by decide +kernel
  subst hsz
  have hD := hD0.self (sz := s.heap.size)
  generalize hAe : va_A [(hR, .inr (2, [.int base, .ref ql, .ref qp, .ref qa, .int kn, .int en])), (ql, .inl (g.2.1.2.1, 60, .inl fl)), (qp, .inl (g.2.1.1, 60, .inl fp)), (qa, .inl (g.2.1.1, 60, .inl fa))] s.heap.size = A at hD hE ⊢
  have hA : ∀ q : Nat, s.heap.size ≤ q → A q := fun q h => by rw [← hAe]; exact Or.inr h
  have hS : va_S A s.heap s.heap [] := va_S.rf
  have hl := lv_entry ([.ref hR, .int i]) (n := 2) (Nat.le_of_ble_eq_true rfl)
  rw [lg_entry_eq]
  generalize (lg_sl ([.ref hR, .int i]) ++ List.replicate (2 - (lg_sl ([.ref hR, .int i])).length) Slot.unset).toArray = ls at hl ⊢
  have hl : lv_has ls 2 [(0, .ref hR), (1, .int i)] := hl
  refine lv_iload_n hx hb dX2_newAddress_0 rfl (lv_at hl 1 rfl) ?_
  refine lv_if_lt (tgt := 30) hx hb dX2_newAddress_1 (by decide) (fun c_0 => ?_) (fun c_0 => ?_)
  · skip
    refine lv_iconst (v := (-1)) hx hb dX2_newAddress_30 (by decide) ?_
    exact k_iret hx hb hr hlocks ⟨hK, hP, hD, hS, hA, hE, hN⟩ rfl dX2_newAddress_31 (Nat.le_of_ble_eq_true rfl) (Nat.le_of_ble_eq_true rfl) ⟨(by simp only [sp_X2_newAddress, if_pos c_0]), rfl⟩
  · skip
    refine lv_iload_n hx hb dX2_newAddress_4 rfl (lv_at hl 1 rfl) ?_
    refine lv_aload_n hx hb dX2_newAddress_5 rfl (lv_at hl 0 rfl) ?_
    refine va_get (D := g.1) (ci := 2) (v := .int kn) (C := RX2) (T := TX2) (N := 6) hx hb hts iX2 hown hK hP 0 rfl rfl 4 (by decide) (hts (.fieldLink RX2 26 "FaultIsolation$Rewriter" "known" "I") (by decide +kernel)) (fun _ h9 => h9) rfl dX2_newAddress_6 ?_
    refine lv_icmp_ge (tgt := 30) hx hb dX2_newAddress_9 (by decide) (fun c_1 => ?_) (fun c_1 => ?_)
    · skip
      refine lv_iconst (v := (-1)) hx hb dX2_newAddress_30 (by decide) ?_
      exact k_iret hx hb hr hlocks ⟨hK, hP, hD, hS, hA, hE, hN⟩ rfl dX2_newAddress_31 (Nat.le_of_ble_eq_true rfl) (Nat.le_of_ble_eq_true rfl) ⟨(by simp only [sp_X2_newAddress, if_neg c_0, if_pos c_1]), rfl⟩
    · skip
      refine lv_iload_n hx hb dX2_newAddress_12 rfl (lv_at hl 1 rfl) ?_
      refine lv_aload_n hx hb dX2_newAddress_13 rfl (lv_at hl 0 rfl) ?_
      refine va_get (D := g.1) (ci := 2) (v := .ref qa) (C := RX2) (T := TX2) (N := 6) hx hb hts iX2 hown hK hP 0 rfl rfl 3 (by decide) (hts (.fieldLink RX2 19 "FaultIsolation$Rewriter" "addresses" "[I") (by decide +kernel)) (fun _ h9 => h9) rfl dX2_newAddress_14 ?_
      refine va_alen (v := nI 60) hx hb hK hP 3 0 rfl rfl rfl dX2_newAddress_17 ?_
      refine lv_icmp_ge (tgt := 30) hx hb dX2_newAddress_18 (by decide) (fun c_2 => ?_) (fun c_2 => ?_)
      · skip
        refine lv_iconst (v := (-1)) hx hb dX2_newAddress_30 (by decide) ?_
        exact k_iret hx hb hr hlocks ⟨hK, hP, hD, hS, hA, hE, hN⟩ rfl dX2_newAddress_31 (Nat.le_of_ble_eq_true rfl) (Nat.le_of_ble_eq_true rfl) ⟨(by simp only [sp_X2_newAddress, if_neg c_0, if_neg c_1, if_pos c_2]), rfl⟩
      · skip
        refine lv_aload_n hx hb dX2_newAddress_21 rfl (lv_at hl 0 rfl) ?_
        refine va_get (D := g.1) (ci := 2) (v := .ref qa) (C := RX2) (T := TX2) (N := 6) hx hb hts iX2 hown hK hP 0 rfl rfl 3 (by decide) (hts (.fieldLink RX2 19 "FaultIsolation$Rewriter" "addresses" "[I") (by decide +kernel)) (fun _ h9 => h9) rfl dX2_newAddress_22 ?_
        refine lv_iload_n hx hb dX2_newAddress_25 rfl (lv_at hl 1 rfl) ?_
        refine va_iald hx hb hK hP 3 0 rfl rfl (k_in c_0 c_2 (by decide)) dX2_newAddress_26 ?_
        refine lv_goto (tgt := 31) hx hb dX2_newAddress_27 (by decide) ?_
        exact k_iret hx hb hr hlocks ⟨hK, hP, hD, hS, hA, hE, hN⟩ rfl dX2_newAddress_31 (Nat.le_of_ble_eq_true rfl) (Nat.le_of_ble_eq_true rfl) ⟨(by simp only [sp_X2_newAddress, if_neg c_0, if_neg c_1, if_neg c_2]), rfl⟩
def sp_X2_forget_known  : Int32 := 0
set_option maxHeartbeats 4000000 in
set_option maxRecDepth 100000 in
theorem c_X2_forget (l : Launch) (g : KG) (hR : Nat) (ql : Nat) (qp : Nat) (qa : Nat) (fl : Nat → Int32) (fp : Nat → Int32) (fa : Nat → Int32) (base : Int32) (kn : Int32) (en : Int32)  : Cv l g yX2_forget wsX2_forget ({ frames := 0, cells := 0, slots := 0, locals := 0 }) [.ref hR] [(hR, .inr (2, [.int base, .ref ql, .ref qp, .ref qa, .int kn, .int en])), (ql, .inl (g.2.1.2.1, 60, .inl fl)), (qp, .inl (g.2.1.1, 60, .inl fp)), (qa, .inl (g.2.1.1, 60, .inl fa))] (fun u => u = [(hR, .inr (2, [.int base, .ref ql, .ref qp, .ref qa, .int sp_X2_forget_known, .int en])), (ql, .inl (g.2.1.2.1, 60, .inl fl)), (qp, .inl (g.2.1.1, 60, .inl fp)), (qa, .inl (g.2.1.1, 60, .inl fa))]) 0 0 := by
  intro sz
  refine Met.ofW (cc := cX2_forget) (maxL := 1) (ret := none) (by decide) rfl ?_
  intro p e s m args below meth c s₁ B hml hv
  obtain ⟨rfl, hsz, hP, hK, hD0, hE, hN⟩ := hv
  have hx := B.exec
  have hb := B.bytes
  have hr := B.returns
  have hts := atoms_spec (ws := wsX2_forget) B.pre
  have hown : s.vm.findClass RX2 = some m.cls := findClass_of_methodNamed B.named
  have hlocks := B.notSynchronized
  have iX2 : ∀ w ∈ u_ws RX2 TX2 6, w ∈ wsX2_forget := by decide +kernel
  subst hsz
  have hD := hD0.self (sz := s.heap.size)
  generalize hAe : va_A [(hR, .inr (2, [.int base, .ref ql, .ref qp, .ref qa, .int kn, .int en])), (ql, .inl (g.2.1.2.1, 60, .inl fl)), (qp, .inl (g.2.1.1, 60, .inl fp)), (qa, .inl (g.2.1.1, 60, .inl fa))] s.heap.size = A at hD hE ⊢
  have hA : ∀ q : Nat, s.heap.size ≤ q → A q := fun q h => by rw [← hAe]; exact Or.inr h
  have hS : va_S A s.heap s.heap [] := va_S.rf
  have hl := lv_entry ([.ref hR]) (n := 1) (Nat.le_of_ble_eq_true rfl)
  rw [lg_entry_eq]
  generalize (lg_sl ([.ref hR]) ++ List.replicate (1 - (lg_sl ([.ref hR])).length) Slot.unset).toArray = ls at hl ⊢
  have hl : lv_has ls 1 [(0, .ref hR)] := hl
  refine lv_aload_n hx hb dX2_forget_0 rfl (lv_at hl 0 rfl) ?_
  refine lv_iconst (v := 0) hx hb dX2_forget_1 (by decide) ?_
  refine va_put (D := g.1) (ci := 2) (v := .int 0) (ty := .int) (C := RX2) (T := TX2) (N := 6) hx hb hts iX2 tyX2 tyX2_ok nmX2 hown hK hP hD hS 0 rfl rfl 4 (by decide) (hts (.fieldLink RX2 26 "FaultIsolation$Rewriter" "known" "I") (by decide +kernel)) (fun _ h9 => h9) rfl (by decide +kernel) rfl rfl (Nat.le_of_ble_eq_true rfl) dX2_forget_2 (fun H locs hP hD hS => ?_)
  have hP : va_P g.1 vwCl [(hR, .inr (2, [.int base, .ref ql, .ref qp, .ref qa, .int 0, .int en])), (ql, .inl (g.2.1.2.1, 60, .inl fl)), (qp, .inl (g.2.1.1, 60, .inl fp)), (qa, .inl (g.2.1.1, 60, .inl fa))] H := hP
  have hD : va_D A [(hR, .inr (2, [.int base, .ref ql, .ref qp, .ref qa, .int 0, .int en])), (ql, .inl (g.2.1.2.1, 60, .inl fl)), (qp, .inl (g.2.1.1, 60, .inl fp)), (qa, .inl (g.2.1.1, 60, .inl fa))] := hD
  exact k_vret hx hb hr hlocks ⟨hK, hP, hD, hS, hA, hE, hN⟩ dX2_forget_5 (Nat.le_of_ble_eq_true rfl) (Nat.le_of_ble_eq_true rfl) rfl
def sp_X2_bundleStartFrom (i : Int32) : Int32 := (((i + 16) - 1) / 16) * 16
set_option maxHeartbeats 4000000 in
set_option maxRecDepth 100000 in
theorem c_X2_bundleStartFrom (l : Launch) (g : KG) (i : Int32)  : Ci l g yX2_bundleStartFrom wsX2_bundleStartFrom ({ frames := 0, cells := 0, slots := 0, locals := 0 }) [.int i] [] (fun r u => r = sp_X2_bundleStartFrom i ∧ u = []) 0 0 := by
  intro sz
  refine Met.ofW (cc := cX2_bundleStartFrom) (maxL := 1) (ret := (some .int)) (by decide) rfl ?_
  intro p e s m args below meth c s₁ B hml hv
  obtain ⟨rfl, hsz, hP, hK, hD0, hE, hN⟩ := hv
  have hx := B.exec
  have hb := B.bytes
  have hr := B.returns
  have hts := atoms_spec (ws := wsX2_bundleStartFrom) B.pre
  have hown : s.vm.findClass RX2 = some m.cls := findClass_of_methodNamed B.named
  have hlocks := B.notSynchronized
  subst hsz
  have hD := hD0.self (sz := s.heap.size)
  generalize hAe : va_A [] s.heap.size = A at hD hE ⊢
  have hA : ∀ q : Nat, s.heap.size ≤ q → A q := fun q h => by rw [← hAe]; exact Or.inr h
  have hS : va_S A s.heap s.heap [] := va_S.rf
  have hl := lv_entry ([.int i]) (n := 1) (Nat.le_of_ble_eq_true rfl)
  rw [lg_entry_eq]
  generalize (lg_sl ([.int i]) ++ List.replicate (1 - (lg_sl ([.int i])).length) Slot.unset).toArray = ls at hl ⊢
  have hl : lv_has ls 1 [(0, .int i)] := hl
  refine lv_iload_n hx hb dX2_bundleStartFrom_0 rfl (lv_at hl 0 rfl) ?_
  refine lv_bipush (v := 16) hx hb dX2_bundleStartFrom_1 (by decide) ?_
  refine lv_iadd hx hb dX2_bundleStartFrom_3 ?_
  refine lv_iconst (v := 1) hx hb dX2_bundleStartFrom_4 (by decide) ?_
  refine lv_isub hx hb dX2_bundleStartFrom_5 ?_
  refine lv_bipush (v := 16) hx hb dX2_bundleStartFrom_6 (by decide) ?_
  refine lv_idiv hx hb dX2_bundleStartFrom_8 (by decide) ?_
  refine lv_bipush (v := 16) hx hb dX2_bundleStartFrom_9 (by decide) ?_
  refine lv_imul hx hb dX2_bundleStartFrom_11 ?_
  exact k_iret hx hb hr hlocks ⟨hK, hP, hD, hS, hA, hE, hN⟩ rfl dX2_bundleStartFrom_12 (Nat.le_of_ble_eq_true rfl) (Nat.le_of_ble_eq_true rfl) ⟨rfl, rfl⟩
def sp_X2_sizeOf (wd : Int32) : Int32 := if wd = 10 then 16 else (if wd = 11 then 16 else (if wd = 14 then 12 else 4))
set_option maxHeartbeats 4000000 in
set_option maxRecDepth 100000 in
theorem c_X2_sizeOf (l : Launch) (g : KG) (wd : Int32)  : Ci l g yX2_sizeOf wsX2_sizeOf ({ frames := 0, cells := 0, slots := 0, locals := 0 }) [.int wd] [] (fun r u => r = sp_X2_sizeOf wd ∧ u = []) 0 0 := by
  intro sz
  refine Met.ofW (cc := cX2_sizeOf) (maxL := 1) (ret := (some .int)) (by decide) rfl ?_
  intro p e s m args below meth c s₁ B hml hv
  obtain ⟨rfl, hsz, hP, hK, hD0, hE, hN⟩ := hv
  have hx := B.exec
  have hb := B.bytes
  have hr := B.returns
  have hts := atoms_spec (ws := wsX2_sizeOf) B.pre
  have hown : s.vm.findClass RX2 = some m.cls := findClass_of_methodNamed B.named
  have hlocks := B.notSynchronized
  subst hsz
  have hD := hD0.self (sz := s.heap.size)
  generalize hAe : va_A [] s.heap.size = A at hD hE ⊢
  have hA : ∀ q : Nat, s.heap.size ≤ q → A q := fun q h => by rw [← hAe]; exact Or.inr h
  have hS : va_S A s.heap s.heap [] := va_S.rf
  have hl := lv_entry ([.int wd]) (n := 1) (Nat.le_of_ble_eq_true rfl)
  rw [lg_entry_eq]
  generalize (lg_sl ([.int wd]) ++ List.replicate (1 - (lg_sl ([.int wd])).length) Slot.unset).toArray = ls at hl ⊢
  have hl : lv_has ls 1 [(0, .int wd)] := hl
  refine lv_iload_n hx hb dX2_sizeOf_0 rfl (lv_at hl 0 rfl) ?_
  refine lv_bipush (v := 10) hx hb dX2_sizeOf_1 (by decide) ?_
  refine lv_icmp_eq (tgt := 12) hx hb dX2_sizeOf_3 (by decide) (fun c_0 => ?_) (fun c_0 => ?_)
  · skip
    refine lv_bipush (v := 16) hx hb dX2_sizeOf_12 (by decide) ?_
    exact k_iret hx hb hr hlocks ⟨hK, hP, hD, hS, hA, hE, hN⟩ rfl dX2_sizeOf_14 (Nat.le_of_ble_eq_true rfl) (Nat.le_of_ble_eq_true rfl) ⟨(by simp only [sp_X2_sizeOf, if_pos c_0]), rfl⟩
  · skip
    refine lv_iload_n hx hb dX2_sizeOf_6 rfl (lv_at hl 0 rfl) ?_
    refine lv_bipush (v := 11) hx hb dX2_sizeOf_7 (by decide) ?_
    refine lv_icmp_ne (tgt := 15) hx hb dX2_sizeOf_9 (by decide) (fun c_1 => ?_) (fun c_1 => ?_)
    · skip
      refine lv_iload_n hx hb dX2_sizeOf_15 rfl (lv_at hl 0 rfl) ?_
      refine lv_bipush (v := 14) hx hb dX2_sizeOf_16 (by decide) ?_
      refine lv_icmp_ne (tgt := 26) hx hb dX2_sizeOf_18 (by decide) (fun c_2 => ?_) (fun c_2 => ?_)
      · skip
        refine lv_iconst (v := 4) hx hb dX2_sizeOf_26 (by decide) ?_
        exact k_iret hx hb hr hlocks ⟨hK, hP, hD, hS, hA, hE, hN⟩ rfl dX2_sizeOf_27 (Nat.le_of_ble_eq_true rfl) (Nat.le_of_ble_eq_true rfl) ⟨(by simp only [sp_X2_sizeOf, if_neg c_0, if_neg c_1, if_neg c_2]), rfl⟩
      · skip
        refine lv_bipush (v := 12) hx hb dX2_sizeOf_21 (by decide) ?_
        refine lv_goto (tgt := 27) hx hb dX2_sizeOf_23 (by decide) ?_
        exact k_iret hx hb hr hlocks ⟨hK, hP, hD, hS, hA, hE, hN⟩ rfl dX2_sizeOf_27 (Nat.le_of_ble_eq_true rfl) (Nat.le_of_ble_eq_true rfl) ⟨(by simp only [sp_X2_sizeOf, if_neg c_0, if_neg c_1, if_pos c_2]), rfl⟩
    · skip
      refine lv_bipush (v := 16) hx hb dX2_sizeOf_12 (by decide) ?_
      exact k_iret hx hb hr hlocks ⟨hK, hP, hD, hS, hA, hE, hN⟩ rfl dX2_sizeOf_14 (Nat.le_of_ble_eq_true rfl) (Nat.le_of_ble_eq_true rfl) ⟨(by simp only [sp_X2_sizeOf, if_neg c_0, if_pos c_1]), rfl⟩
def sp_X2_firstWritten (i : Int32) (wd : Int32) : Int32 := if wd = 15 then (((i - (i - i / 16 * 16)) + 16) - 4) else (if 16 < ((i - i / 16 * 16) + (sp_X2_sizeOf wd)) then (sp_X2_bundleStartFrom i) else i)
set_option maxHeartbeats 4000000 in
set_option maxRecDepth 100000 in
theorem c_X2_firstWritten (l : Launch) (g : KG) (i : Int32) (wd : Int32)  : Ci l g yX2_firstWritten wsX2_firstWritten ({ frames := 1, cells := 0, slots := 0, locals := 20 }) [.int i, .int wd] [] (fun r u => r = sp_X2_firstWritten i wd ∧ u = []) 0 0 := by
  intro sz
  refine Met.ofW (cc := cX2_firstWritten) (maxL := 3) (ret := (some .int)) (by decide) rfl ?_
  intro p e s m args below meth c s₁ B hml hv
  obtain ⟨rfl, hsz, hP, hK, hD0, hE, hN⟩ := hv
  have hx := B.exec
  have hb := B.bytes
  have hr := B.returns
  have hts := atoms_spec (ws := wsX2_firstWritten) B.pre
  have hown : s.vm.findClass RX2 = some m.cls := findClass_of_methodNamed B.named
  have hlocks := B.notSynchronized
  subst hsz
  have hD := hD0.self (sz := s.heap.size)
  generalize hAe : va_A [] s.heap.size = A at hD hE ⊢
  have hA : ∀ q : Nat, s.heap.size ≤ q → A q := fun q h => by rw [← hAe]; exact Or.inr h
  have hS : va_S A s.heap s.heap [] := va_S.rf
  have hl := lv_entry ([.int i, .int wd]) (n := 3) (Nat.le_of_ble_eq_true rfl)
  rw [lg_entry_eq]
  generalize (lg_sl ([.int i, .int wd]) ++ List.replicate (3 - (lg_sl ([.int i, .int wd])).length) Slot.unset).toArray = ls at hl ⊢
  have hl : lv_has ls 3 [(0, .int i), (1, .int wd)] := hl
  refine lv_iload_n hx hb dX2_firstWritten_0 rfl (lv_at hl 0 rfl) ?_
  refine lv_bipush (v := 16) hx hb dX2_firstWritten_1 (by decide) ?_
  refine lv_irem hx hb dX2_firstWritten_3 (by decide) ?_
  refine lv_istore_n (lv' := [(2, .int (i - i / 16 * 16)), (0, .int i), (1, .int wd)]) hx hb dX2_firstWritten_4 rfl hl (by decide) rfl (fun ls hl => ?_)
  refine lv_iload_n hx hb dX2_firstWritten_5 rfl (lv_at hl 2 rfl) ?_
  refine lv_bipush (v := 15) hx hb dX2_firstWritten_6 (by decide) ?_
  refine lv_icmp_ne (tgt := 20) hx hb dX2_firstWritten_8 (by decide) (fun c_0 => ?_) (fun c_0 => ?_)
  · skip
    refine lv_iload_n hx hb dX2_firstWritten_20 rfl (lv_at hl 0 rfl) ?_
    refine lv_iload_n hx hb dX2_firstWritten_21 rfl (lv_at hl 2 rfl) ?_
    refine kiS (As := [.int wd]) (rest := [.int (i - i / 16 * 16)]) (wc := []) (wr := []) ⟨hx, hb, hml, hown, hts⟩ (c_X2_sizeOf l g wd) (va_cwS 1 hts gX2_firstWritten_X2_sizeOf rfl rfl rfl (by decide +kernel) ⟨Nat.le_of_ble_eq_true rfl, Nat.le_of_ble_eq_true rfl⟩) ⟨hK, hP, hD, hS, hA, hE, hN⟩ [] [] ⟨rfl, rfl, by decide⟩ rfl hl.1 (Nat.le_of_ble_eq_true rfl) dX2_firstWritten_22 ⟨Nat.le_of_ble_eq_true rfl, Nat.le_of_ble_eq_true rfl⟩ rfl (fun r u H locs hw hP hD hS => ?_)
    obtain ⟨hq, hw⟩ := hw
    subst r
    subst hw
    have hP := hP.sub (ws' := []) [] rfl
    have hD := hD.sub (ws' := []) [] (by decide) rfl
    refine lv_iadd hx hb dX2_firstWritten_25 ?_
    refine lv_bipush (v := 16) hx hb dX2_firstWritten_26 (by decide) ?_
    refine lv_icmp_gt (tgt := 35) hx hb dX2_firstWritten_28 (by decide) (fun c_1 => ?_) (fun c_1 => ?_)
    · skip
      refine lv_iload_n hx hb dX2_firstWritten_35 rfl (lv_at hl 1 rfl) ?_
      refine kiS (As := [.int i]) (rest := []) (wc := []) (wr := []) ⟨hx, hb, hml, hown, hts⟩ (c_X2_bundleStartFrom l g i) (va_cwS 1 hts gX2_firstWritten_X2_bundleStartFrom rfl rfl rfl (by decide +kernel) ⟨Nat.le_of_ble_eq_true rfl, Nat.le_of_ble_eq_true rfl⟩) ⟨hK, hP, hD, hS, hA, hE, hN⟩ [] [] ⟨rfl, rfl, by decide⟩ rfl hl.1 (Nat.le_of_ble_eq_true rfl) dX2_firstWritten_36 ⟨Nat.le_of_ble_eq_true rfl, Nat.le_of_ble_eq_true rfl⟩ rfl (fun r u H locs hw hP hD hS => ?_)
      obtain ⟨hq, hw⟩ := hw
      subst r
      subst hw
      have hP := hP.sub (ws' := []) [] rfl
      have hD := hD.sub (ws' := []) [] (by decide) rfl
      exact k_iret hx hb hr hlocks ⟨hK, hP, hD, hS, hA, hE, hN⟩ rfl dX2_firstWritten_39 (Nat.le_of_ble_eq_true rfl) (Nat.le_of_ble_eq_true rfl) ⟨(by simp only [sp_X2_firstWritten, if_neg c_0, if_pos c_1]), rfl⟩
    · skip
      refine lv_iload_n hx hb dX2_firstWritten_31 rfl (lv_at hl 1 rfl) ?_
      refine lv_goto (tgt := 39) hx hb dX2_firstWritten_32 (by decide) ?_
      exact k_iret hx hb hr hlocks ⟨hK, hP, hD, hS, hA, hE, hN⟩ rfl dX2_firstWritten_39 (Nat.le_of_ble_eq_true rfl) (Nat.le_of_ble_eq_true rfl) ⟨(by simp only [sp_X2_firstWritten, if_neg c_0, if_neg c_1]), rfl⟩
  · skip
    refine lv_iload_n hx hb dX2_firstWritten_11 rfl (lv_at hl 1 rfl) ?_
    refine lv_iload_n hx hb dX2_firstWritten_12 rfl (lv_at hl 0 rfl) ?_
    refine lv_isub hx hb dX2_firstWritten_13 ?_
    refine lv_bipush (v := 16) hx hb dX2_firstWritten_14 (by decide) ?_
    refine lv_iadd hx hb dX2_firstWritten_16 ?_
    refine lv_iconst (v := 4) hx hb dX2_firstWritten_17 (by decide) ?_
    refine lv_isub hx hb dX2_firstWritten_18 ?_
    exact k_iret hx hb hr hlocks ⟨hK, hP, hD, hS, hA, hE, hN⟩ rfl dX2_firstWritten_19 (Nat.le_of_ble_eq_true rfl) (Nat.le_of_ble_eq_true rfl) ⟨(by simp only [sp_X2_firstWritten, if_pos c_0]), rfl⟩
def sp_X2_append_end (en : Int32) : Int32 := en + 4
def sp_X2_append_cells (en : Int32) (N : Nat) (f : Nat → Int32) (wd : Int32) (a : Int32) (b : Int32) (c0 : Int32) : Nat → Int32 := sp_X0_write_cells N f en wd a b c0
set_option maxHeartbeats 4000000 in
set_option maxRecDepth 100000 in
theorem c_X2_append (l : Launch) (g : KG) (hR : Nat) (ql : Nat) (qp : Nat) (qa : Nat) (fl : Nat → Int32) (fp : Nat → Int32) (fa : Nat → Int32) (base : Int32) (kn : Int32) (en : Int32) (h : Nat) (q : Nat) (N : Nat) (f : Nat → Int32) (len : Int32) (wd : Int32) (a : Int32) (b : Int32) (c0 : Int32) (hNn : N < 2 ^ 31) : Cv l g yX2_append wsX2_append ({ frames := 1, cells := 0, slots := 0, locals := 25 }) [.ref hR, .ref h, .int wd, .int a, .int b, .int c0] [(hR, .inr (2, [.int base, .ref ql, .ref qp, .ref qa, .int kn, .int en])), (ql, .inl (g.2.1.2.1, 60, .inl fl)), (qp, .inl (g.2.1.1, 60, .inl fp)), (qa, .inl (g.2.1.1, 60, .inl fa)), (h, .inr (0, [.ref q, .int len])), (q, .inl (g.2.1.1, N, .inl f))] (fun u => u = [(hR, .inr (2, [.int base, .ref ql, .ref qp, .ref qa, .int kn, .int (sp_X2_append_end en)])), (ql, .inl (g.2.1.2.1, 60, .inl fl)), (qp, .inl (g.2.1.1, 60, .inl fp)), (qa, .inl (g.2.1.1, 60, .inl fa)), (h, .inr (0, [.ref q, .int len])), (q, .inl (g.2.1.1, N, .inl (sp_X2_append_cells en N f wd a b c0)))]) 0 0 := by
  intro sz
  refine Met.ofW (cc := cX2_append) (maxL := 6) (ret := none) (by decide) rfl ?_
  intro p e s m args below meth c s₁ B hml hv
  obtain ⟨rfl, hsz, hP, hK, hD0, hE, hN⟩ := hv
  have hx := B.exec
  have hb := B.bytes
  have hr := B.returns
  have hts := atoms_spec (ws := wsX2_append) B.pre
  have hown : s.vm.findClass RX2 = some m.cls := findClass_of_methodNamed B.named
  have hlocks := B.notSynchronized
  have iX2 : ∀ w ∈ u_ws RX2 TX2 6, w ∈ wsX2_append := by decide +kernel
  subst hsz
  have hD := hD0.self (sz := s.heap.size)
  generalize hAe : va_A [(hR, .inr (2, [.int base, .ref ql, .ref qp, .ref qa, .int kn, .int en])), (ql, .inl (g.2.1.2.1, 60, .inl fl)), (qp, .inl (g.2.1.1, 60, .inl fp)), (qa, .inl (g.2.1.1, 60, .inl fa)), (h, .inr (0, [.ref q, .int len])), (q, .inl (g.2.1.1, N, .inl f))] s.heap.size = A at hD hE ⊢
  have hA : ∀ q : Nat, s.heap.size ≤ q → A q := fun q h => by rw [← hAe]; exact Or.inr h
  have hS : va_S A s.heap s.heap [] := va_S.rf
  have hl := lv_entry ([.ref hR, .ref h, .int wd, .int a, .int b, .int c0]) (n := 6) (Nat.le_of_ble_eq_true rfl)
  rw [lg_entry_eq]
  generalize (lg_sl ([.ref hR, .ref h, .int wd, .int a, .int b, .int c0]) ++ List.replicate (6 - (lg_sl ([.ref hR, .ref h, .int wd, .int a, .int b, .int c0])).length) Slot.unset).toArray = ls at hl ⊢
  have hl : lv_has ls 6 [(0, .ref hR), (1, .ref h), (2, .int wd), (3, .int a), (4, .int b), (5, .int c0)] := hl
  refine lv_aload_n hx hb dX2_append_0 rfl (lv_at hl 1 rfl) ?_
  refine lv_aload_n hx hb dX2_append_1 rfl (lv_at hl 0 rfl) ?_
  refine va_get (D := g.1) (ci := 2) (v := .int en) (C := RX2) (T := TX2) (N := 6) hx hb hts iX2 hown hK hP 0 rfl rfl 5 (by decide) (hts (.fieldLink RX2 29 "FaultIsolation$Rewriter" "end" "I") (by decide +kernel)) (fun _ h9 => h9) rfl dX2_append_2 ?_
  refine lv_iload_n hx hb dX2_append_5 rfl (lv_at hl 2 rfl) ?_
  refine lv_iload_n hx hb dX2_append_6 rfl (lv_at hl 3 rfl) ?_
  refine lv_iload hx hb dX2_append_7 (lv_at hl 4 rfl) ?_
  refine lv_iload hx hb dX2_append_9 (lv_at hl 5 rfl) ?_
  refine kvV (As := [.int en, .int wd, .int a, .int b, .int c0]) (rest := []) (wc := [(h, .inr (0, [.ref q, .int len])), (q, .inl (g.2.1.1, N, .inl f))]) (wr := [(hR, .inr (2, [.int base, .ref ql, .ref qp, .ref qa, .int kn, .int en])), (ql, .inl (g.2.1.2.1, 60, .inl fl)), (qp, .inl (g.2.1.1, 60, .inl fp)), (qa, .inl (g.2.1.1, 60, .inl fa))]) ⟨hx, hb, hml, hown, hts⟩ (c_X0_write l g h q N f len en wd a b c0 hNn) (cwV 5 hts gX2_append_X0_write rfl rfl rfl (by decide +kernel) ⟨Nat.le_of_ble_eq_true rfl, Nat.le_of_ble_eq_true rfl⟩) ⟨hK, hP, hD, hS, hA, hE, hN⟩ [4, 5] [0, 1, 2, 3] ⟨rfl, rfl, by decide⟩ (q0 := 4) (ci := 0) rfl rfl rfl rfl hl.1 (Nat.le_of_ble_eq_true rfl) dX2_append_11 ⟨Nat.le_of_ble_eq_true rfl, Nat.le_of_ble_eq_true rfl⟩ rfl (fun u H locs hw hP hD hS => ?_)
  subst hw
  have hP := hP.sub (ws' := [(hR, .inr (2, [.int base, .ref ql, .ref qp, .ref qa, .int kn, .int en])), (ql, .inl (g.2.1.2.1, 60, .inl fl)), (qp, .inl (g.2.1.1, 60, .inl fp)), (qa, .inl (g.2.1.1, 60, .inl fa)), (h, .inr (0, [.ref q, .int len])), (q, .inl (g.2.1.1, N, .inl (sp_X0_write_cells N f en wd a b c0)))]) [0, 1, 2, 3, 4, 5] rfl
  have hD := hD.sub (ws' := [(hR, .inr (2, [.int base, .ref ql, .ref qp, .ref qa, .int kn, .int en])), (ql, .inl (g.2.1.2.1, 60, .inl fl)), (qp, .inl (g.2.1.1, 60, .inl fp)), (qa, .inl (g.2.1.1, 60, .inl fa)), (h, .inr (0, [.ref q, .int len])), (q, .inl (g.2.1.1, N, .inl (sp_X0_write_cells N f en wd a b c0)))]) [0, 1, 2, 3, 4, 5] (by decide) rfl
  refine lv_aload_n hx hb dX2_append_14 rfl (lv_at hl 0 rfl) ?_
  refine lv_dup hx hb dX2_append_15 rfl ?_
  refine va_get (D := g.1) (ci := 2) (v := .int en) (C := RX2) (T := TX2) (N := 6) hx hb hts iX2 hown hK hP 0 rfl rfl 5 (by decide) (hts (.fieldLink RX2 29 "FaultIsolation$Rewriter" "end" "I") (by decide +kernel)) (fun _ h9 => h9) rfl dX2_append_16 ?_
  refine lv_iconst (v := 4) hx hb dX2_append_19 (by decide) ?_
  refine lv_iadd hx hb dX2_append_20 ?_
  refine va_put (D := g.1) (ci := 2) (v := .int (en + 4)) (ty := .int) (C := RX2) (T := TX2) (N := 6) hx hb hts iX2 tyX2 tyX2_ok nmX2 hown hK hP hD hS 0 rfl rfl 5 (by decide) (hts (.fieldLink RX2 29 "FaultIsolation$Rewriter" "end" "I") (by decide +kernel)) (fun _ h9 => h9) rfl (by decide +kernel) rfl rfl (Nat.le_of_ble_eq_true rfl) dX2_append_21 (fun H locs hP hD hS => ?_)
  have hP : va_P g.1 vwCl [(hR, .inr (2, [.int base, .ref ql, .ref qp, .ref qa, .int kn, .int (en + 4)])), (ql, .inl (g.2.1.2.1, 60, .inl fl)), (qp, .inl (g.2.1.1, 60, .inl fp)), (qa, .inl (g.2.1.1, 60, .inl fa)), (h, .inr (0, [.ref q, .int len])), (q, .inl (g.2.1.1, N, .inl (sp_X0_write_cells N f en wd a b c0)))] H := hP
  have hD : va_D A [(hR, .inr (2, [.int base, .ref ql, .ref qp, .ref qa, .int kn, .int (en + 4)])), (ql, .inl (g.2.1.2.1, 60, .inl fl)), (qp, .inl (g.2.1.1, 60, .inl fp)), (qa, .inl (g.2.1.1, 60, .inl fa)), (h, .inr (0, [.ref q, .int len])), (q, .inl (g.2.1.1, N, .inl (sp_X0_write_cells N f en wd a b c0)))] := hD
  exact k_vret hx hb hr hlocks ⟨hK, hP, hD, hS, hA, hE, hN⟩ dX2_append_24 (Nat.le_of_ble_eq_true rfl) (Nat.le_of_ble_eq_true rfl) rfl
def sp_X2_appendN_end (en : Int32) : Int32 := en + 4
def sp_X2_appendN_cells (en : Int32) (N : Nat) (f : Nat → Int32) (wd : Int32) (a : Int32) (k : Int32) : Nat → Int32 := sp_X0_write_cells N f en wd a ((k >>> (8 &&& 31)) &&& 255) (k &&& 255)
set_option maxHeartbeats 4000000 in
set_option maxRecDepth 100000 in
theorem c_X2_appendN (l : Launch) (g : KG) (hR : Nat) (ql : Nat) (qp : Nat) (qa : Nat) (fl : Nat → Int32) (fp : Nat → Int32) (fa : Nat → Int32) (base : Int32) (kn : Int32) (en : Int32) (h : Nat) (q : Nat) (N : Nat) (f : Nat → Int32) (len : Int32) (wd : Int32) (a : Int32) (k : Int32) (hNn : N < 2 ^ 31) : Cv l g yX2_appendN wsX2_appendN ({ frames := 1, cells := 0, slots := 0, locals := 25 }) [.ref hR, .ref h, .int wd, .int a, .int k] [(hR, .inr (2, [.int base, .ref ql, .ref qp, .ref qa, .int kn, .int en])), (ql, .inl (g.2.1.2.1, 60, .inl fl)), (qp, .inl (g.2.1.1, 60, .inl fp)), (qa, .inl (g.2.1.1, 60, .inl fa)), (h, .inr (0, [.ref q, .int len])), (q, .inl (g.2.1.1, N, .inl f))] (fun u => u = [(hR, .inr (2, [.int base, .ref ql, .ref qp, .ref qa, .int kn, .int (sp_X2_appendN_end en)])), (ql, .inl (g.2.1.2.1, 60, .inl fl)), (qp, .inl (g.2.1.1, 60, .inl fp)), (qa, .inl (g.2.1.1, 60, .inl fa)), (h, .inr (0, [.ref q, .int len])), (q, .inl (g.2.1.1, N, .inl (sp_X2_appendN_cells en N f wd a k)))]) 0 0 := by
  intro sz
  refine Met.ofW (cc := cX2_appendN) (maxL := 5) (ret := none) (by decide) rfl ?_
  intro p e s m args below meth c s₁ B hml hv
  obtain ⟨rfl, hsz, hP, hK, hD0, hE, hN⟩ := hv
  have hx := B.exec
  have hb := B.bytes
  have hr := B.returns
  have hts := atoms_spec (ws := wsX2_appendN) B.pre
  have hown : s.vm.findClass RX2 = some m.cls := findClass_of_methodNamed B.named
  have hlocks := B.notSynchronized
  have iX2 : ∀ w ∈ u_ws RX2 TX2 6, w ∈ wsX2_appendN := by decide +kernel
  subst hsz
  have hD := hD0.self (sz := s.heap.size)
  generalize hAe : va_A [(hR, .inr (2, [.int base, .ref ql, .ref qp, .ref qa, .int kn, .int en])), (ql, .inl (g.2.1.2.1, 60, .inl fl)), (qp, .inl (g.2.1.1, 60, .inl fp)), (qa, .inl (g.2.1.1, 60, .inl fa)), (h, .inr (0, [.ref q, .int len])), (q, .inl (g.2.1.1, N, .inl f))] s.heap.size = A at hD hE ⊢
  have hA : ∀ q : Nat, s.heap.size ≤ q → A q := fun q h => by rw [← hAe]; exact Or.inr h
  have hS : va_S A s.heap s.heap [] := va_S.rf
  have hl := lv_entry ([.ref hR, .ref h, .int wd, .int a, .int k]) (n := 5) (Nat.le_of_ble_eq_true rfl)
  rw [lg_entry_eq]
  generalize (lg_sl ([.ref hR, .ref h, .int wd, .int a, .int k]) ++ List.replicate (5 - (lg_sl ([.ref hR, .ref h, .int wd, .int a, .int k])).length) Slot.unset).toArray = ls at hl ⊢
  have hl : lv_has ls 5 [(0, .ref hR), (1, .ref h), (2, .int wd), (3, .int a), (4, .int k)] := hl
  refine lv_aload_n hx hb dX2_appendN_0 rfl (lv_at hl 1 rfl) ?_
  refine lv_aload_n hx hb dX2_appendN_1 rfl (lv_at hl 0 rfl) ?_
  refine va_get (D := g.1) (ci := 2) (v := .int en) (C := RX2) (T := TX2) (N := 6) hx hb hts iX2 hown hK hP 0 rfl rfl 5 (by decide) (hts (.fieldLink RX2 29 "FaultIsolation$Rewriter" "end" "I") (by decide +kernel)) (fun _ h9 => h9) rfl dX2_appendN_2 ?_
  refine lv_iload_n hx hb dX2_appendN_5 rfl (lv_at hl 2 rfl) ?_
  refine lv_iload_n hx hb dX2_appendN_6 rfl (lv_at hl 3 rfl) ?_
  refine lv_iload hx hb dX2_appendN_7 (lv_at hl 4 rfl) ?_
  refine lv_bipush (v := 8) hx hb dX2_appendN_9 (by decide) ?_
  refine lv_ishr hx hb dX2_appendN_11 ?_
  refine lv_sipush (v := 255) hx hb dX2_appendN_12 (by decide) ?_
  refine lv_iand hx hb dX2_appendN_15 ?_
  refine lv_iload hx hb dX2_appendN_16 (lv_at hl 4 rfl) ?_
  refine lv_sipush (v := 255) hx hb dX2_appendN_18 (by decide) ?_
  refine lv_iand hx hb dX2_appendN_21 ?_
  refine kvV (As := [.int en, .int wd, .int a, .int ((k >>> (8 &&& 31)) &&& 255), .int (k &&& 255)]) (rest := []) (wc := [(h, .inr (0, [.ref q, .int len])), (q, .inl (g.2.1.1, N, .inl f))]) (wr := [(hR, .inr (2, [.int base, .ref ql, .ref qp, .ref qa, .int kn, .int en])), (ql, .inl (g.2.1.2.1, 60, .inl fl)), (qp, .inl (g.2.1.1, 60, .inl fp)), (qa, .inl (g.2.1.1, 60, .inl fa))]) ⟨hx, hb, hml, hown, hts⟩ (c_X0_write l g h q N f len en wd a ((k >>> (8 &&& 31)) &&& 255) (k &&& 255) hNn) (cwV 5 hts gX2_appendN_X0_write rfl rfl rfl (by decide +kernel) ⟨Nat.le_of_ble_eq_true rfl, Nat.le_of_ble_eq_true rfl⟩) ⟨hK, hP, hD, hS, hA, hE, hN⟩ [4, 5] [0, 1, 2, 3] ⟨rfl, rfl, by decide⟩ (q0 := 4) (ci := 0) rfl rfl rfl rfl hl.1 (Nat.le_of_ble_eq_true rfl) dX2_appendN_22 ⟨Nat.le_of_ble_eq_true rfl, Nat.le_of_ble_eq_true rfl⟩ rfl (fun u H locs hw hP hD hS => ?_)
  subst hw
  have hP := hP.sub (ws' := [(hR, .inr (2, [.int base, .ref ql, .ref qp, .ref qa, .int kn, .int en])), (ql, .inl (g.2.1.2.1, 60, .inl fl)), (qp, .inl (g.2.1.1, 60, .inl fp)), (qa, .inl (g.2.1.1, 60, .inl fa)), (h, .inr (0, [.ref q, .int len])), (q, .inl (g.2.1.1, N, .inl (sp_X0_write_cells N f en wd a ((k >>> (8 &&& 31)) &&& 255) (k &&& 255))))]) [0, 1, 2, 3, 4, 5] rfl
  have hD := hD.sub (ws' := [(hR, .inr (2, [.int base, .ref ql, .ref qp, .ref qa, .int kn, .int en])), (ql, .inl (g.2.1.2.1, 60, .inl fl)), (qp, .inl (g.2.1.1, 60, .inl fp)), (qa, .inl (g.2.1.1, 60, .inl fa)), (h, .inr (0, [.ref q, .int len])), (q, .inl (g.2.1.1, N, .inl (sp_X0_write_cells N f en wd a ((k >>> (8 &&& 31)) &&& 255) (k &&& 255))))]) [0, 1, 2, 3, 4, 5] (by decide) rfl
  refine lv_aload_n hx hb dX2_appendN_25 rfl (lv_at hl 0 rfl) ?_
  refine lv_dup hx hb dX2_appendN_26 rfl ?_
  refine va_get (D := g.1) (ci := 2) (v := .int en) (C := RX2) (T := TX2) (N := 6) hx hb hts iX2 hown hK hP 0 rfl rfl 5 (by decide) (hts (.fieldLink RX2 29 "FaultIsolation$Rewriter" "end" "I") (by decide +kernel)) (fun _ h9 => h9) rfl dX2_appendN_27 ?_
  refine lv_iconst (v := 4) hx hb dX2_appendN_30 (by decide) ?_
  refine lv_iadd hx hb dX2_appendN_31 ?_
  refine va_put (D := g.1) (ci := 2) (v := .int (en + 4)) (ty := .int) (C := RX2) (T := TX2) (N := 6) hx hb hts iX2 tyX2 tyX2_ok nmX2 hown hK hP hD hS 0 rfl rfl 5 (by decide) (hts (.fieldLink RX2 29 "FaultIsolation$Rewriter" "end" "I") (by decide +kernel)) (fun _ h9 => h9) rfl (by decide +kernel) rfl rfl (Nat.le_of_ble_eq_true rfl) dX2_appendN_32 (fun H locs hP hD hS => ?_)
  have hP : va_P g.1 vwCl [(hR, .inr (2, [.int base, .ref ql, .ref qp, .ref qa, .int kn, .int (en + 4)])), (ql, .inl (g.2.1.2.1, 60, .inl fl)), (qp, .inl (g.2.1.1, 60, .inl fp)), (qa, .inl (g.2.1.1, 60, .inl fa)), (h, .inr (0, [.ref q, .int len])), (q, .inl (g.2.1.1, N, .inl (sp_X0_write_cells N f en wd a ((k >>> (8 &&& 31)) &&& 255) (k &&& 255))))] H := hP
  have hD : va_D A [(hR, .inr (2, [.int base, .ref ql, .ref qp, .ref qa, .int kn, .int (en + 4)])), (ql, .inl (g.2.1.2.1, 60, .inl fl)), (qp, .inl (g.2.1.1, 60, .inl fp)), (qa, .inl (g.2.1.1, 60, .inl fa)), (h, .inr (0, [.ref q, .int len])), (q, .inl (g.2.1.1, N, .inl (sp_X0_write_cells N f en wd a ((k >>> (8 &&& 31)) &&& 255) (k &&& 255))))] := hD
  exact k_vret hx hb hr hlocks ⟨hK, hP, hD, hS, hA, hE, hN⟩ dX2_appendN_35 (Nat.le_of_ble_eq_true rfl) (Nat.le_of_ble_eq_true rfl) rfl
def sp_X3_isSound (N : Nat) (f : Nat → Int32) (len : Int32) (i : Int32) : Int32 := if (sp_X3_isProgramWord (sp_X0_word N f i)) = 0 then 0 else (if (sp_X0_hasRegistersOnly N f i) = 0 then 0 else (if (sp_X0_usesRegister N f i 6) = 0 then (if (sp_X5_hasPlace (sp_X0_word N f i)) = 0 then 1 else (if (sp_X0_instructions len) ≤ (sp_X0_n N f i) then 0 else 1)) else 0))
theorem sp_X3_isSound_b (N : Nat) (f : Nat → Int32) (len : Int32) (i : Int32) : sp_X3_isSound N f len i = 0 ∨ sp_X3_isSound N f len i = 1 := by
  unfold sp_X3_isSound
  exact k_if01 (Or.inl rfl) (k_if01 (Or.inl rfl) (k_if01 (k_if01 (Or.inr rfl) (k_if01 (Or.inl rfl) (Or.inr rfl))) (Or.inl rfl)))
set_option maxHeartbeats 4000000 in
set_option maxRecDepth 100000 in
theorem c_X3_isSound (l : Launch) (g : KG) (h : Nat) (q : Nat) (N : Nat) (f : Nat → Int32) (len : Int32) (i : Int32) (hNn : N < 2 ^ 31) : Ci l g yX3_isSound wsX3_isSound ({ frames := 3, cells := 0, slots := 0, locals := 66 }) [.ref h, .int i] [(h, .inr (0, [.ref q, .int len])), (q, .inl (g.2.1.1, N, .inl f))] (fun r u => r = sp_X3_isSound N f len i ∧ u = [(h, .inr (0, [.ref q, .int len])), (q, .inl (g.2.1.1, N, .inl f))]) 0 0 := by
  intro sz
  refine Met.ofW (cc := cX3_isSound) (maxL := 3) (ret := (some .boolean)) (by decide) rfl ?_
  intro p e s m args below meth c s₁ B hml hv
  obtain ⟨rfl, hsz, hP, hK, hD0, hE, hN⟩ := hv
  have hx := B.exec
  have hb := B.bytes
  have hr := B.returns
  have hts := atoms_spec (ws := wsX3_isSound) B.pre
  have hown : s.vm.findClass RX3 = some m.cls := findClass_of_methodNamed B.named
  have hlocks := B.notSynchronized
  subst hsz
  have hD := hD0.self (sz := s.heap.size)
  generalize hAe : va_A [(h, .inr (0, [.ref q, .int len])), (q, .inl (g.2.1.1, N, .inl f))] s.heap.size = A at hD hE ⊢
  have hA : ∀ q : Nat, s.heap.size ≤ q → A q := fun q h => by rw [← hAe]; exact Or.inr h
  have hS : va_S A s.heap s.heap [] := va_S.rf
  have hl := lv_entry ([.ref h, .int i]) (n := 3) (Nat.le_of_ble_eq_true rfl)
  rw [lg_entry_eq]
  generalize (lg_sl ([.ref h, .int i]) ++ List.replicate (3 - (lg_sl ([.ref h, .int i])).length) Slot.unset).toArray = ls at hl ⊢
  have hl : lv_has ls 3 [(0, .ref h), (1, .int i)] := hl
  refine lv_aload_n hx hb dX3_isSound_0 rfl (lv_at hl 0 rfl) ?_
  refine lv_iload_n hx hb dX3_isSound_1 rfl (lv_at hl 1 rfl) ?_
  refine kiV (As := [.int i]) (rest := []) (wc := [(h, .inr (0, [.ref q, .int len])), (q, .inl (g.2.1.1, N, .inl f))]) (wr := []) ⟨hx, hb, hml, hown, hts⟩ (c_X0_word l g h q N f len i hNn) (cwV 1 hts gX3_isSound_X0_word rfl rfl rfl (by decide +kernel) ⟨Nat.le_of_ble_eq_true rfl, Nat.le_of_ble_eq_true rfl⟩) ⟨hK, hP, hD, hS, hA, hE, hN⟩ [0, 1] [] ⟨rfl, rfl, by decide⟩ (q0 := 0) (ci := 0) rfl rfl rfl rfl hl.1 (Nat.le_of_ble_eq_true rfl) dX3_isSound_2 ⟨Nat.le_of_ble_eq_true rfl, Nat.le_of_ble_eq_true rfl⟩ rfl (fun r u H locs hw hP hD hS => ?_)
  obtain ⟨hq, hw⟩ := hw
  subst r
  subst hw
  have hP := hP.sub (ws' := [(h, .inr (0, [.ref q, .int len])), (q, .inl (g.2.1.1, N, .inl f))]) [0, 1] rfl
  have hD := hD.sub (ws' := [(h, .inr (0, [.ref q, .int len])), (q, .inl (g.2.1.1, N, .inl f))]) [0, 1] (by decide) rfl
  refine lv_istore_n (lv' := [(2, .int (sp_X0_word N f i)), (0, .ref h), (1, .int i)]) hx hb dX3_isSound_5 rfl hl (by decide) rfl (fun ls hl => ?_)
  refine lv_iload_n hx hb dX3_isSound_6 rfl (lv_at hl 0 rfl) ?_
  refine kiS (As := [.int (sp_X0_word N f i)]) (rest := []) (wc := []) (wr := [(h, .inr (0, [.ref q, .int len])), (q, .inl (g.2.1.1, N, .inl f))]) ⟨hx, hb, hml, hown, hts⟩ (c_X3_isProgramWord l g (sp_X0_word N f i)) (va_cwS 1 hts gX3_isSound_X3_isProgramWord rfl rfl rfl (by decide +kernel) ⟨Nat.le_of_ble_eq_true rfl, Nat.le_of_ble_eq_true rfl⟩) ⟨hK, hP, hD, hS, hA, hE, hN⟩ [] [0, 1] ⟨rfl, rfl, by decide⟩ rfl hl.1 (Nat.le_of_ble_eq_true rfl) dX3_isSound_7 ⟨Nat.le_of_ble_eq_true rfl, Nat.le_of_ble_eq_true rfl⟩ rfl (fun r u H locs hw hP hD hS => ?_)
  obtain ⟨hq, hw⟩ := hw
  subst r
  subst hw
  have hP := hP.sub (ws' := [(h, .inr (0, [.ref q, .int len])), (q, .inl (g.2.1.1, N, .inl f))]) [0, 1] rfl
  have hD := hD.sub (ws' := [(h, .inr (0, [.ref q, .int len])), (q, .inl (g.2.1.1, N, .inl f))]) [0, 1] (by decide) rfl
  refine lv_if_eq (tgt := 54) hx hb dX3_isSound_10 (by decide) (fun c_0 => ?_) (fun c_0 => ?_)
  · skip
    refine lv_iconst (v := 0) hx hb dX3_isSound_54 (by decide) ?_
    exact k_iret hx hb hr hlocks ⟨hK, hP, hD, hS, hA, hE, hN⟩ rfl dX3_isSound_55 (Nat.le_of_ble_eq_true rfl) (Nat.le_of_ble_eq_true rfl) ⟨(by simp only [sp_X3_isSound, if_pos c_0]), rfl⟩
  · skip
    refine lv_aload_n hx hb dX3_isSound_13 rfl (lv_at hl 1 rfl) ?_
    refine lv_iload_n hx hb dX3_isSound_14 rfl (lv_at hl 2 rfl) ?_
    refine kiV (As := [.int i]) (rest := []) (wc := [(h, .inr (0, [.ref q, .int len])), (q, .inl (g.2.1.1, N, .inl f))]) (wr := []) ⟨hx, hb, hml, hown, hts⟩ (c_X0_hasRegistersOnly l g h q N f len i hNn) (cwV 1 hts gX3_isSound_X0_hasRegistersOnly rfl rfl rfl (by decide +kernel) ⟨Nat.le_of_ble_eq_true rfl, Nat.le_of_ble_eq_true rfl⟩) ⟨hK, hP, hD, hS, hA, hE, hN⟩ [0, 1] [] ⟨rfl, rfl, by decide⟩ (q0 := 0) (ci := 0) rfl rfl rfl rfl hl.1 (Nat.le_of_ble_eq_true rfl) dX3_isSound_15 ⟨Nat.le_of_ble_eq_true rfl, Nat.le_of_ble_eq_true rfl⟩ rfl (fun r u H locs hw hP hD hS => ?_)
    obtain ⟨hq, hw⟩ := hw
    subst r
    subst hw
    have hP := hP.sub (ws' := [(h, .inr (0, [.ref q, .int len])), (q, .inl (g.2.1.1, N, .inl f))]) [0, 1] rfl
    have hD := hD.sub (ws' := [(h, .inr (0, [.ref q, .int len])), (q, .inl (g.2.1.1, N, .inl f))]) [0, 1] (by decide) rfl
    refine lv_if_eq (tgt := 54) hx hb dX3_isSound_18 (by decide) (fun c_1 => ?_) (fun c_1 => ?_)
    · skip
      refine lv_iconst (v := 0) hx hb dX3_isSound_54 (by decide) ?_
      exact k_iret hx hb hr hlocks ⟨hK, hP, hD, hS, hA, hE, hN⟩ rfl dX3_isSound_55 (Nat.le_of_ble_eq_true rfl) (Nat.le_of_ble_eq_true rfl) ⟨(by simp only [sp_X3_isSound, if_neg c_0, if_pos c_1]), rfl⟩
    · skip
      refine lv_aload_n hx hb dX3_isSound_21 rfl (lv_at hl 1 rfl) ?_
      refine lv_iload_n hx hb dX3_isSound_22 rfl (lv_at hl 2 rfl) ?_
      refine lv_bipush (v := 6) hx hb dX3_isSound_23 (by decide) ?_
      refine kiV (As := [.int i, .int 6]) (rest := []) (wc := [(h, .inr (0, [.ref q, .int len])), (q, .inl (g.2.1.1, N, .inl f))]) (wr := []) ⟨hx, hb, hml, hown, hts⟩ (c_X0_usesRegister l g h q N f len i 6 hNn) (cwV 2 hts gX3_isSound_X0_usesRegister rfl rfl rfl (by decide +kernel) ⟨Nat.le_of_ble_eq_true rfl, Nat.le_of_ble_eq_true rfl⟩) ⟨hK, hP, hD, hS, hA, hE, hN⟩ [0, 1] [] ⟨rfl, rfl, by decide⟩ (q0 := 0) (ci := 0) rfl rfl rfl rfl hl.1 (Nat.le_of_ble_eq_true rfl) dX3_isSound_25 ⟨Nat.le_of_ble_eq_true rfl, Nat.le_of_ble_eq_true rfl⟩ rfl (fun r u H locs hw hP hD hS => ?_)
      obtain ⟨hq, hw⟩ := hw
      subst r
      subst hw
      have hP := hP.sub (ws' := [(h, .inr (0, [.ref q, .int len])), (q, .inl (g.2.1.1, N, .inl f))]) [0, 1] rfl
      have hD := hD.sub (ws' := [(h, .inr (0, [.ref q, .int len])), (q, .inl (g.2.1.1, N, .inl f))]) [0, 1] (by decide) rfl
      refine lv_if_ne (tgt := 54) hx hb dX3_isSound_28 (by decide) (fun c_2 => ?_) (fun c_2 => ?_)
      · skip
        refine lv_iconst (v := 0) hx hb dX3_isSound_54 (by decide) ?_
        exact k_iret hx hb hr hlocks ⟨hK, hP, hD, hS, hA, hE, hN⟩ rfl dX3_isSound_55 (Nat.le_of_ble_eq_true rfl) (Nat.le_of_ble_eq_true rfl) ⟨(by simp only [sp_X3_isSound, if_neg c_0, if_neg c_1, if_neg c_2]), rfl⟩
      · skip
        refine lv_iload_n hx hb dX3_isSound_31 rfl (lv_at hl 0 rfl) ?_
        refine kiSN (As := [.int (sp_X0_word N f i)]) (rest := []) (wc := []) (wr := [(h, .inr (0, [.ref q, .int len])), (q, .inl (g.2.1.1, N, .inl f))]) ⟨hx, hb, hml, hown, hts⟩ (c_X5_hasPlace l g (sp_X0_word N f i)) ⟨va_cnB (host := RX5) 1 hts gX3_isSound_X5_hasPlace_n36 rfl rfl rfl (hN.1 (RX3, 36, yX5_hasPlace) (List.mem_of_getElem? (i := 5) rfl)) (hts (.initialized RX5) (by decide +kernel)) (by decide +kernel) ⟨Nat.le_of_ble_eq_true rfl, Nat.le_of_ble_eq_true rfl⟩, hts (.static yX5_hasPlace) (by decide +kernel), trivial⟩ ⟨hK, hP, hD, hS, hA, hE, hN⟩ [] [0, 1] ⟨rfl, rfl, by decide⟩ rfl hl.1 (Nat.le_of_ble_eq_true rfl) dX3_isSound_32 ⟨Nat.le_of_ble_eq_true rfl, Nat.le_of_ble_eq_true rfl⟩ rfl (fun r u H locs hw hP hD hS => ?_)
        obtain ⟨hq, hw⟩ := hw
        subst r
        subst hw
        have hP := hP.sub (ws' := [(h, .inr (0, [.ref q, .int len])), (q, .inl (g.2.1.1, N, .inl f))]) [0, 1] rfl
        have hD := hD.sub (ws' := [(h, .inr (0, [.ref q, .int len])), (q, .inl (g.2.1.1, N, .inl f))]) [0, 1] (by decide) rfl
        refine lv_if_eq (tgt := 50) hx hb dX3_isSound_35 (by decide) (fun c_3 => ?_) (fun c_3 => ?_)
        · skip
          refine lv_iconst (v := 1) hx hb dX3_isSound_50 (by decide) ?_
          refine lv_goto (tgt := 55) hx hb dX3_isSound_51 (by decide) ?_
          exact k_iret hx hb hr hlocks ⟨hK, hP, hD, hS, hA, hE, hN⟩ rfl dX3_isSound_55 (Nat.le_of_ble_eq_true rfl) (Nat.le_of_ble_eq_true rfl) ⟨(by simp only [sp_X3_isSound, if_neg c_0, if_neg c_1, if_pos c_2, if_pos c_3]), rfl⟩
        · skip
          refine lv_aload_n hx hb dX3_isSound_38 rfl (lv_at hl 1 rfl) ?_
          refine lv_iload_n hx hb dX3_isSound_39 rfl (lv_at hl 2 rfl) ?_
          refine kiV (As := [.int i]) (rest := []) (wc := [(h, .inr (0, [.ref q, .int len])), (q, .inl (g.2.1.1, N, .inl f))]) (wr := []) ⟨hx, hb, hml, hown, hts⟩ (c_X0_n l g h q N f len i hNn) (cwV 1 hts gX3_isSound_X0_n rfl rfl rfl (by decide +kernel) ⟨Nat.le_of_ble_eq_true rfl, Nat.le_of_ble_eq_true rfl⟩) ⟨hK, hP, hD, hS, hA, hE, hN⟩ [0, 1] [] ⟨rfl, rfl, by decide⟩ (q0 := 0) (ci := 0) rfl rfl rfl rfl hl.1 (Nat.le_of_ble_eq_true rfl) dX3_isSound_40 ⟨Nat.le_of_ble_eq_true rfl, Nat.le_of_ble_eq_true rfl⟩ rfl (fun r u H locs hw hP hD hS => ?_)
          obtain ⟨hq, hw⟩ := hw
          subst r
          subst hw
          have hP := hP.sub (ws' := [(h, .inr (0, [.ref q, .int len])), (q, .inl (g.2.1.1, N, .inl f))]) [0, 1] rfl
          have hD := hD.sub (ws' := [(h, .inr (0, [.ref q, .int len])), (q, .inl (g.2.1.1, N, .inl f))]) [0, 1] (by decide) rfl
          refine lv_aload_n hx hb dX3_isSound_43 rfl (lv_at hl 1 rfl) ?_
          refine kiV (As := []) (rest := [.int (sp_X0_n N f i)]) (wc := [(h, .inr (0, [.ref q, .int len])), (q, .inl (g.2.1.1, N, .inl f))]) (wr := []) ⟨hx, hb, hml, hown, hts⟩ (c_X0_instructions l g h q N f len hNn) (cwV 0 hts gX3_isSound_X0_instructions rfl rfl rfl (by decide +kernel) ⟨Nat.le_of_ble_eq_true rfl, Nat.le_of_ble_eq_true rfl⟩) ⟨hK, hP, hD, hS, hA, hE, hN⟩ [0, 1] [] ⟨rfl, rfl, by decide⟩ (q0 := 0) (ci := 0) rfl rfl rfl rfl hl.1 (Nat.le_of_ble_eq_true rfl) dX3_isSound_44 ⟨Nat.le_of_ble_eq_true rfl, Nat.le_of_ble_eq_true rfl⟩ rfl (fun r u H locs hw hP hD hS => ?_)
          obtain ⟨hq, hw⟩ := hw
          subst r
          subst hw
          have hP := hP.sub (ws' := [(h, .inr (0, [.ref q, .int len])), (q, .inl (g.2.1.1, N, .inl f))]) [0, 1] rfl
          have hD := hD.sub (ws' := [(h, .inr (0, [.ref q, .int len])), (q, .inl (g.2.1.1, N, .inl f))]) [0, 1] (by decide) rfl
          refine lv_icmp_ge (tgt := 54) hx hb dX3_isSound_47 (by decide) (fun c_4 => ?_) (fun c_4 => ?_)
          · skip
            refine lv_iconst (v := 0) hx hb dX3_isSound_54 (by decide) ?_
            exact k_iret hx hb hr hlocks ⟨hK, hP, hD, hS, hA, hE, hN⟩ rfl dX3_isSound_55 (Nat.le_of_ble_eq_true rfl) (Nat.le_of_ble_eq_true rfl) ⟨(by simp only [sp_X3_isSound, if_neg c_0, if_neg c_1, if_pos c_2, if_neg c_3, if_pos c_4]), rfl⟩
          · skip
            refine lv_iconst (v := 1) hx hb dX3_isSound_50 (by decide) ?_
            refine lv_goto (tgt := 55) hx hb dX3_isSound_51 (by decide) ?_
            exact k_iret hx hb hr hlocks ⟨hK, hP, hD, hS, hA, hE, hN⟩ rfl dX3_isSound_55 (Nat.le_of_ble_eq_true rfl) (Nat.le_of_ble_eq_true rfl) ⟨(by simp only [sp_X3_isSound, if_neg c_0, if_neg c_1, if_pos c_2, if_neg c_3, if_neg c_4]), rfl⟩
def sp_X4_leadsToBundle (N : Nat) (f : Nat → Int32) (len : Int32) (i : Int32) : Int32 := if (sp_X5_isBundleStart (sp_X0_n N f i)) = 0 then 0 else (if (sp_X0_has len (sp_X0_n N f i)) = 0 then 0 else 1)
theorem sp_X4_leadsToBundle_b (N : Nat) (f : Nat → Int32) (len : Int32) (i : Int32) : sp_X4_leadsToBundle N f len i = 0 ∨ sp_X4_leadsToBundle N f len i = 1 := by
  unfold sp_X4_leadsToBundle
  exact k_if01 (Or.inl rfl) (k_if01 (Or.inl rfl) (Or.inr rfl))
set_option maxHeartbeats 4000000 in
set_option maxRecDepth 100000 in
theorem c_X4_leadsToBundle (l : Launch) (g : KG) (h : Nat) (q : Nat) (N : Nat) (f : Nat → Int32) (len : Int32) (i : Int32) (hNn : N < 2 ^ 31) : Ci l g yX4_leadsToBundle wsX4_leadsToBundle ({ frames := 2, cells := 0, slots := 0, locals := 42 }) [.ref h, .int i] [(h, .inr (0, [.ref q, .int len])), (q, .inl (g.2.1.1, N, .inl f))] (fun r u => r = sp_X4_leadsToBundle N f len i ∧ u = [(h, .inr (0, [.ref q, .int len])), (q, .inl (g.2.1.1, N, .inl f))]) 0 0 := by
  intro sz
  refine Met.ofW (cc := cX4_leadsToBundle) (maxL := 2) (ret := (some .boolean)) (by decide) rfl ?_
  intro p e s m args below meth c s₁ B hml hv
  obtain ⟨rfl, hsz, hP, hK, hD0, hE, hN⟩ := hv
  have hx := B.exec
  have hb := B.bytes
  have hr := B.returns
  have hts := atoms_spec (ws := wsX4_leadsToBundle) B.pre
  have hown : s.vm.findClass RX4 = some m.cls := findClass_of_methodNamed B.named
  have hlocks := B.notSynchronized
  subst hsz
  have hD := hD0.self (sz := s.heap.size)
  generalize hAe : va_A [(h, .inr (0, [.ref q, .int len])), (q, .inl (g.2.1.1, N, .inl f))] s.heap.size = A at hD hE ⊢
  have hA : ∀ q : Nat, s.heap.size ≤ q → A q := fun q h => by rw [← hAe]; exact Or.inr h
  have hS : va_S A s.heap s.heap [] := va_S.rf
  have hl := lv_entry ([.ref h, .int i]) (n := 2) (Nat.le_of_ble_eq_true rfl)
  rw [lg_entry_eq]
  generalize (lg_sl ([.ref h, .int i]) ++ List.replicate (2 - (lg_sl ([.ref h, .int i])).length) Slot.unset).toArray = ls at hl ⊢
  have hl : lv_has ls 2 [(0, .ref h), (1, .int i)] := hl
  refine lv_aload_n hx hb dX4_leadsToBundle_0 rfl (lv_at hl 0 rfl) ?_
  refine lv_iload_n hx hb dX4_leadsToBundle_1 rfl (lv_at hl 1 rfl) ?_
  refine kiV (As := [.int i]) (rest := []) (wc := [(h, .inr (0, [.ref q, .int len])), (q, .inl (g.2.1.1, N, .inl f))]) (wr := []) ⟨hx, hb, hml, hown, hts⟩ (c_X0_n l g h q N f len i hNn) (cwV 1 hts gX4_leadsToBundle_X0_n rfl rfl rfl (by decide +kernel) ⟨Nat.le_of_ble_eq_true rfl, Nat.le_of_ble_eq_true rfl⟩) ⟨hK, hP, hD, hS, hA, hE, hN⟩ [0, 1] [] ⟨rfl, rfl, by decide⟩ (q0 := 0) (ci := 0) rfl rfl rfl rfl hl.1 (Nat.le_of_ble_eq_true rfl) dX4_leadsToBundle_2 ⟨Nat.le_of_ble_eq_true rfl, Nat.le_of_ble_eq_true rfl⟩ rfl (fun r u H locs hw hP hD hS => ?_)
  obtain ⟨hq, hw⟩ := hw
  subst r
  subst hw
  have hP := hP.sub (ws' := [(h, .inr (0, [.ref q, .int len])), (q, .inl (g.2.1.1, N, .inl f))]) [0, 1] rfl
  have hD := hD.sub (ws' := [(h, .inr (0, [.ref q, .int len])), (q, .inl (g.2.1.1, N, .inl f))]) [0, 1] (by decide) rfl
  refine kiSN (As := [.int (sp_X0_n N f i)]) (rest := []) (wc := []) (wr := [(h, .inr (0, [.ref q, .int len])), (q, .inl (g.2.1.1, N, .inl f))]) ⟨hx, hb, hml, hown, hts⟩ (c_X5_isBundleStart l g (sp_X0_n N f i)) ⟨va_cnB (host := RX5) 1 hts gX4_leadsToBundle_X5_isBundleStart_n59 rfl rfl rfl (hN.1 (RX4, 59, yX5_isBundleStart) (List.mem_of_getElem? (i := 6) rfl)) (hts (.initialized RX5) (by decide +kernel)) (by decide +kernel) ⟨Nat.le_of_ble_eq_true rfl, Nat.le_of_ble_eq_true rfl⟩, hts (.static yX5_isBundleStart) (by decide +kernel), trivial⟩ ⟨hK, hP, hD, hS, hA, hE, hN⟩ [] [0, 1] ⟨rfl, rfl, by decide⟩ rfl hl.1 (Nat.le_of_ble_eq_true rfl) dX4_leadsToBundle_5 ⟨Nat.le_of_ble_eq_true rfl, Nat.le_of_ble_eq_true rfl⟩ rfl (fun r u H locs hw hP hD hS => ?_)
  obtain ⟨hq, hw⟩ := hw
  subst r
  subst hw
  have hP := hP.sub (ws' := [(h, .inr (0, [.ref q, .int len])), (q, .inl (g.2.1.1, N, .inl f))]) [0, 1] rfl
  have hD := hD.sub (ws' := [(h, .inr (0, [.ref q, .int len])), (q, .inl (g.2.1.1, N, .inl f))]) [0, 1] (by decide) rfl
  refine lv_if_eq (tgt := 27) hx hb dX4_leadsToBundle_8 (by decide) (fun c_0 => ?_) (fun c_0 => ?_)
  · skip
    refine lv_iconst (v := 0) hx hb dX4_leadsToBundle_27 (by decide) ?_
    exact k_iret hx hb hr hlocks ⟨hK, hP, hD, hS, hA, hE, hN⟩ rfl dX4_leadsToBundle_28 (Nat.le_of_ble_eq_true rfl) (Nat.le_of_ble_eq_true rfl) ⟨(by simp only [sp_X4_leadsToBundle, if_pos c_0]), rfl⟩
  · skip
    refine lv_aload_n hx hb dX4_leadsToBundle_11 rfl (lv_at hl 0 rfl) ?_
    refine lv_aload_n hx hb dX4_leadsToBundle_12 rfl (lv_at hl 0 rfl) ?_
    refine lv_iload_n hx hb dX4_leadsToBundle_13 rfl (lv_at hl 1 rfl) ?_
    refine kiV (As := [.int i]) (rest := [.ref h]) (wc := [(h, .inr (0, [.ref q, .int len])), (q, .inl (g.2.1.1, N, .inl f))]) (wr := []) ⟨hx, hb, hml, hown, hts⟩ (c_X0_n l g h q N f len i hNn) (cwV 1 hts gX4_leadsToBundle_X0_n rfl rfl rfl (by decide +kernel) ⟨Nat.le_of_ble_eq_true rfl, Nat.le_of_ble_eq_true rfl⟩) ⟨hK, hP, hD, hS, hA, hE, hN⟩ [0, 1] [] ⟨rfl, rfl, by decide⟩ (q0 := 0) (ci := 0) rfl rfl rfl rfl hl.1 (Nat.le_of_ble_eq_true rfl) dX4_leadsToBundle_14 ⟨Nat.le_of_ble_eq_true rfl, Nat.le_of_ble_eq_true rfl⟩ rfl (fun r u H locs hw hP hD hS => ?_)
    obtain ⟨hq, hw⟩ := hw
    subst r
    subst hw
    have hP := hP.sub (ws' := [(h, .inr (0, [.ref q, .int len])), (q, .inl (g.2.1.1, N, .inl f))]) [0, 1] rfl
    have hD := hD.sub (ws' := [(h, .inr (0, [.ref q, .int len])), (q, .inl (g.2.1.1, N, .inl f))]) [0, 1] (by decide) rfl
    refine kiV (As := [.int (sp_X0_n N f i)]) (rest := []) (wc := [(h, .inr (0, [.ref q, .int len])), (q, .inl (g.2.1.1, N, .inl f))]) (wr := []) ⟨hx, hb, hml, hown, hts⟩ (c_X0_has l g h q N f len (sp_X0_n N f i) hNn) (cwV 1 hts gX4_leadsToBundle_X0_has rfl rfl rfl (by decide +kernel) ⟨Nat.le_of_ble_eq_true rfl, Nat.le_of_ble_eq_true rfl⟩) ⟨hK, hP, hD, hS, hA, hE, hN⟩ [0, 1] [] ⟨rfl, rfl, by decide⟩ (q0 := 0) (ci := 0) rfl rfl rfl rfl hl.1 (Nat.le_of_ble_eq_true rfl) dX4_leadsToBundle_17 ⟨Nat.le_of_ble_eq_true rfl, Nat.le_of_ble_eq_true rfl⟩ rfl (fun r u H locs hw hP hD hS => ?_)
    obtain ⟨hq, hw⟩ := hw
    subst r
    subst hw
    have hP := hP.sub (ws' := [(h, .inr (0, [.ref q, .int len])), (q, .inl (g.2.1.1, N, .inl f))]) [0, 1] rfl
    have hD := hD.sub (ws' := [(h, .inr (0, [.ref q, .int len])), (q, .inl (g.2.1.1, N, .inl f))]) [0, 1] (by decide) rfl
    refine lv_if_eq (tgt := 27) hx hb dX4_leadsToBundle_20 (by decide) (fun c_1 => ?_) (fun c_1 => ?_)
    · skip
      refine lv_iconst (v := 0) hx hb dX4_leadsToBundle_27 (by decide) ?_
      exact k_iret hx hb hr hlocks ⟨hK, hP, hD, hS, hA, hE, hN⟩ rfl dX4_leadsToBundle_28 (Nat.le_of_ble_eq_true rfl) (Nat.le_of_ble_eq_true rfl) ⟨(by simp only [sp_X4_leadsToBundle, if_neg c_0, if_pos c_1]), rfl⟩
    · skip
      refine lv_iconst (v := 1) hx hb dX4_leadsToBundle_23 (by decide) ?_
      refine lv_goto (tgt := 28) hx hb dX4_leadsToBundle_24 (by decide) ?_
      exact k_iret hx hb hr hlocks ⟨hK, hP, hD, hS, hA, hE, hN⟩ rfl dX4_leadsToBundle_28 (Nat.le_of_ble_eq_true rfl) (Nat.le_of_ble_eq_true rfl) ⟨(by simp only [sp_X4_leadsToBundle, if_neg c_0, if_neg c_1]), rfl⟩
def sp_X4_isBehindRegionMask (N : Nat) (f : Nat → Int32) (i : Int32) (base : Int32) : Int32 := if (i - i / 16 * 16) < 8 then 0 else (if (sp_X0_is N f (i - 8) 16 6 1023) = 0 then 0 else (if (sp_X0_is N f (i - 4) 17 6 base) = 0 then 0 else 1))
theorem sp_X4_isBehindRegionMask_b (N : Nat) (f : Nat → Int32) (i : Int32) (base : Int32) : sp_X4_isBehindRegionMask N f i base = 0 ∨ sp_X4_isBehindRegionMask N f i base = 1 := by
  unfold sp_X4_isBehindRegionMask
  exact k_if01 (Or.inl rfl) (k_if01 (Or.inl rfl) (k_if01 (Or.inl rfl) (Or.inr rfl)))
set_option maxHeartbeats 4000000 in
set_option maxRecDepth 100000 in
theorem c_X4_isBehindRegionMask (l : Launch) (g : KG) (h : Nat) (q : Nat) (N : Nat) (f : Nat → Int32) (len : Int32) (i : Int32) (base : Int32) (hNn : N < 2 ^ 31) : Ci l g yX4_isBehindRegionMask wsX4_isBehindRegionMask ({ frames := 3, cells := 0, slots := 0, locals := 66 }) [.ref h, .int i, .int base] [(h, .inr (0, [.ref q, .int len])), (q, .inl (g.2.1.1, N, .inl f))] (fun r u => r = sp_X4_isBehindRegionMask N f i base ∧ u = [(h, .inr (0, [.ref q, .int len])), (q, .inl (g.2.1.1, N, .inl f))]) 0 0 := by
  intro sz
  refine Met.ofW (cc := cX4_isBehindRegionMask) (maxL := 3) (ret := (some .boolean)) (by decide) rfl ?_
  intro p e s m args below meth c s₁ B hml hv
  obtain ⟨rfl, hsz, hP, hK, hD0, hE, hN⟩ := hv
  have hx := B.exec
  have hb := B.bytes
  have hr := B.returns
  have hts := atoms_spec (ws := wsX4_isBehindRegionMask) B.pre
  have hown : s.vm.findClass RX4 = some m.cls := findClass_of_methodNamed B.named
  have hlocks := B.notSynchronized
  subst hsz
  have hD := hD0.self (sz := s.heap.size)
  generalize hAe : va_A [(h, .inr (0, [.ref q, .int len])), (q, .inl (g.2.1.1, N, .inl f))] s.heap.size = A at hD hE ⊢
  have hA : ∀ q : Nat, s.heap.size ≤ q → A q := fun q h => by rw [← hAe]; exact Or.inr h
  have hS : va_S A s.heap s.heap [] := va_S.rf
  have hl := lv_entry ([.ref h, .int i, .int base]) (n := 3) (Nat.le_of_ble_eq_true rfl)
  rw [lg_entry_eq]
  generalize (lg_sl ([.ref h, .int i, .int base]) ++ List.replicate (3 - (lg_sl ([.ref h, .int i, .int base])).length) Slot.unset).toArray = ls at hl ⊢
  have hl : lv_has ls 3 [(0, .ref h), (1, .int i), (2, .int base)] := hl
  refine lv_iload_n hx hb dX4_isBehindRegionMask_0 rfl (lv_at hl 1 rfl) ?_
  refine lv_bipush (v := 16) hx hb dX4_isBehindRegionMask_1 (by decide) ?_
  refine lv_irem hx hb dX4_isBehindRegionMask_3 (by decide) ?_
  refine lv_bipush (v := 8) hx hb dX4_isBehindRegionMask_4 (by decide) ?_
  refine lv_icmp_lt (tgt := 46) hx hb dX4_isBehindRegionMask_6 (by decide) (fun c_0 => ?_) (fun c_0 => ?_)
  · skip
    refine lv_iconst (v := 0) hx hb dX4_isBehindRegionMask_46 (by decide) ?_
    exact k_iret hx hb hr hlocks ⟨hK, hP, hD, hS, hA, hE, hN⟩ rfl dX4_isBehindRegionMask_47 (Nat.le_of_ble_eq_true rfl) (Nat.le_of_ble_eq_true rfl) ⟨(by simp only [sp_X4_isBehindRegionMask, if_pos c_0]), rfl⟩
  · skip
    refine lv_aload_n hx hb dX4_isBehindRegionMask_9 rfl (lv_at hl 0 rfl) ?_
    refine lv_iload_n hx hb dX4_isBehindRegionMask_10 rfl (lv_at hl 1 rfl) ?_
    refine lv_bipush (v := 8) hx hb dX4_isBehindRegionMask_11 (by decide) ?_
    refine lv_isub hx hb dX4_isBehindRegionMask_13 ?_
    refine lv_bipush (v := 16) hx hb dX4_isBehindRegionMask_14 (by decide) ?_
    refine lv_bipush (v := 6) hx hb dX4_isBehindRegionMask_16 (by decide) ?_
    refine lv_sipush (v := 1023) hx hb dX4_isBehindRegionMask_18 (by decide) ?_
    refine kiV (As := [.int (i - 8), .int 16, .int 6, .int 1023]) (rest := []) (wc := [(h, .inr (0, [.ref q, .int len])), (q, .inl (g.2.1.1, N, .inl f))]) (wr := []) ⟨hx, hb, hml, hown, hts⟩ (c_X0_is l g h q N f len (i - 8) 16 6 1023 hNn) (cwV 4 hts gX4_isBehindRegionMask_X0_is rfl rfl rfl (by decide +kernel) ⟨Nat.le_of_ble_eq_true rfl, Nat.le_of_ble_eq_true rfl⟩) ⟨hK, hP, hD, hS, hA, hE, hN⟩ [0, 1] [] ⟨rfl, rfl, by decide⟩ (q0 := 0) (ci := 0) rfl rfl rfl rfl hl.1 (Nat.le_of_ble_eq_true rfl) dX4_isBehindRegionMask_21 ⟨Nat.le_of_ble_eq_true rfl, Nat.le_of_ble_eq_true rfl⟩ rfl (fun r u H locs hw hP hD hS => ?_)
    obtain ⟨hq, hw⟩ := hw
    subst r
    subst hw
    have hP := hP.sub (ws' := [(h, .inr (0, [.ref q, .int len])), (q, .inl (g.2.1.1, N, .inl f))]) [0, 1] rfl
    have hD := hD.sub (ws' := [(h, .inr (0, [.ref q, .int len])), (q, .inl (g.2.1.1, N, .inl f))]) [0, 1] (by decide) rfl
    refine lv_if_eq (tgt := 46) hx hb dX4_isBehindRegionMask_24 (by decide) (fun c_1 => ?_) (fun c_1 => ?_)
    · skip
      refine lv_iconst (v := 0) hx hb dX4_isBehindRegionMask_46 (by decide) ?_
      exact k_iret hx hb hr hlocks ⟨hK, hP, hD, hS, hA, hE, hN⟩ rfl dX4_isBehindRegionMask_47 (Nat.le_of_ble_eq_true rfl) (Nat.le_of_ble_eq_true rfl) ⟨(by simp only [sp_X4_isBehindRegionMask, if_neg c_0, if_pos c_1]), rfl⟩
    · skip
      refine lv_aload_n hx hb dX4_isBehindRegionMask_27 rfl (lv_at hl 0 rfl) ?_
      refine lv_iload_n hx hb dX4_isBehindRegionMask_28 rfl (lv_at hl 1 rfl) ?_
      refine lv_iconst (v := 4) hx hb dX4_isBehindRegionMask_29 (by decide) ?_
      refine lv_isub hx hb dX4_isBehindRegionMask_30 ?_
      refine lv_bipush (v := 17) hx hb dX4_isBehindRegionMask_31 (by decide) ?_
      refine lv_bipush (v := 6) hx hb dX4_isBehindRegionMask_33 (by decide) ?_
      refine lv_iload_n hx hb dX4_isBehindRegionMask_35 rfl (lv_at hl 2 rfl) ?_
      refine kiV (As := [.int (i - 4), .int 17, .int 6, .int base]) (rest := []) (wc := [(h, .inr (0, [.ref q, .int len])), (q, .inl (g.2.1.1, N, .inl f))]) (wr := []) ⟨hx, hb, hml, hown, hts⟩ (c_X0_is l g h q N f len (i - 4) 17 6 base hNn) (cwV 4 hts gX4_isBehindRegionMask_X0_is rfl rfl rfl (by decide +kernel) ⟨Nat.le_of_ble_eq_true rfl, Nat.le_of_ble_eq_true rfl⟩) ⟨hK, hP, hD, hS, hA, hE, hN⟩ [0, 1] [] ⟨rfl, rfl, by decide⟩ (q0 := 0) (ci := 0) rfl rfl rfl rfl hl.1 (Nat.le_of_ble_eq_true rfl) dX4_isBehindRegionMask_36 ⟨Nat.le_of_ble_eq_true rfl, Nat.le_of_ble_eq_true rfl⟩ rfl (fun r u H locs hw hP hD hS => ?_)
      obtain ⟨hq, hw⟩ := hw
      subst r
      subst hw
      have hP := hP.sub (ws' := [(h, .inr (0, [.ref q, .int len])), (q, .inl (g.2.1.1, N, .inl f))]) [0, 1] rfl
      have hD := hD.sub (ws' := [(h, .inr (0, [.ref q, .int len])), (q, .inl (g.2.1.1, N, .inl f))]) [0, 1] (by decide) rfl
      refine lv_if_eq (tgt := 46) hx hb dX4_isBehindRegionMask_39 (by decide) (fun c_2 => ?_) (fun c_2 => ?_)
      · skip
        refine lv_iconst (v := 0) hx hb dX4_isBehindRegionMask_46 (by decide) ?_
        exact k_iret hx hb hr hlocks ⟨hK, hP, hD, hS, hA, hE, hN⟩ rfl dX4_isBehindRegionMask_47 (Nat.le_of_ble_eq_true rfl) (Nat.le_of_ble_eq_true rfl) ⟨(by simp only [sp_X4_isBehindRegionMask, if_neg c_0, if_neg c_1, if_pos c_2]), rfl⟩
      · skip
        refine lv_iconst (v := 1) hx hb dX4_isBehindRegionMask_42 (by decide) ?_
        refine lv_goto (tgt := 47) hx hb dX4_isBehindRegionMask_43 (by decide) ?_
        exact k_iret hx hb hr hlocks ⟨hK, hP, hD, hS, hA, hE, hN⟩ rfl dX4_isBehindRegionMask_47 (Nat.le_of_ble_eq_true rfl) (Nat.le_of_ble_eq_true rfl) ⟨(by simp only [sp_X4_isBehindRegionMask, if_neg c_0, if_neg c_1, if_neg c_2]), rfl⟩
def sp_X4_isBehindCodeMask (N : Nat) (f : Nat → Int32) (len : Int32) (i : Int32) : Int32 := if (i - i / 16 * 16) < 4 then 0 else (if (sp_X0_is N f (i - 4) 16 6 ((sp_X0_length len) - 16)) = 0 then 0 else 1)
theorem sp_X4_isBehindCodeMask_b (N : Nat) (f : Nat → Int32) (len : Int32) (i : Int32) : sp_X4_isBehindCodeMask N f len i = 0 ∨ sp_X4_isBehindCodeMask N f len i = 1 := by
  unfold sp_X4_isBehindCodeMask
  exact k_if01 (Or.inl rfl) (k_if01 (Or.inl rfl) (Or.inr rfl))
set_option maxHeartbeats 4000000 in
set_option maxRecDepth 100000 in
theorem c_X4_isBehindCodeMask (l : Launch) (g : KG) (h : Nat) (q : Nat) (N : Nat) (f : Nat → Int32) (len : Int32) (i : Int32) (hNn : N < 2 ^ 31) : Ci l g yX4_isBehindCodeMask wsX4_isBehindCodeMask ({ frames := 3, cells := 0, slots := 0, locals := 66 }) [.ref h, .int i] [(h, .inr (0, [.ref q, .int len])), (q, .inl (g.2.1.1, N, .inl f))] (fun r u => r = sp_X4_isBehindCodeMask N f len i ∧ u = [(h, .inr (0, [.ref q, .int len])), (q, .inl (g.2.1.1, N, .inl f))]) 0 0 := by
  intro sz
  refine Met.ofW (cc := cX4_isBehindCodeMask) (maxL := 2) (ret := (some .boolean)) (by decide) rfl ?_
  intro p e s m args below meth c s₁ B hml hv
  obtain ⟨rfl, hsz, hP, hK, hD0, hE, hN⟩ := hv
  have hx := B.exec
  have hb := B.bytes
  have hr := B.returns
  have hts := atoms_spec (ws := wsX4_isBehindCodeMask) B.pre
  have hown : s.vm.findClass RX4 = some m.cls := findClass_of_methodNamed B.named
  have hlocks := B.notSynchronized
  subst hsz
  have hD := hD0.self (sz := s.heap.size)
  generalize hAe : va_A [(h, .inr (0, [.ref q, .int len])), (q, .inl (g.2.1.1, N, .inl f))] s.heap.size = A at hD hE ⊢
  have hA : ∀ q : Nat, s.heap.size ≤ q → A q := fun q h => by rw [← hAe]; exact Or.inr h
  have hS : va_S A s.heap s.heap [] := va_S.rf
  have hl := lv_entry ([.ref h, .int i]) (n := 2) (Nat.le_of_ble_eq_true rfl)
  rw [lg_entry_eq]
  generalize (lg_sl ([.ref h, .int i]) ++ List.replicate (2 - (lg_sl ([.ref h, .int i])).length) Slot.unset).toArray = ls at hl ⊢
  have hl : lv_has ls 2 [(0, .ref h), (1, .int i)] := hl
  refine lv_iload_n hx hb dX4_isBehindCodeMask_0 rfl (lv_at hl 1 rfl) ?_
  refine lv_bipush (v := 16) hx hb dX4_isBehindCodeMask_1 (by decide) ?_
  refine lv_irem hx hb dX4_isBehindCodeMask_3 (by decide) ?_
  refine lv_iconst (v := 4) hx hb dX4_isBehindCodeMask_4 (by decide) ?_
  refine lv_icmp_lt (tgt := 33) hx hb dX4_isBehindCodeMask_5 (by decide) (fun c_0 => ?_) (fun c_0 => ?_)
  · skip
    refine lv_iconst (v := 0) hx hb dX4_isBehindCodeMask_33 (by decide) ?_
    exact k_iret hx hb hr hlocks ⟨hK, hP, hD, hS, hA, hE, hN⟩ rfl dX4_isBehindCodeMask_34 (Nat.le_of_ble_eq_true rfl) (Nat.le_of_ble_eq_true rfl) ⟨(by simp only [sp_X4_isBehindCodeMask, if_pos c_0]), rfl⟩
  · skip
    refine lv_aload_n hx hb dX4_isBehindCodeMask_8 rfl (lv_at hl 0 rfl) ?_
    refine lv_iload_n hx hb dX4_isBehindCodeMask_9 rfl (lv_at hl 1 rfl) ?_
    refine lv_iconst (v := 4) hx hb dX4_isBehindCodeMask_10 (by decide) ?_
    refine lv_isub hx hb dX4_isBehindCodeMask_11 ?_
    refine lv_bipush (v := 16) hx hb dX4_isBehindCodeMask_12 (by decide) ?_
    refine lv_bipush (v := 6) hx hb dX4_isBehindCodeMask_14 (by decide) ?_
    refine lv_aload_n hx hb dX4_isBehindCodeMask_16 rfl (lv_at hl 0 rfl) ?_
    refine kiV (As := []) (rest := [.int 6, .int 16, .int (i - 4), .ref h]) (wc := [(h, .inr (0, [.ref q, .int len])), (q, .inl (g.2.1.1, N, .inl f))]) (wr := []) ⟨hx, hb, hml, hown, hts⟩ (c_X0_length l g h q N f len hNn) (cwV 0 hts gX4_isBehindCodeMask_X0_length rfl rfl rfl (by decide +kernel) ⟨Nat.le_of_ble_eq_true rfl, Nat.le_of_ble_eq_true rfl⟩) ⟨hK, hP, hD, hS, hA, hE, hN⟩ [0, 1] [] ⟨rfl, rfl, by decide⟩ (q0 := 0) (ci := 0) rfl rfl rfl rfl hl.1 (Nat.le_of_ble_eq_true rfl) dX4_isBehindCodeMask_17 ⟨Nat.le_of_ble_eq_true rfl, Nat.le_of_ble_eq_true rfl⟩ rfl (fun r u H locs hw hP hD hS => ?_)
    obtain ⟨hq, hw⟩ := hw
    subst r
    subst hw
    have hP := hP.sub (ws' := [(h, .inr (0, [.ref q, .int len])), (q, .inl (g.2.1.1, N, .inl f))]) [0, 1] rfl
    have hD := hD.sub (ws' := [(h, .inr (0, [.ref q, .int len])), (q, .inl (g.2.1.1, N, .inl f))]) [0, 1] (by decide) rfl
    refine lv_bipush (v := 16) hx hb dX4_isBehindCodeMask_20 (by decide) ?_
    refine lv_isub hx hb dX4_isBehindCodeMask_22 ?_
    refine kiV (As := [.int (i - 4), .int 16, .int 6, .int ((sp_X0_length len) - 16)]) (rest := []) (wc := [(h, .inr (0, [.ref q, .int len])), (q, .inl (g.2.1.1, N, .inl f))]) (wr := []) ⟨hx, hb, hml, hown, hts⟩ (c_X0_is l g h q N f len (i - 4) 16 6 ((sp_X0_length len) - 16) hNn) (cwV 4 hts gX4_isBehindCodeMask_X0_is rfl rfl rfl (by decide +kernel) ⟨Nat.le_of_ble_eq_true rfl, Nat.le_of_ble_eq_true rfl⟩) ⟨hK, hP, hD, hS, hA, hE, hN⟩ [0, 1] [] ⟨rfl, rfl, by decide⟩ (q0 := 0) (ci := 0) rfl rfl rfl rfl hl.1 (Nat.le_of_ble_eq_true rfl) dX4_isBehindCodeMask_23 ⟨Nat.le_of_ble_eq_true rfl, Nat.le_of_ble_eq_true rfl⟩ rfl (fun r u H locs hw hP hD hS => ?_)
    obtain ⟨hq, hw⟩ := hw
    subst r
    subst hw
    have hP := hP.sub (ws' := [(h, .inr (0, [.ref q, .int len])), (q, .inl (g.2.1.1, N, .inl f))]) [0, 1] rfl
    have hD := hD.sub (ws' := [(h, .inr (0, [.ref q, .int len])), (q, .inl (g.2.1.1, N, .inl f))]) [0, 1] (by decide) rfl
    refine lv_if_eq (tgt := 33) hx hb dX4_isBehindCodeMask_26 (by decide) (fun c_1 => ?_) (fun c_1 => ?_)
    · skip
      refine lv_iconst (v := 0) hx hb dX4_isBehindCodeMask_33 (by decide) ?_
      exact k_iret hx hb hr hlocks ⟨hK, hP, hD, hS, hA, hE, hN⟩ rfl dX4_isBehindCodeMask_34 (Nat.le_of_ble_eq_true rfl) (Nat.le_of_ble_eq_true rfl) ⟨(by simp only [sp_X4_isBehindCodeMask, if_neg c_0, if_pos c_1]), rfl⟩
    · skip
      refine lv_iconst (v := 1) hx hb dX4_isBehindCodeMask_29 (by decide) ?_
      refine lv_goto (tgt := 34) hx hb dX4_isBehindCodeMask_30 (by decide) ?_
      exact k_iret hx hb hr hlocks ⟨hK, hP, hD, hS, hA, hE, hN⟩ rfl dX4_isBehindCodeMask_34 (Nat.le_of_ble_eq_true rfl) (Nat.le_of_ble_eq_true rfl) ⟨(by simp only [sp_X4_isBehindCodeMask, if_neg c_0, if_neg c_1]), rfl⟩
def sp_X4_isTaken (N : Nat) (f : Nat → Int32) (len : Int32) (i : Int32) (base : Int32) : Int32 := if 17 < (sp_X0_word N f i) then 0 else (if (sp_X0_hasRegistersOnly N f i) = 0 then 0 else (if (sp_X0_word N f i) = 10 then (if (sp_X0_b N f i) = 6 then (if (sp_X0_c N f i) = 0 then (if (sp_X4_isBehindRegionMask N f i base) = 0 then 0 else 1) else 0) else 0) else (if (sp_X0_word N f i) = 11 then (if (sp_X0_b N f i) = 6 then (if (sp_X0_c N f i) = 0 then (if (sp_X4_isBehindRegionMask N f i base) = 0 then 0 else 1) else 0) else 0) else (if (sp_X0_word N f i) = 12 then (sp_X4_leadsToBundle N f len i) else (if (sp_X0_word N f i) = 13 then (sp_X4_leadsToBundle N f len i) else (if (sp_X0_word N f i) = 14 then (if (sp_X0_a N f i) = 6 then (if (sp_X4_isBehindCodeMask N f len i) = 0 then 0 else 1) else 0) else (if (sp_X0_word N f i) = 15 then (if (sp_X4_leadsToBundle N f len i) = 0 then 0 else (if (i - i / 16 * 16) = 12 then 1 else 0)) else 1)))))))
theorem sp_X4_isTaken_b (N : Nat) (f : Nat → Int32) (len : Int32) (i : Int32) (base : Int32) : sp_X4_isTaken N f len i base = 0 ∨ sp_X4_isTaken N f len i base = 1 := by
  unfold sp_X4_isTaken
  exact k_if01 (Or.inl rfl) (k_if01 (Or.inl rfl) (k_if01 (k_if01 (k_if01 (k_if01 (Or.inl rfl) (Or.inr rfl)) (Or.inl rfl)) (Or.inl rfl)) (k_if01 (k_if01 (k_if01 (k_if01 (Or.inl rfl) (Or.inr rfl)) (Or.inl rfl)) (Or.inl rfl)) (k_if01 (sp_X4_leadsToBundle_b ..) (k_if01 (sp_X4_leadsToBundle_b ..) (k_if01 (k_if01 (k_if01 (Or.inl rfl) (Or.inr rfl)) (Or.inl rfl)) (k_if01 (k_if01 (Or.inl rfl) (k_if01 (Or.inr rfl) (Or.inl rfl))) (Or.inr rfl))))))))
set_option maxHeartbeats 4000000 in
set_option maxRecDepth 100000 in
theorem c_X4_isTaken (l : Launch) (g : KG) (h : Nat) (q : Nat) (N : Nat) (f : Nat → Int32) (len : Int32) (i : Int32) (base : Int32) (hNn : N < 2 ^ 31) : Ci l g yX4_isTaken wsX4_isTaken ({ frames := 4, cells := 0, slots := 0, locals := 88 }) [.ref h, .int i, .int base] [(h, .inr (0, [.ref q, .int len])), (q, .inl (g.2.1.1, N, .inl f))] (fun r u => r = sp_X4_isTaken N f len i base ∧ u = [(h, .inr (0, [.ref q, .int len])), (q, .inl (g.2.1.1, N, .inl f))]) 0 0 := by
  intro sz
  refine Met.ofW (cc := cX4_isTaken) (maxL := 4) (ret := (some .boolean)) (by decide) rfl ?_
  intro p e s m args below meth c s₁ B hml hv
  obtain ⟨rfl, hsz, hP, hK, hD0, hE, hN⟩ := hv
  have hx := B.exec
  have hb := B.bytes
  have hr := B.returns
  have hts := atoms_spec (ws := wsX4_isTaken) B.pre
  have hown : s.vm.findClass RX4 = some m.cls := findClass_of_methodNamed B.named
  have hlocks := B.notSynchronized
  subst hsz
  have hD := hD0.self (sz := s.heap.size)
  generalize hAe : va_A [(h, .inr (0, [.ref q, .int len])), (q, .inl (g.2.1.1, N, .inl f))] s.heap.size = A at hD hE ⊢
  have hA : ∀ q : Nat, s.heap.size ≤ q → A q := fun q h => by rw [← hAe]; exact Or.inr h
  have hS : va_S A s.heap s.heap [] := va_S.rf
  have hl := lv_entry ([.ref h, .int i, .int base]) (n := 4) (Nat.le_of_ble_eq_true rfl)
  rw [lg_entry_eq]
  generalize (lg_sl ([.ref h, .int i, .int base]) ++ List.replicate (4 - (lg_sl ([.ref h, .int i, .int base])).length) Slot.unset).toArray = ls at hl ⊢
  have hl : lv_has ls 4 [(0, .ref h), (1, .int i), (2, .int base)] := hl
  refine lv_aload_n hx hb dX4_isTaken_0 rfl (lv_at hl 0 rfl) ?_
  refine lv_iload_n hx hb dX4_isTaken_1 rfl (lv_at hl 1 rfl) ?_
  refine kiV (As := [.int i]) (rest := []) (wc := [(h, .inr (0, [.ref q, .int len])), (q, .inl (g.2.1.1, N, .inl f))]) (wr := []) ⟨hx, hb, hml, hown, hts⟩ (c_X0_word l g h q N f len i hNn) (cwV 1 hts gX4_isTaken_X0_word rfl rfl rfl (by decide +kernel) ⟨Nat.le_of_ble_eq_true rfl, Nat.le_of_ble_eq_true rfl⟩) ⟨hK, hP, hD, hS, hA, hE, hN⟩ [0, 1] [] ⟨rfl, rfl, by decide⟩ (q0 := 0) (ci := 0) rfl rfl rfl rfl hl.1 (Nat.le_of_ble_eq_true rfl) dX4_isTaken_2 ⟨Nat.le_of_ble_eq_true rfl, Nat.le_of_ble_eq_true rfl⟩ rfl (fun r u H locs hw hP hD hS => ?_)
  obtain ⟨hq, hw⟩ := hw
  subst r
  subst hw
  have hP := hP.sub (ws' := [(h, .inr (0, [.ref q, .int len])), (q, .inl (g.2.1.1, N, .inl f))]) [0, 1] rfl
  have hD := hD.sub (ws' := [(h, .inr (0, [.ref q, .int len])), (q, .inl (g.2.1.1, N, .inl f))]) [0, 1] (by decide) rfl
  refine lv_istore_n (lv' := [(3, .int (sp_X0_word N f i)), (0, .ref h), (1, .int i), (2, .int base)]) hx hb dX4_isTaken_5 rfl hl (by decide) rfl (fun ls hl => ?_)
  refine lv_iload_n hx hb dX4_isTaken_6 rfl (lv_at hl 0 rfl) ?_
  refine lv_bipush (v := 17) hx hb dX4_isTaken_7 (by decide) ?_
  refine lv_icmp_gt (tgt := 20) hx hb dX4_isTaken_9 (by decide) (fun c_0 => ?_) (fun c_0 => ?_)
  · skip
    refine lv_iconst (v := 0) hx hb dX4_isTaken_20 (by decide) ?_
    exact k_iret hx hb hr hlocks ⟨hK, hP, hD, hS, hA, hE, hN⟩ rfl dX4_isTaken_21 (Nat.le_of_ble_eq_true rfl) (Nat.le_of_ble_eq_true rfl) ⟨(by simp only [sp_X4_isTaken, if_pos c_0]), rfl⟩
  · skip
    refine lv_aload_n hx hb dX4_isTaken_12 rfl (lv_at hl 1 rfl) ?_
    refine lv_iload_n hx hb dX4_isTaken_13 rfl (lv_at hl 2 rfl) ?_
    refine kiV (As := [.int i]) (rest := []) (wc := [(h, .inr (0, [.ref q, .int len])), (q, .inl (g.2.1.1, N, .inl f))]) (wr := []) ⟨hx, hb, hml, hown, hts⟩ (c_X0_hasRegistersOnly l g h q N f len i hNn) (cwV 1 hts gX4_isTaken_X0_hasRegistersOnly rfl rfl rfl (by decide +kernel) ⟨Nat.le_of_ble_eq_true rfl, Nat.le_of_ble_eq_true rfl⟩) ⟨hK, hP, hD, hS, hA, hE, hN⟩ [0, 1] [] ⟨rfl, rfl, by decide⟩ (q0 := 0) (ci := 0) rfl rfl rfl rfl hl.1 (Nat.le_of_ble_eq_true rfl) dX4_isTaken_14 ⟨Nat.le_of_ble_eq_true rfl, Nat.le_of_ble_eq_true rfl⟩ rfl (fun r u H locs hw hP hD hS => ?_)
    obtain ⟨hq, hw⟩ := hw
    subst r
    subst hw
    have hP := hP.sub (ws' := [(h, .inr (0, [.ref q, .int len])), (q, .inl (g.2.1.1, N, .inl f))]) [0, 1] rfl
    have hD := hD.sub (ws' := [(h, .inr (0, [.ref q, .int len])), (q, .inl (g.2.1.1, N, .inl f))]) [0, 1] (by decide) rfl
    refine lv_if_ne (tgt := 22) hx hb dX4_isTaken_17 (by decide) (fun c_1 => ?_) (fun c_1 => ?_)
    · skip
      refine lv_iload_n hx hb dX4_isTaken_22 rfl (lv_at hl 0 rfl) ?_
      by_cases c_2 : (sp_X0_word N f i) = 10
      · skip
        refine lv_tableIn (tgt := 89) (off := 66) hx hb dX4_isTaken_23 (by rw [c_2]; decide) (by rw [c_2]; decide) (by rw [c_2]; decide) (by decide) ?_
        refine lv_aload_n hx hb dX4_isTaken_89 rfl (lv_at hl 1 rfl) ?_
        refine lv_iload_n hx hb dX4_isTaken_90 rfl (lv_at hl 2 rfl) ?_
        refine kiV (As := [.int i]) (rest := []) (wc := [(h, .inr (0, [.ref q, .int len])), (q, .inl (g.2.1.1, N, .inl f))]) (wr := []) ⟨hx, hb, hml, hown, hts⟩ (c_X0_b l g h q N f len i hNn) (cwV 1 hts gX4_isTaken_X0_b rfl rfl rfl (by decide +kernel) ⟨Nat.le_of_ble_eq_true rfl, Nat.le_of_ble_eq_true rfl⟩) ⟨hK, hP, hD, hS, hA, hE, hN⟩ [0, 1] [] ⟨rfl, rfl, by decide⟩ (q0 := 0) (ci := 0) rfl rfl rfl rfl hl.1 (Nat.le_of_ble_eq_true rfl) dX4_isTaken_91 ⟨Nat.le_of_ble_eq_true rfl, Nat.le_of_ble_eq_true rfl⟩ rfl (fun r u H locs hw hP hD hS => ?_)
        obtain ⟨hq, hw⟩ := hw
        subst r
        subst hw
        have hP := hP.sub (ws' := [(h, .inr (0, [.ref q, .int len])), (q, .inl (g.2.1.1, N, .inl f))]) [0, 1] rfl
        have hD := hD.sub (ws' := [(h, .inr (0, [.ref q, .int len])), (q, .inl (g.2.1.1, N, .inl f))]) [0, 1] (by decide) rfl
        refine lv_bipush (v := 6) hx hb dX4_isTaken_94 (by decide) ?_
        refine lv_icmp_ne (tgt := 120) hx hb dX4_isTaken_96 (by decide) (fun c_3 => ?_) (fun c_3 => ?_)
        · skip
          refine lv_iconst (v := 0) hx hb dX4_isTaken_120 (by decide) ?_
          exact k_iret hx hb hr hlocks ⟨hK, hP, hD, hS, hA, hE, hN⟩ rfl dX4_isTaken_121 (Nat.le_of_ble_eq_true rfl) (Nat.le_of_ble_eq_true rfl) ⟨(by simp only [sp_X4_isTaken, if_neg c_0, if_neg c_1, if_pos c_2, if_neg c_3]), rfl⟩
        · skip
          refine lv_aload_n hx hb dX4_isTaken_99 rfl (lv_at hl 1 rfl) ?_
          refine lv_iload_n hx hb dX4_isTaken_100 rfl (lv_at hl 2 rfl) ?_
          refine kiV (As := [.int i]) (rest := []) (wc := [(h, .inr (0, [.ref q, .int len])), (q, .inl (g.2.1.1, N, .inl f))]) (wr := []) ⟨hx, hb, hml, hown, hts⟩ (c_X0_c l g h q N f len i hNn) (cwV 1 hts gX4_isTaken_X0_c rfl rfl rfl (by decide +kernel) ⟨Nat.le_of_ble_eq_true rfl, Nat.le_of_ble_eq_true rfl⟩) ⟨hK, hP, hD, hS, hA, hE, hN⟩ [0, 1] [] ⟨rfl, rfl, by decide⟩ (q0 := 0) (ci := 0) rfl rfl rfl rfl hl.1 (Nat.le_of_ble_eq_true rfl) dX4_isTaken_101 ⟨Nat.le_of_ble_eq_true rfl, Nat.le_of_ble_eq_true rfl⟩ rfl (fun r u H locs hw hP hD hS => ?_)
          obtain ⟨hq, hw⟩ := hw
          subst r
          subst hw
          have hP := hP.sub (ws' := [(h, .inr (0, [.ref q, .int len])), (q, .inl (g.2.1.1, N, .inl f))]) [0, 1] rfl
          have hD := hD.sub (ws' := [(h, .inr (0, [.ref q, .int len])), (q, .inl (g.2.1.1, N, .inl f))]) [0, 1] (by decide) rfl
          refine lv_if_ne (tgt := 120) hx hb dX4_isTaken_104 (by decide) (fun c_4 => ?_) (fun c_4 => ?_)
          · skip
            refine lv_iconst (v := 0) hx hb dX4_isTaken_120 (by decide) ?_
            exact k_iret hx hb hr hlocks ⟨hK, hP, hD, hS, hA, hE, hN⟩ rfl dX4_isTaken_121 (Nat.le_of_ble_eq_true rfl) (Nat.le_of_ble_eq_true rfl) ⟨(by simp only [sp_X4_isTaken, if_neg c_0, if_neg c_1, if_pos c_2, if_pos c_3, if_neg c_4]), rfl⟩
          · skip
            refine lv_aload_n hx hb dX4_isTaken_107 rfl (lv_at hl 1 rfl) ?_
            refine lv_iload_n hx hb dX4_isTaken_108 rfl (lv_at hl 2 rfl) ?_
            refine lv_iload_n hx hb dX4_isTaken_109 rfl (lv_at hl 3 rfl) ?_
            refine kiS (As := [.ref h, .int i, .int base]) (rest := []) (wc := [(h, .inr (0, [.ref q, .int len])), (q, .inl (g.2.1.1, N, .inl f))]) (wr := []) ⟨hx, hb, hml, hown, hts⟩ (c_X4_isBehindRegionMask l g h q N f len i base hNn) (va_cwS 3 hts gX4_isTaken_X4_isBehindRegionMask rfl rfl rfl (by decide +kernel) ⟨Nat.le_of_ble_eq_true rfl, Nat.le_of_ble_eq_true rfl⟩) ⟨hK, hP, hD, hS, hA, hE, hN⟩ [0, 1] [] ⟨rfl, rfl, by decide⟩ rfl hl.1 (Nat.le_of_ble_eq_true rfl) dX4_isTaken_110 ⟨Nat.le_of_ble_eq_true rfl, Nat.le_of_ble_eq_true rfl⟩ rfl (fun r u H locs hw hP hD hS => ?_)
            obtain ⟨hq, hw⟩ := hw
            subst r
            subst hw
            have hP := hP.sub (ws' := [(h, .inr (0, [.ref q, .int len])), (q, .inl (g.2.1.1, N, .inl f))]) [0, 1] rfl
            have hD := hD.sub (ws' := [(h, .inr (0, [.ref q, .int len])), (q, .inl (g.2.1.1, N, .inl f))]) [0, 1] (by decide) rfl
            refine lv_if_eq (tgt := 120) hx hb dX4_isTaken_113 (by decide) (fun c_5 => ?_) (fun c_5 => ?_)
            · skip
              refine lv_iconst (v := 0) hx hb dX4_isTaken_120 (by decide) ?_
              exact k_iret hx hb hr hlocks ⟨hK, hP, hD, hS, hA, hE, hN⟩ rfl dX4_isTaken_121 (Nat.le_of_ble_eq_true rfl) (Nat.le_of_ble_eq_true rfl) ⟨(by simp only [sp_X4_isTaken, if_neg c_0, if_neg c_1, if_pos c_2, if_pos c_3, if_pos c_4, if_pos c_5]), rfl⟩
            · skip
              refine lv_iconst (v := 1) hx hb dX4_isTaken_116 (by decide) ?_
              refine lv_goto (tgt := 121) hx hb dX4_isTaken_117 (by decide) ?_
              exact k_iret hx hb hr hlocks ⟨hK, hP, hD, hS, hA, hE, hN⟩ rfl dX4_isTaken_121 (Nat.le_of_ble_eq_true rfl) (Nat.le_of_ble_eq_true rfl) ⟨(by simp only [sp_X4_isTaken, if_neg c_0, if_neg c_1, if_pos c_2, if_pos c_3, if_pos c_4, if_neg c_5]), rfl⟩
      by_cases c_6 : (sp_X0_word N f i) = 11
      · skip
        refine lv_tableIn (tgt := 89) (off := 66) hx hb dX4_isTaken_23 (by rw [c_6]; decide) (by rw [c_6]; decide) (by rw [c_6]; decide) (by decide) ?_
        refine lv_aload_n hx hb dX4_isTaken_89 rfl (lv_at hl 1 rfl) ?_
        refine lv_iload_n hx hb dX4_isTaken_90 rfl (lv_at hl 2 rfl) ?_
        refine kiV (As := [.int i]) (rest := []) (wc := [(h, .inr (0, [.ref q, .int len])), (q, .inl (g.2.1.1, N, .inl f))]) (wr := []) ⟨hx, hb, hml, hown, hts⟩ (c_X0_b l g h q N f len i hNn) (cwV 1 hts gX4_isTaken_X0_b rfl rfl rfl (by decide +kernel) ⟨Nat.le_of_ble_eq_true rfl, Nat.le_of_ble_eq_true rfl⟩) ⟨hK, hP, hD, hS, hA, hE, hN⟩ [0, 1] [] ⟨rfl, rfl, by decide⟩ (q0 := 0) (ci := 0) rfl rfl rfl rfl hl.1 (Nat.le_of_ble_eq_true rfl) dX4_isTaken_91 ⟨Nat.le_of_ble_eq_true rfl, Nat.le_of_ble_eq_true rfl⟩ rfl (fun r u H locs hw hP hD hS => ?_)
        obtain ⟨hq, hw⟩ := hw
        subst r
        subst hw
        have hP := hP.sub (ws' := [(h, .inr (0, [.ref q, .int len])), (q, .inl (g.2.1.1, N, .inl f))]) [0, 1] rfl
        have hD := hD.sub (ws' := [(h, .inr (0, [.ref q, .int len])), (q, .inl (g.2.1.1, N, .inl f))]) [0, 1] (by decide) rfl
        refine lv_bipush (v := 6) hx hb dX4_isTaken_94 (by decide) ?_
        refine lv_icmp_ne (tgt := 120) hx hb dX4_isTaken_96 (by decide) (fun c_7 => ?_) (fun c_7 => ?_)
        · skip
          refine lv_iconst (v := 0) hx hb dX4_isTaken_120 (by decide) ?_
          exact k_iret hx hb hr hlocks ⟨hK, hP, hD, hS, hA, hE, hN⟩ rfl dX4_isTaken_121 (Nat.le_of_ble_eq_true rfl) (Nat.le_of_ble_eq_true rfl) ⟨(by simp only [sp_X4_isTaken, if_neg c_0, if_neg c_1, if_neg c_2, if_pos c_6, if_neg c_7]), rfl⟩
        · skip
          refine lv_aload_n hx hb dX4_isTaken_99 rfl (lv_at hl 1 rfl) ?_
          refine lv_iload_n hx hb dX4_isTaken_100 rfl (lv_at hl 2 rfl) ?_
          refine kiV (As := [.int i]) (rest := []) (wc := [(h, .inr (0, [.ref q, .int len])), (q, .inl (g.2.1.1, N, .inl f))]) (wr := []) ⟨hx, hb, hml, hown, hts⟩ (c_X0_c l g h q N f len i hNn) (cwV 1 hts gX4_isTaken_X0_c rfl rfl rfl (by decide +kernel) ⟨Nat.le_of_ble_eq_true rfl, Nat.le_of_ble_eq_true rfl⟩) ⟨hK, hP, hD, hS, hA, hE, hN⟩ [0, 1] [] ⟨rfl, rfl, by decide⟩ (q0 := 0) (ci := 0) rfl rfl rfl rfl hl.1 (Nat.le_of_ble_eq_true rfl) dX4_isTaken_101 ⟨Nat.le_of_ble_eq_true rfl, Nat.le_of_ble_eq_true rfl⟩ rfl (fun r u H locs hw hP hD hS => ?_)
          obtain ⟨hq, hw⟩ := hw
          subst r
          subst hw
          have hP := hP.sub (ws' := [(h, .inr (0, [.ref q, .int len])), (q, .inl (g.2.1.1, N, .inl f))]) [0, 1] rfl
          have hD := hD.sub (ws' := [(h, .inr (0, [.ref q, .int len])), (q, .inl (g.2.1.1, N, .inl f))]) [0, 1] (by decide) rfl
          refine lv_if_ne (tgt := 120) hx hb dX4_isTaken_104 (by decide) (fun c_8 => ?_) (fun c_8 => ?_)
          · skip
            refine lv_iconst (v := 0) hx hb dX4_isTaken_120 (by decide) ?_
            exact k_iret hx hb hr hlocks ⟨hK, hP, hD, hS, hA, hE, hN⟩ rfl dX4_isTaken_121 (Nat.le_of_ble_eq_true rfl) (Nat.le_of_ble_eq_true rfl) ⟨(by simp only [sp_X4_isTaken, if_neg c_0, if_neg c_1, if_neg c_2, if_pos c_6, if_pos c_7, if_neg c_8]), rfl⟩
          · skip
            refine lv_aload_n hx hb dX4_isTaken_107 rfl (lv_at hl 1 rfl) ?_
            refine lv_iload_n hx hb dX4_isTaken_108 rfl (lv_at hl 2 rfl) ?_
            refine lv_iload_n hx hb dX4_isTaken_109 rfl (lv_at hl 3 rfl) ?_
            refine kiS (As := [.ref h, .int i, .int base]) (rest := []) (wc := [(h, .inr (0, [.ref q, .int len])), (q, .inl (g.2.1.1, N, .inl f))]) (wr := []) ⟨hx, hb, hml, hown, hts⟩ (c_X4_isBehindRegionMask l g h q N f len i base hNn) (va_cwS 3 hts gX4_isTaken_X4_isBehindRegionMask rfl rfl rfl (by decide +kernel) ⟨Nat.le_of_ble_eq_true rfl, Nat.le_of_ble_eq_true rfl⟩) ⟨hK, hP, hD, hS, hA, hE, hN⟩ [0, 1] [] ⟨rfl, rfl, by decide⟩ rfl hl.1 (Nat.le_of_ble_eq_true rfl) dX4_isTaken_110 ⟨Nat.le_of_ble_eq_true rfl, Nat.le_of_ble_eq_true rfl⟩ rfl (fun r u H locs hw hP hD hS => ?_)
            obtain ⟨hq, hw⟩ := hw
            subst r
            subst hw
            have hP := hP.sub (ws' := [(h, .inr (0, [.ref q, .int len])), (q, .inl (g.2.1.1, N, .inl f))]) [0, 1] rfl
            have hD := hD.sub (ws' := [(h, .inr (0, [.ref q, .int len])), (q, .inl (g.2.1.1, N, .inl f))]) [0, 1] (by decide) rfl
            refine lv_if_eq (tgt := 120) hx hb dX4_isTaken_113 (by decide) (fun c_9 => ?_) (fun c_9 => ?_)
            · skip
              refine lv_iconst (v := 0) hx hb dX4_isTaken_120 (by decide) ?_
              exact k_iret hx hb hr hlocks ⟨hK, hP, hD, hS, hA, hE, hN⟩ rfl dX4_isTaken_121 (Nat.le_of_ble_eq_true rfl) (Nat.le_of_ble_eq_true rfl) ⟨(by simp only [sp_X4_isTaken, if_neg c_0, if_neg c_1, if_neg c_2, if_pos c_6, if_pos c_7, if_pos c_8, if_pos c_9]), rfl⟩
            · skip
              refine lv_iconst (v := 1) hx hb dX4_isTaken_116 (by decide) ?_
              refine lv_goto (tgt := 121) hx hb dX4_isTaken_117 (by decide) ?_
              exact k_iret hx hb hr hlocks ⟨hK, hP, hD, hS, hA, hE, hN⟩ rfl dX4_isTaken_121 (Nat.le_of_ble_eq_true rfl) (Nat.le_of_ble_eq_true rfl) ⟨(by simp only [sp_X4_isTaken, if_neg c_0, if_neg c_1, if_neg c_2, if_pos c_6, if_pos c_7, if_pos c_8, if_neg c_9]), rfl⟩
      by_cases c_10 : (sp_X0_word N f i) = 12
      · skip
        refine lv_tableIn (tgt := 60) (off := 37) hx hb dX4_isTaken_23 (by rw [c_10]; decide) (by rw [c_10]; decide) (by rw [c_10]; decide) (by decide) ?_
        refine lv_aload_n hx hb dX4_isTaken_60 rfl (lv_at hl 1 rfl) ?_
        refine lv_iload_n hx hb dX4_isTaken_61 rfl (lv_at hl 2 rfl) ?_
        refine kiS (As := [.ref h, .int i]) (rest := []) (wc := [(h, .inr (0, [.ref q, .int len])), (q, .inl (g.2.1.1, N, .inl f))]) (wr := []) ⟨hx, hb, hml, hown, hts⟩ (c_X4_leadsToBundle l g h q N f len i hNn) (va_cwS 2 hts gX4_isTaken_X4_leadsToBundle rfl rfl rfl (by decide +kernel) ⟨Nat.le_of_ble_eq_true rfl, Nat.le_of_ble_eq_true rfl⟩) ⟨hK, hP, hD, hS, hA, hE, hN⟩ [0, 1] [] ⟨rfl, rfl, by decide⟩ rfl hl.1 (Nat.le_of_ble_eq_true rfl) dX4_isTaken_62 ⟨Nat.le_of_ble_eq_true rfl, Nat.le_of_ble_eq_true rfl⟩ rfl (fun r u H locs hw hP hD hS => ?_)
        obtain ⟨hq, hw⟩ := hw
        subst r
        subst hw
        have hP := hP.sub (ws' := [(h, .inr (0, [.ref q, .int len])), (q, .inl (g.2.1.1, N, .inl f))]) [0, 1] rfl
        have hD := hD.sub (ws' := [(h, .inr (0, [.ref q, .int len])), (q, .inl (g.2.1.1, N, .inl f))]) [0, 1] (by decide) rfl
        exact k_iret hx hb hr hlocks ⟨hK, hP, hD, hS, hA, hE, hN⟩ (kz_b (by apply sp_X4_leadsToBundle_b)) dX4_isTaken_65 (Nat.le_of_ble_eq_true rfl) (Nat.le_of_ble_eq_true rfl) ⟨(by simp only [sp_X4_isTaken, if_neg c_0, if_neg c_1, if_neg c_2, if_neg c_6, if_pos c_10]), rfl⟩
      by_cases c_11 : (sp_X0_word N f i) = 13
      · skip
        refine lv_tableIn (tgt := 60) (off := 37) hx hb dX4_isTaken_23 (by rw [c_11]; decide) (by rw [c_11]; decide) (by rw [c_11]; decide) (by decide) ?_
        refine lv_aload_n hx hb dX4_isTaken_60 rfl (lv_at hl 1 rfl) ?_
        refine lv_iload_n hx hb dX4_isTaken_61 rfl (lv_at hl 2 rfl) ?_
        refine kiS (As := [.ref h, .int i]) (rest := []) (wc := [(h, .inr (0, [.ref q, .int len])), (q, .inl (g.2.1.1, N, .inl f))]) (wr := []) ⟨hx, hb, hml, hown, hts⟩ (c_X4_leadsToBundle l g h q N f len i hNn) (va_cwS 2 hts gX4_isTaken_X4_leadsToBundle rfl rfl rfl (by decide +kernel) ⟨Nat.le_of_ble_eq_true rfl, Nat.le_of_ble_eq_true rfl⟩) ⟨hK, hP, hD, hS, hA, hE, hN⟩ [0, 1] [] ⟨rfl, rfl, by decide⟩ rfl hl.1 (Nat.le_of_ble_eq_true rfl) dX4_isTaken_62 ⟨Nat.le_of_ble_eq_true rfl, Nat.le_of_ble_eq_true rfl⟩ rfl (fun r u H locs hw hP hD hS => ?_)
        obtain ⟨hq, hw⟩ := hw
        subst r
        subst hw
        have hP := hP.sub (ws' := [(h, .inr (0, [.ref q, .int len])), (q, .inl (g.2.1.1, N, .inl f))]) [0, 1] rfl
        have hD := hD.sub (ws' := [(h, .inr (0, [.ref q, .int len])), (q, .inl (g.2.1.1, N, .inl f))]) [0, 1] (by decide) rfl
        exact k_iret hx hb hr hlocks ⟨hK, hP, hD, hS, hA, hE, hN⟩ (kz_b (by apply sp_X4_leadsToBundle_b)) dX4_isTaken_65 (Nat.le_of_ble_eq_true rfl) (Nat.le_of_ble_eq_true rfl) ⟨(by simp only [sp_X4_isTaken, if_neg c_0, if_neg c_1, if_neg c_2, if_neg c_6, if_neg c_10, if_pos c_11]), rfl⟩
      by_cases c_12 : (sp_X0_word N f i) = 14
      · skip
        refine lv_tableIn (tgt := 122) (off := 99) hx hb dX4_isTaken_23 (by rw [c_12]; decide) (by rw [c_12]; decide) (by rw [c_12]; decide) (by decide) ?_
        refine lv_aload_n hx hb dX4_isTaken_122 rfl (lv_at hl 1 rfl) ?_
        refine lv_iload_n hx hb dX4_isTaken_123 rfl (lv_at hl 2 rfl) ?_
        refine kiV (As := [.int i]) (rest := []) (wc := [(h, .inr (0, [.ref q, .int len])), (q, .inl (g.2.1.1, N, .inl f))]) (wr := []) ⟨hx, hb, hml, hown, hts⟩ (c_X0_a l g h q N f len i hNn) (cwV 1 hts gX4_isTaken_X0_a rfl rfl rfl (by decide +kernel) ⟨Nat.le_of_ble_eq_true rfl, Nat.le_of_ble_eq_true rfl⟩) ⟨hK, hP, hD, hS, hA, hE, hN⟩ [0, 1] [] ⟨rfl, rfl, by decide⟩ (q0 := 0) (ci := 0) rfl rfl rfl rfl hl.1 (Nat.le_of_ble_eq_true rfl) dX4_isTaken_124 ⟨Nat.le_of_ble_eq_true rfl, Nat.le_of_ble_eq_true rfl⟩ rfl (fun r u H locs hw hP hD hS => ?_)
        obtain ⟨hq, hw⟩ := hw
        subst r
        subst hw
        have hP := hP.sub (ws' := [(h, .inr (0, [.ref q, .int len])), (q, .inl (g.2.1.1, N, .inl f))]) [0, 1] rfl
        have hD := hD.sub (ws' := [(h, .inr (0, [.ref q, .int len])), (q, .inl (g.2.1.1, N, .inl f))]) [0, 1] (by decide) rfl
        refine lv_bipush (v := 6) hx hb dX4_isTaken_127 (by decide) ?_
        refine lv_icmp_ne (tgt := 144) hx hb dX4_isTaken_129 (by decide) (fun c_13 => ?_) (fun c_13 => ?_)
        · skip
          refine lv_iconst (v := 0) hx hb dX4_isTaken_144 (by decide) ?_
          exact k_iret hx hb hr hlocks ⟨hK, hP, hD, hS, hA, hE, hN⟩ rfl dX4_isTaken_145 (Nat.le_of_ble_eq_true rfl) (Nat.le_of_ble_eq_true rfl) ⟨(by simp only [sp_X4_isTaken, if_neg c_0, if_neg c_1, if_neg c_2, if_neg c_6, if_neg c_10, if_neg c_11, if_pos c_12, if_neg c_13]), rfl⟩
        · skip
          refine lv_aload_n hx hb dX4_isTaken_132 rfl (lv_at hl 1 rfl) ?_
          refine lv_iload_n hx hb dX4_isTaken_133 rfl (lv_at hl 2 rfl) ?_
          refine kiS (As := [.ref h, .int i]) (rest := []) (wc := [(h, .inr (0, [.ref q, .int len])), (q, .inl (g.2.1.1, N, .inl f))]) (wr := []) ⟨hx, hb, hml, hown, hts⟩ (c_X4_isBehindCodeMask l g h q N f len i hNn) (va_cwS 2 hts gX4_isTaken_X4_isBehindCodeMask rfl rfl rfl (by decide +kernel) ⟨Nat.le_of_ble_eq_true rfl, Nat.le_of_ble_eq_true rfl⟩) ⟨hK, hP, hD, hS, hA, hE, hN⟩ [0, 1] [] ⟨rfl, rfl, by decide⟩ rfl hl.1 (Nat.le_of_ble_eq_true rfl) dX4_isTaken_134 ⟨Nat.le_of_ble_eq_true rfl, Nat.le_of_ble_eq_true rfl⟩ rfl (fun r u H locs hw hP hD hS => ?_)
          obtain ⟨hq, hw⟩ := hw
          subst r
          subst hw
          have hP := hP.sub (ws' := [(h, .inr (0, [.ref q, .int len])), (q, .inl (g.2.1.1, N, .inl f))]) [0, 1] rfl
          have hD := hD.sub (ws' := [(h, .inr (0, [.ref q, .int len])), (q, .inl (g.2.1.1, N, .inl f))]) [0, 1] (by decide) rfl
          refine lv_if_eq (tgt := 144) hx hb dX4_isTaken_137 (by decide) (fun c_14 => ?_) (fun c_14 => ?_)
          · skip
            refine lv_iconst (v := 0) hx hb dX4_isTaken_144 (by decide) ?_
            exact k_iret hx hb hr hlocks ⟨hK, hP, hD, hS, hA, hE, hN⟩ rfl dX4_isTaken_145 (Nat.le_of_ble_eq_true rfl) (Nat.le_of_ble_eq_true rfl) ⟨(by simp only [sp_X4_isTaken, if_neg c_0, if_neg c_1, if_neg c_2, if_neg c_6, if_neg c_10, if_neg c_11, if_pos c_12, if_pos c_13, if_pos c_14]), rfl⟩
          · skip
            refine lv_iconst (v := 1) hx hb dX4_isTaken_140 (by decide) ?_
            refine lv_goto (tgt := 145) hx hb dX4_isTaken_141 (by decide) ?_
            exact k_iret hx hb hr hlocks ⟨hK, hP, hD, hS, hA, hE, hN⟩ rfl dX4_isTaken_145 (Nat.le_of_ble_eq_true rfl) (Nat.le_of_ble_eq_true rfl) ⟨(by simp only [sp_X4_isTaken, if_neg c_0, if_neg c_1, if_neg c_2, if_neg c_6, if_neg c_10, if_neg c_11, if_pos c_12, if_pos c_13, if_neg c_14]), rfl⟩
      by_cases c_15 : (sp_X0_word N f i) = 15
      · skip
        refine lv_tableIn (tgt := 66) (off := 43) hx hb dX4_isTaken_23 (by rw [c_15]; decide) (by rw [c_15]; decide) (by rw [c_15]; decide) (by decide) ?_
        refine lv_aload_n hx hb dX4_isTaken_66 rfl (lv_at hl 1 rfl) ?_
        refine lv_iload_n hx hb dX4_isTaken_67 rfl (lv_at hl 2 rfl) ?_
        refine kiS (As := [.ref h, .int i]) (rest := []) (wc := [(h, .inr (0, [.ref q, .int len])), (q, .inl (g.2.1.1, N, .inl f))]) (wr := []) ⟨hx, hb, hml, hown, hts⟩ (c_X4_leadsToBundle l g h q N f len i hNn) (va_cwS 2 hts gX4_isTaken_X4_leadsToBundle rfl rfl rfl (by decide +kernel) ⟨Nat.le_of_ble_eq_true rfl, Nat.le_of_ble_eq_true rfl⟩) ⟨hK, hP, hD, hS, hA, hE, hN⟩ [0, 1] [] ⟨rfl, rfl, by decide⟩ rfl hl.1 (Nat.le_of_ble_eq_true rfl) dX4_isTaken_68 ⟨Nat.le_of_ble_eq_true rfl, Nat.le_of_ble_eq_true rfl⟩ rfl (fun r u H locs hw hP hD hS => ?_)
        obtain ⟨hq, hw⟩ := hw
        subst r
        subst hw
        have hP := hP.sub (ws' := [(h, .inr (0, [.ref q, .int len])), (q, .inl (g.2.1.1, N, .inl f))]) [0, 1] rfl
        have hD := hD.sub (ws' := [(h, .inr (0, [.ref q, .int len])), (q, .inl (g.2.1.1, N, .inl f))]) [0, 1] (by decide) rfl
        refine lv_if_eq (tgt := 87) hx hb dX4_isTaken_71 (by decide) (fun c_16 => ?_) (fun c_16 => ?_)
        · skip
          refine lv_iconst (v := 0) hx hb dX4_isTaken_87 (by decide) ?_
          exact k_iret hx hb hr hlocks ⟨hK, hP, hD, hS, hA, hE, hN⟩ rfl dX4_isTaken_88 (Nat.le_of_ble_eq_true rfl) (Nat.le_of_ble_eq_true rfl) ⟨(by simp only [sp_X4_isTaken, if_neg c_0, if_neg c_1, if_neg c_2, if_neg c_6, if_neg c_10, if_neg c_11, if_neg c_12, if_pos c_15, if_pos c_16]), rfl⟩
        · skip
          refine lv_iload_n hx hb dX4_isTaken_74 rfl (lv_at hl 2 rfl) ?_
          refine lv_bipush (v := 16) hx hb dX4_isTaken_75 (by decide) ?_
          refine lv_irem hx hb dX4_isTaken_77 (by decide) ?_
          refine lv_bipush (v := 12) hx hb dX4_isTaken_78 (by decide) ?_
          refine lv_icmp_ne (tgt := 87) hx hb dX4_isTaken_80 (by decide) (fun c_17 => ?_) (fun c_17 => ?_)
          · skip
            refine lv_iconst (v := 0) hx hb dX4_isTaken_87 (by decide) ?_
            exact k_iret hx hb hr hlocks ⟨hK, hP, hD, hS, hA, hE, hN⟩ rfl dX4_isTaken_88 (Nat.le_of_ble_eq_true rfl) (Nat.le_of_ble_eq_true rfl) ⟨(by simp only [sp_X4_isTaken, if_neg c_0, if_neg c_1, if_neg c_2, if_neg c_6, if_neg c_10, if_neg c_11, if_neg c_12, if_pos c_15, if_neg c_16, if_neg c_17]), rfl⟩
          · skip
            refine lv_iconst (v := 1) hx hb dX4_isTaken_83 (by decide) ?_
            refine lv_goto (tgt := 88) hx hb dX4_isTaken_84 (by decide) ?_
            exact k_iret hx hb hr hlocks ⟨hK, hP, hD, hS, hA, hE, hN⟩ rfl dX4_isTaken_88 (Nat.le_of_ble_eq_true rfl) (Nat.le_of_ble_eq_true rfl) ⟨(by simp only [sp_X4_isTaken, if_neg c_0, if_neg c_1, if_neg c_2, if_neg c_6, if_neg c_10, if_neg c_11, if_neg c_12, if_pos c_15, if_neg c_16, if_pos c_17]), rfl⟩
      refine lv_tableOut (tgt := 146) hx hb dX4_isTaken_23 (by have z0 := lv_neT c_2 (by decide : (10 : Int32).toInt = 10); have z1 := lv_neT c_6 (by decide : (11 : Int32).toInt = 11); have z2 := lv_neT c_10 (by decide : (12 : Int32).toInt = 12); have z3 := lv_neT c_11 (by decide : (13 : Int32).toInt = 13); have z4 := lv_neT c_12 (by decide : (14 : Int32).toInt = 14); have z5 := lv_neT c_15 (by decide : (15 : Int32).toInt = 15); omega) (by decide) ?_
      refine lv_iconst (v := 1) hx hb dX4_isTaken_146 (by decide) ?_
      exact k_iret hx hb hr hlocks ⟨hK, hP, hD, hS, hA, hE, hN⟩ rfl dX4_isTaken_147 (Nat.le_of_ble_eq_true rfl) (Nat.le_of_ble_eq_true rfl) ⟨(by simp only [sp_X4_isTaken, if_neg c_0, if_neg c_1, if_neg c_2, if_neg c_6, if_neg c_10, if_neg c_11, if_neg c_12, if_neg c_15]), rfl⟩
    · skip
      refine lv_iconst (v := 0) hx hb dX4_isTaken_20 (by decide) ?_
      exact k_iret hx hb hr hlocks ⟨hK, hP, hD, hS, hA, hE, hN⟩ rfl dX4_isTaken_21 (Nat.le_of_ble_eq_true rfl) (Nat.le_of_ble_eq_true rfl) ⟨(by simp only [sp_X4_isTaken, if_neg c_0, if_pos c_1]), rfl⟩
