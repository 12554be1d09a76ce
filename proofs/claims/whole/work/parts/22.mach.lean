def sp_X1_valueOf (fr : Nat → Int32) (r0 : Int32) : Int32 := if r0 < 0 then 0 else (if (nI 8) ≤ r0 then 0 else (fr r0.toNatClampNeg))
set_option maxHeartbeats 4000000 in
set_option maxRecDepth 100000 in
theorem c_X1_valueOf (l : Launch) (g : KG) (hM : Nat) (qr : Nat) (qm : Nat) (fr : Nat → Int32) (fm : Nat → Int32) (base : Int32) (ad : Int32) (sn : Int32) (sy : Int32) (sl : Int32) (rg : Int32) (ly : Int32) (r0 : Int32)  : Ci l g yX1_valueOf wsX1_valueOf ({ frames := 0, cells := 0, slots := 0, locals := 0 }) [.ref hM, .int r0] [(hM, .inr (1, [.int base, .ref qr, .ref qm, .int ad, .int sn, .int sy, .int sl, .int rg, .int ly])), (qr, .inl (g.2.1.1, 8, .inl fr)), (qm, .inl (g.2.1.1, 4096, .inl fm))] (fun r u => r = sp_X1_valueOf fr r0 ∧ u = [(hM, .inr (1, [.int base, .ref qr, .ref qm, .int ad, .int sn, .int sy, .int sl, .int rg, .int ly])), (qr, .inl (g.2.1.1, 8, .inl fr)), (qm, .inl (g.2.1.1, 4096, .inl fm))]) 0 0 := by
  intro sz
  refine Met.ofW (cc := cX1_valueOf) (maxL := 2) (ret := (some .int)) (by decide) rfl ?_
  intro p e s m args below meth c s₁ B hml hv
  obtain ⟨rfl, hsz, hP, hK, hD0, hE, hN⟩ := hv
  have hx := B.exec
  have hb := B.bytes
  have hr := B.returns
  have hts := atoms_spec (ws := wsX1_valueOf) B.pre
  have hown : s.vm.findClass RX1 = some m.cls := findClass_of_methodNamed B.named
  have hlocks := B.notSynchronized
  have iX1 : ∀ w ∈ u_ws RX1 TX1 9, w ∈ wsX1_valueOf := by decide +kernel
  subst hsz
  have hD := hD0.self (sz := s.heap.size)
  generalize hAe : va_A [(hM, .inr (1, [.int base, .ref qr, .ref qm, .int ad, .int sn, .int sy, .int sl, .int rg, .int ly])), (qr, .inl (g.2.1.1, 8, .inl fr)), (qm, .inl (g.2.1.1, 4096, .inl fm))] s.heap.size = A at hD hE ⊢
  have hA : ∀ q : Nat, s.heap.size ≤ q → A q := fun q h => by rw [← hAe]; exact Or.inr h
  have hS : va_S A s.heap s.heap [] := va_S.rf
  have hl := lv_entry ([.ref hM, .int r0]) (n := 2) (Nat.le_of_ble_eq_true rfl)
  rw [lg_entry_eq]
  generalize (lg_sl ([.ref hM, .int r0]) ++ List.replicate (2 - (lg_sl ([.ref hM, .int r0])).length) Slot.unset).toArray = ls at hl ⊢
  have hl : lv_has ls 2 [(0, .ref hM), (1, .int r0)] := hl
  refine lv_iload_n hx hb dX1_valueOf_0 rfl (lv_at hl 1 rfl) ?_
  refine lv_if_lt (tgt := 22) hx hb dX1_valueOf_1 (by decide) (fun c_0 => ?_) (fun c_0 => ?_)
  · skip
    refine lv_iconst (v := 0) hx hb dX1_valueOf_22 (by decide) ?_
    exact k_iret hx hb hr hlocks ⟨hK, hP, hD, hS, hA, hE, hN⟩ rfl dX1_valueOf_23 (Nat.le_of_ble_eq_true rfl) (Nat.le_of_ble_eq_true rfl) ⟨(by simp only [sp_X1_valueOf, if_pos c_0]), rfl⟩
  · skip
    refine lv_iload_n hx hb dX1_valueOf_4 rfl (lv_at hl 1 rfl) ?_
    refine lv_aload_n hx hb dX1_valueOf_5 rfl (lv_at hl 0 rfl) ?_
    refine va_get (D := g.1) (ci := 1) (v := .ref qr) (C := RX1) (T := TX1) (N := 9) hx hb hts iX1 hown hK hP 0 rfl rfl 1 (by decide) (hts (.fieldLink RX1 9 "FaultIsolation$Machine" "registers" "[I") (by decide +kernel)) (fun _ h9 => h9) rfl dX1_valueOf_6 ?_
    refine va_alen (v := nI 8) hx hb hK hP 1 0 rfl rfl rfl dX1_valueOf_9 ?_
    refine lv_icmp_ge (tgt := 22) hx hb dX1_valueOf_10 (by decide) (fun c_1 => ?_) (fun c_1 => ?_)
    · skip
      refine lv_iconst (v := 0) hx hb dX1_valueOf_22 (by decide) ?_
      exact k_iret hx hb hr hlocks ⟨hK, hP, hD, hS, hA, hE, hN⟩ rfl dX1_valueOf_23 (Nat.le_of_ble_eq_true rfl) (Nat.le_of_ble_eq_true rfl) ⟨(by simp only [sp_X1_valueOf, if_neg c_0, if_pos c_1]), rfl⟩
    · skip
      refine lv_aload_n hx hb dX1_valueOf_13 rfl (lv_at hl 0 rfl) ?_
      refine va_get (D := g.1) (ci := 1) (v := .ref qr) (C := RX1) (T := TX1) (N := 9) hx hb hts iX1 hown hK hP 0 rfl rfl 1 (by decide) (hts (.fieldLink RX1 9 "FaultIsolation$Machine" "registers" "[I") (by decide +kernel)) (fun _ h9 => h9) rfl dX1_valueOf_14 ?_
      refine lv_iload_n hx hb dX1_valueOf_17 rfl (lv_at hl 1 rfl) ?_
      refine va_iald hx hb hK hP 1 0 rfl rfl (k_in c_0 c_1 (by decide)) dX1_valueOf_18 ?_
      refine lv_goto (tgt := 23) hx hb dX1_valueOf_19 (by decide) ?_
      exact k_iret hx hb hr hlocks ⟨hK, hP, hD, hS, hA, hE, hN⟩ rfl dX1_valueOf_23 (Nat.le_of_ble_eq_true rfl) (Nat.le_of_ble_eq_true rfl) ⟨(by simp only [sp_X1_valueOf, if_neg c_0, if_neg c_1]), rfl⟩
def sp_X1_change_registers (fr : Nat → Int32) (r0 : Int32) (v : Int32) : Nat → Int32 := if r0 < 0 then fr else (if (nI 8) ≤ r0 then fr else (upd fr r0.toNatClampNeg v))
set_option maxHeartbeats 4000000 in
set_option maxRecDepth 100000 in
theorem c_X1_change (l : Launch) (g : KG) (hM : Nat) (qr : Nat) (qm : Nat) (fr : Nat → Int32) (fm : Nat → Int32) (base : Int32) (ad : Int32) (sn : Int32) (sy : Int32) (sl : Int32) (rg : Int32) (ly : Int32) (r0 : Int32) (v : Int32)  : Cv l g yX1_change wsX1_change ({ frames := 0, cells := 0, slots := 0, locals := 0 }) [.ref hM, .int r0, .int v] [(hM, .inr (1, [.int base, .ref qr, .ref qm, .int ad, .int sn, .int sy, .int sl, .int rg, .int ly])), (qr, .inl (g.2.1.1, 8, .inl fr)), (qm, .inl (g.2.1.1, 4096, .inl fm))] (fun u => u = [(hM, .inr (1, [.int base, .ref qr, .ref qm, .int ad, .int sn, .int sy, .int sl, .int rg, .int ly])), (qr, .inl (g.2.1.1, 8, .inl (sp_X1_change_registers fr r0 v))), (qm, .inl (g.2.1.1, 4096, .inl fm))]) 0 0 := by
  intro sz
  refine Met.ofW (cc := cX1_change) (maxL := 3) (ret := none) (by decide) rfl ?_
  intro p e s m args below meth c s₁ B hml hv
  obtain ⟨rfl, hsz, hP, hK, hD0, hE, hN⟩ := hv
  have hx := B.exec
  have hb := B.bytes
  have hr := B.returns
  have hts := atoms_spec (ws := wsX1_change) B.pre
  have hown : s.vm.findClass RX1 = some m.cls := findClass_of_methodNamed B.named
  have hlocks := B.notSynchronized
  have iX1 : ∀ w ∈ u_ws RX1 TX1 9, w ∈ wsX1_change := by decide +kernel
  subst hsz
  have hD := hD0.self (sz := s.heap.size)
  generalize hAe : va_A [(hM, .inr (1, [.int base, .ref qr, .ref qm, .int ad, .int sn, .int sy, .int sl, .int rg, .int ly])), (qr, .inl (g.2.1.1, 8, .inl fr)), (qm, .inl (g.2.1.1, 4096, .inl fm))] s.heap.size = A at hD hE ⊢
  have hA : ∀ q : Nat, s.heap.size ≤ q → A q := fun q h => by rw [← hAe]; exact Or.inr h
  have hS : va_S A s.heap s.heap [] := va_S.rf
  have hl := lv_entry ([.ref hM, .int r0, .int v]) (n := 3) (Nat.le_of_ble_eq_true rfl)
  rw [lg_entry_eq]
  generalize (lg_sl ([.ref hM, .int r0, .int v]) ++ List.replicate (3 - (lg_sl ([.ref hM, .int r0, .int v])).length) Slot.unset).toArray = ls at hl ⊢
  have hl : lv_has ls 3 [(0, .ref hM), (1, .int r0), (2, .int v)] := hl
  refine lv_iload_n hx hb dX1_change_0 rfl (lv_at hl 1 rfl) ?_
  refine lv_if_lt (tgt := 20) hx hb dX1_change_1 (by decide) (fun c_0 => ?_) (fun c_0 => ?_)
  · skip
    exact k_vret hx hb hr hlocks ⟨hK, hP, hD, hS, hA, hE, hN⟩ dX1_change_20 (Nat.le_of_ble_eq_true rfl) (Nat.le_of_ble_eq_true rfl) (by simp only [sp_X1_change_registers, if_pos c_0])
  · skip
    refine lv_iload_n hx hb dX1_change_4 rfl (lv_at hl 1 rfl) ?_
    refine lv_aload_n hx hb dX1_change_5 rfl (lv_at hl 0 rfl) ?_
    refine va_get (D := g.1) (ci := 1) (v := .ref qr) (C := RX1) (T := TX1) (N := 9) hx hb hts iX1 hown hK hP 0 rfl rfl 1 (by decide) (hts (.fieldLink RX1 9 "FaultIsolation$Machine" "registers" "[I") (by decide +kernel)) (fun _ h9 => h9) rfl dX1_change_6 ?_
    refine va_alen (v := nI 8) hx hb hK hP 1 0 rfl rfl rfl dX1_change_9 ?_
    refine lv_icmp_ge (tgt := 20) hx hb dX1_change_10 (by decide) (fun c_1 => ?_) (fun c_1 => ?_)
    · skip
      exact k_vret hx hb hr hlocks ⟨hK, hP, hD, hS, hA, hE, hN⟩ dX1_change_20 (Nat.le_of_ble_eq_true rfl) (Nat.le_of_ble_eq_true rfl) (by simp only [sp_X1_change_registers, if_neg c_0, if_pos c_1])
    · skip
      refine lv_aload_n hx hb dX1_change_13 rfl (lv_at hl 0 rfl) ?_
      refine va_get (D := g.1) (ci := 1) (v := .ref qr) (C := RX1) (T := TX1) (N := 9) hx hb hts iX1 hown hK hP 0 rfl rfl 1 (by decide) (hts (.fieldLink RX1 9 "FaultIsolation$Machine" "registers" "[I") (by decide +kernel)) (fun _ h9 => h9) rfl dX1_change_14 ?_
      refine lv_iload_n hx hb dX1_change_17 rfl (lv_at hl 1 rfl) ?_
      refine lv_iload_n hx hb dX1_change_18 rfl (lv_at hl 2 rfl) ?_
      refine va_iast hx hb hK hP hD hS 1 0 rfl rfl (k_in c_0 c_1 (by decide)) dX1_change_19 (fun H locs hP hD hS => ?_)
      have hP : va_P g.1 vwCl [(hM, .inr (1, [.int base, .ref qr, .ref qm, .int ad, .int sn, .int sy, .int sl, .int rg, .int ly])), (qr, .inl (g.2.1.1, 8, .inl (upd fr r0.toNatClampNeg v))), (qm, .inl (g.2.1.1, 4096, .inl fm))] H := hP
      have hD : va_D A [(hM, .inr (1, [.int base, .ref qr, .ref qm, .int ad, .int sn, .int sy, .int sl, .int rg, .int ly])), (qr, .inl (g.2.1.1, 8, .inl (upd fr r0.toNatClampNeg v))), (qm, .inl (g.2.1.1, 4096, .inl fm))] := hD
      exact k_vret hx hb hr hlocks ⟨hK, hP, hD, hS, hA, hE, hN⟩ dX1_change_20 (Nat.le_of_ble_eq_true rfl) (Nat.le_of_ble_eq_true rfl) (by simp only [sp_X1_change_registers, if_neg c_0, if_neg c_1])
def sp_X1_load (fm : Nat → Int32) (i : Int32) : Int32 := if i < 0 then 0 else (if (nI 4096) ≤ i then 0 else (fm i.toNatClampNeg))
set_option maxHeartbeats 4000000 in
set_option maxRecDepth 100000 in
theorem c_X1_load (l : Launch) (g : KG) (hM : Nat) (qr : Nat) (qm : Nat) (fr : Nat → Int32) (fm : Nat → Int32) (base : Int32) (ad : Int32) (sn : Int32) (sy : Int32) (sl : Int32) (rg : Int32) (ly : Int32) (i : Int32)  : Ci l g yX1_load wsX1_load ({ frames := 0, cells := 0, slots := 0, locals := 0 }) [.ref hM, .int i] [(hM, .inr (1, [.int base, .ref qr, .ref qm, .int ad, .int sn, .int sy, .int sl, .int rg, .int ly])), (qr, .inl (g.2.1.1, 8, .inl fr)), (qm, .inl (g.2.1.1, 4096, .inl fm))] (fun r u => r = sp_X1_load fm i ∧ u = [(hM, .inr (1, [.int base, .ref qr, .ref qm, .int ad, .int sn, .int sy, .int sl, .int rg, .int ly])), (qr, .inl (g.2.1.1, 8, .inl fr)), (qm, .inl (g.2.1.1, 4096, .inl fm))]) 0 0 := by
  intro sz
  refine Met.ofW (cc := cX1_load) (maxL := 2) (ret := (some .int)) (by decide) rfl ?_
  intro p e s m args below meth c s₁ B hml hv
  obtain ⟨rfl, hsz, hP, hK, hD0, hE, hN⟩ := hv
  have hx := B.exec
  have hb := B.bytes
  have hr := B.returns
  have hts := atoms_spec (ws := wsX1_load) B.pre
  have hown : s.vm.findClass RX1 = some m.cls := findClass_of_methodNamed B.named
  have hlocks := B.notSynchronized
  have iX1 : ∀ w ∈ u_ws RX1 TX1 9, w ∈ wsX1_load := by decide +kernel
  subst hsz
  have hD := hD0.self (sz := s.heap.size)
  generalize hAe : va_A [(hM, .inr (1, [.int base, .ref qr, .ref qm, .int ad, .int sn, .int sy, .int sl, .int rg, .int ly])), (qr, .inl (g.2.1.1, 8, .inl fr)), (qm, .inl (g.2.1.1, 4096, .inl fm))] s.heap.size = A at hD hE ⊢
  have hA : ∀ q : Nat, s.heap.size ≤ q → A q := fun q h => by rw [← hAe]; exact Or.inr h
  have hS : va_S A s.heap s.heap [] := va_S.rf
  have hl := lv_entry ([.ref hM, .int i]) (n := 2) (Nat.le_of_ble_eq_true rfl)
  rw [lg_entry_eq]
  generalize (lg_sl ([.ref hM, .int i]) ++ List.replicate (2 - (lg_sl ([.ref hM, .int i])).length) Slot.unset).toArray = ls at hl ⊢
  have hl : lv_has ls 2 [(0, .ref hM), (1, .int i)] := hl
  refine lv_iload_n hx hb dX1_load_0 rfl (lv_at hl 1 rfl) ?_
  refine lv_if_lt (tgt := 22) hx hb dX1_load_1 (by decide) (fun c_0 => ?_) (fun c_0 => ?_)
  · skip
    refine lv_iconst (v := 0) hx hb dX1_load_22 (by decide) ?_
    exact k_iret hx hb hr hlocks ⟨hK, hP, hD, hS, hA, hE, hN⟩ rfl dX1_load_23 (Nat.le_of_ble_eq_true rfl) (Nat.le_of_ble_eq_true rfl) ⟨(by simp only [sp_X1_load, if_pos c_0]), rfl⟩
  · skip
    refine lv_iload_n hx hb dX1_load_4 rfl (lv_at hl 1 rfl) ?_
    refine lv_aload_n hx hb dX1_load_5 rfl (lv_at hl 0 rfl) ?_
    refine va_get (D := g.1) (ci := 1) (v := .ref qm) (C := RX1) (T := TX1) (N := 9) hx hb hts iX1 hown hK hP 0 rfl rfl 2 (by decide) (hts (.fieldLink RX1 15 "FaultIsolation$Machine" "cells" "[I") (by decide +kernel)) (fun _ h9 => h9) rfl dX1_load_6 ?_
    refine va_alen (v := nI 4096) hx hb hK hP 2 0 rfl rfl rfl dX1_load_9 ?_
    refine lv_icmp_ge (tgt := 22) hx hb dX1_load_10 (by decide) (fun c_1 => ?_) (fun c_1 => ?_)
    · skip
      refine lv_iconst (v := 0) hx hb dX1_load_22 (by decide) ?_
      exact k_iret hx hb hr hlocks ⟨hK, hP, hD, hS, hA, hE, hN⟩ rfl dX1_load_23 (Nat.le_of_ble_eq_true rfl) (Nat.le_of_ble_eq_true rfl) ⟨(by simp only [sp_X1_load, if_neg c_0, if_pos c_1]), rfl⟩
    · skip
      refine lv_aload_n hx hb dX1_load_13 rfl (lv_at hl 0 rfl) ?_
      refine va_get (D := g.1) (ci := 1) (v := .ref qm) (C := RX1) (T := TX1) (N := 9) hx hb hts iX1 hown hK hP 0 rfl rfl 2 (by decide) (hts (.fieldLink RX1 15 "FaultIsolation$Machine" "cells" "[I") (by decide +kernel)) (fun _ h9 => h9) rfl dX1_load_14 ?_
      refine lv_iload_n hx hb dX1_load_17 rfl (lv_at hl 1 rfl) ?_
      refine va_iald hx hb hK hP 2 0 rfl rfl (k_in c_0 c_1 (by decide)) dX1_load_18 ?_
      refine lv_goto (tgt := 23) hx hb dX1_load_19 (by decide) ?_
      exact k_iret hx hb hr hlocks ⟨hK, hP, hD, hS, hA, hE, hN⟩ rfl dX1_load_23 (Nat.le_of_ble_eq_true rfl) (Nat.le_of_ble_eq_true rfl) ⟨(by simp only [sp_X1_load, if_neg c_0, if_neg c_1]), rfl⟩
def sp_X1_store_cells (fm : Nat → Int32) (i : Int32) (v : Int32) : Nat → Int32 := if i < 0 then fm else (if (nI 4096) ≤ i then fm else (upd fm i.toNatClampNeg v))
set_option maxHeartbeats 4000000 in
set_option maxRecDepth 100000 in
theorem c_X1_store (l : Launch) (g : KG) (hM : Nat) (qr : Nat) (qm : Nat) (fr : Nat → Int32) (fm : Nat → Int32) (base : Int32) (ad : Int32) (sn : Int32) (sy : Int32) (sl : Int32) (rg : Int32) (ly : Int32) (i : Int32) (v : Int32)  : Cv l g yX1_store wsX1_store ({ frames := 0, cells := 0, slots := 0, locals := 0 }) [.ref hM, .int i, .int v] [(hM, .inr (1, [.int base, .ref qr, .ref qm, .int ad, .int sn, .int sy, .int sl, .int rg, .int ly])), (qr, .inl (g.2.1.1, 8, .inl fr)), (qm, .inl (g.2.1.1, 4096, .inl fm))] (fun u => u = [(hM, .inr (1, [.int base, .ref qr, .ref qm, .int ad, .int sn, .int sy, .int sl, .int rg, .int ly])), (qr, .inl (g.2.1.1, 8, .inl fr)), (qm, .inl (g.2.1.1, 4096, .inl (sp_X1_store_cells fm i v)))]) 0 0 := by
  intro sz
  refine Met.ofW (cc := cX1_store) (maxL := 3) (ret := none) (by decide) rfl ?_
  intro p e s m args below meth c s₁ B hml hv
  obtain ⟨rfl, hsz, hP, hK, hD0, hE, hN⟩ := hv
  have hx := B.exec
  have hb := B.bytes
  have hr := B.returns
  have hts := atoms_spec (ws := wsX1_store) B.pre
  have hown : s.vm.findClass RX1 = some m.cls := findClass_of_methodNamed B.named
  have hlocks := B.notSynchronized
  have iX1 : ∀ w ∈ u_ws RX1 TX1 9, w ∈ wsX1_store := by decide +kernel
  subst hsz
  have hD := hD0.self (sz := s.heap.size)
  generalize hAe : va_A [(hM, .inr (1, [.int base, .ref qr, .ref qm, .int ad, .int sn, .int sy, .int sl, .int rg, .int ly])), (qr, .inl (g.2.1.1, 8, .inl fr)), (qm, .inl (g.2.1.1, 4096, .inl fm))] s.heap.size = A at hD hE ⊢
  have hA : ∀ q : Nat, s.heap.size ≤ q → A q := fun q h => by rw [← hAe]; exact Or.inr h
  have hS : va_S A s.heap s.heap [] := va_S.rf
  have hl := lv_entry ([.ref hM, .int i, .int v]) (n := 3) (Nat.le_of_ble_eq_true rfl)
  rw [lg_entry_eq]
  generalize (lg_sl ([.ref hM, .int i, .int v]) ++ List.replicate (3 - (lg_sl ([.ref hM, .int i, .int v])).length) Slot.unset).toArray = ls at hl ⊢
  have hl : lv_has ls 3 [(0, .ref hM), (1, .int i), (2, .int v)] := hl
  refine lv_iload_n hx hb dX1_store_0 rfl (lv_at hl 1 rfl) ?_
  refine lv_if_lt (tgt := 20) hx hb dX1_store_1 (by decide) (fun c_0 => ?_) (fun c_0 => ?_)
  · skip
    exact k_vret hx hb hr hlocks ⟨hK, hP, hD, hS, hA, hE, hN⟩ dX1_store_20 (Nat.le_of_ble_eq_true rfl) (Nat.le_of_ble_eq_true rfl) (by simp only [sp_X1_store_cells, if_pos c_0])
  · skip
    refine lv_iload_n hx hb dX1_store_4 rfl (lv_at hl 1 rfl) ?_
    refine lv_aload_n hx hb dX1_store_5 rfl (lv_at hl 0 rfl) ?_
    refine va_get (D := g.1) (ci := 1) (v := .ref qm) (C := RX1) (T := TX1) (N := 9) hx hb hts iX1 hown hK hP 0 rfl rfl 2 (by decide) (hts (.fieldLink RX1 15 "FaultIsolation$Machine" "cells" "[I") (by decide +kernel)) (fun _ h9 => h9) rfl dX1_store_6 ?_
    refine va_alen (v := nI 4096) hx hb hK hP 2 0 rfl rfl rfl dX1_store_9 ?_
    refine lv_icmp_ge (tgt := 20) hx hb dX1_store_10 (by decide) (fun c_1 => ?_) (fun c_1 => ?_)
    · skip
      exact k_vret hx hb hr hlocks ⟨hK, hP, hD, hS, hA, hE, hN⟩ dX1_store_20 (Nat.le_of_ble_eq_true rfl) (Nat.le_of_ble_eq_true rfl) (by simp only [sp_X1_store_cells, if_neg c_0, if_pos c_1])
    · skip
      refine lv_aload_n hx hb dX1_store_13 rfl (lv_at hl 0 rfl) ?_
      refine va_get (D := g.1) (ci := 1) (v := .ref qm) (C := RX1) (T := TX1) (N := 9) hx hb hts iX1 hown hK hP 0 rfl rfl 2 (by decide) (hts (.fieldLink RX1 15 "FaultIsolation$Machine" "cells" "[I") (by decide +kernel)) (fun _ h9 => h9) rfl dX1_store_14 ?_
      refine lv_iload_n hx hb dX1_store_17 rfl (lv_at hl 1 rfl) ?_
      refine lv_iload_n hx hb dX1_store_18 rfl (lv_at hl 2 rfl) ?_
      refine va_iast hx hb hK hP hD hS 2 0 rfl rfl (k_in c_0 c_1 (by decide)) dX1_store_19 (fun H locs hP hD hS => ?_)
      have hP : va_P g.1 vwCl [(hM, .inr (1, [.int base, .ref qr, .ref qm, .int ad, .int sn, .int sy, .int sl, .int rg, .int ly])), (qr, .inl (g.2.1.1, 8, .inl fr)), (qm, .inl (g.2.1.1, 4096, .inl (upd fm i.toNatClampNeg v)))] H := hP
      have hD : va_D A [(hM, .inr (1, [.int base, .ref qr, .ref qm, .int ad, .int sn, .int sy, .int sl, .int rg, .int ly])), (qr, .inl (g.2.1.1, 8, .inl fr)), (qm, .inl (g.2.1.1, 4096, .inl (upd fm i.toNatClampNeg v)))] := hD
      exact k_vret hx hb hr hlocks ⟨hK, hP, hD, hS, hA, hE, hN⟩ dX1_store_20 (Nat.le_of_ble_eq_true rfl) (Nat.le_of_ble_eq_true rfl) (by simp only [sp_X1_store_cells, if_neg c_0, if_neg c_1])
def sp_X1_isWord (wd : Int32) (pr : Int32) : Int32 := if pr = 0 then (if 17 < wd then 0 else 1) else (sp_X3_isProgramWord wd)
theorem sp_X1_isWord_b (wd : Int32) (pr : Int32) : sp_X1_isWord wd pr = 0 ∨ sp_X1_isWord wd pr = 1 := by
  unfold sp_X1_isWord
  repeat' split
  all_goals first | (with_reducible exact Or.inl rfl) | (with_reducible exact Or.inr rfl) | (with_reducible apply sp_X3_isProgramWord_b)
set_option maxHeartbeats 4000000 in
set_option maxRecDepth 100000 in
theorem c_X1_isWord (l : Launch) (g : KG) (wd : Int32) (pr : Int32)  : Ci l g yX1_isWord wsX1_isWord ({ frames := 1, cells := 0, slots := 0, locals := 20 }) [.int wd, .int pr] [] (fun r u => r = sp_X1_isWord wd pr ∧ u = []) 0 0 := by
  intro sz
  refine Met.ofW (cc := cX1_isWord) (maxL := 2) (ret := (some .boolean)) (by decide) rfl ?_
  intro p e s m args below meth c s₁ B hml hv
  obtain ⟨rfl, hsz, hP, hK, hD0, hE, hN⟩ := hv
  have hx := B.exec
  have hb := B.bytes
  have hr := B.returns
  have hts := atoms_spec (ws := wsX1_isWord) B.pre
  have hown : s.vm.findClass RX1 = some m.cls := findClass_of_methodNamed B.named
  have hlocks := B.notSynchronized
  subst hsz
  have hD := hD0.self (sz := s.heap.size)
  generalize hAe : va_A [] s.heap.size = A at hD hE ⊢
  have hA : ∀ q : Nat, s.heap.size ≤ q → A q := fun q h => by rw [← hAe]; exact Or.inr h
  have hS : va_S A s.heap s.heap [] := va_S.rf
  have hl := lv_entry ([.int wd, .int pr]) (n := 2) (Nat.le_of_ble_eq_true rfl)
  rw [lg_entry_eq]
  generalize (lg_sl ([.int wd, .int pr]) ++ List.replicate (2 - (lg_sl ([.int wd, .int pr])).length) Slot.unset).toArray = ls at hl ⊢
  have hl : lv_has ls 2 [(0, .int wd), (1, .int pr)] := hl
  refine lv_iload_n hx hb dX1_isWord_0 rfl (lv_at hl 1 rfl) ?_
  refine lv_if_eq (tgt := 11) hx hb dX1_isWord_1 (by decide) (fun c_0 => ?_) (fun c_0 => ?_)
  · skip
    refine lv_iload_n hx hb dX1_isWord_11 rfl (lv_at hl 0 rfl) ?_
    refine lv_bipush (v := 17) hx hb dX1_isWord_12 (by decide) ?_
    refine lv_icmp_gt (tgt := 21) hx hb dX1_isWord_14 (by decide) (fun c_1 => ?_) (fun c_1 => ?_)
    · skip
      refine lv_iconst (v := 0) hx hb dX1_isWord_21 (by decide) ?_
      exact k_iret hx hb hr hlocks ⟨hK, hP, hD, hS, hA, hE, hN⟩ rfl dX1_isWord_22 (Nat.le_of_ble_eq_true rfl) (Nat.le_of_ble_eq_true rfl) ⟨(by simp only [sp_X1_isWord, if_pos c_0, if_pos c_1]), rfl⟩
    · skip
      refine lv_iconst (v := 1) hx hb dX1_isWord_17 (by decide) ?_
      refine lv_goto (tgt := 22) hx hb dX1_isWord_18 (by decide) ?_
      exact k_iret hx hb hr hlocks ⟨hK, hP, hD, hS, hA, hE, hN⟩ rfl dX1_isWord_22 (Nat.le_of_ble_eq_true rfl) (Nat.le_of_ble_eq_true rfl) ⟨(by simp only [sp_X1_isWord, if_pos c_0, if_neg c_1]), rfl⟩
  · skip
    refine lv_iload_n hx hb dX1_isWord_4 rfl (lv_at hl 0 rfl) ?_
    refine kiS (As := [.int wd]) (rest := []) (wc := []) (wr := []) ⟨hx, hb, hml, hown, hts⟩ (c_X3_isProgramWord l g wd) (va_cwS 1 hts gX1_isWord_X3_isProgramWord rfl rfl rfl (by decide +kernel) ⟨Nat.le_of_ble_eq_true rfl, Nat.le_of_ble_eq_true rfl⟩) ⟨hK, hP, hD, hS, hA, hE, hN⟩ [] [] ⟨rfl, rfl, by decide⟩ rfl hl.1 (Nat.le_of_ble_eq_true rfl) dX1_isWord_5 ⟨Nat.le_of_ble_eq_true rfl, Nat.le_of_ble_eq_true rfl⟩ rfl (fun r u H locs hw hP hD hS => ?_)
    obtain ⟨hq, hw⟩ := hw
    subst r
    subst hw
    have hP := hP.sub (ws' := []) [] rfl
    have hD := hD.sub (ws' := []) [] (by decide) rfl
    refine lv_goto (tgt := 22) hx hb dX1_isWord_8 (by decide) ?_
    exact k_iret hx hb hr hlocks ⟨hK, hP, hD, hS, hA, hE, hN⟩ (kz_b (sp_X3_isProgramWord_b _)) dX1_isWord_22 (Nat.le_of_ble_eq_true rfl) (Nat.le_of_ble_eq_true rfl) ⟨(by simp only [sp_X1_isWord, if_neg c_0]), rfl⟩
def sp_X1_result (fr : Nat → Int32) (ad : Int32) (N : Nat) (f : Nat → Int32) : Int32 := if (sp_X0_word N f ad) = 1 then (if (sp_X0_n N f ad) < 32768 then (sp_X0_n N f ad) else ((sp_X0_n N f ad) - 65536)) else (if (sp_X0_word N f ad) = 2 then ((sp_X1_valueOf fr (sp_X0_b N f ad)) + (sp_X1_valueOf fr (sp_X0_c N f ad))) else (if (sp_X0_word N f ad) = 3 then ((sp_X1_valueOf fr (sp_X0_b N f ad)) - (sp_X1_valueOf fr (sp_X0_c N f ad))) else (if (sp_X0_word N f ad) = 4 then ((sp_X1_valueOf fr (sp_X0_b N f ad)) * (sp_X1_valueOf fr (sp_X0_c N f ad))) else (if (sp_X0_word N f ad) = 5 then ((sp_X1_valueOf fr (sp_X0_b N f ad)) &&& (sp_X1_valueOf fr (sp_X0_c N f ad))) else (if (sp_X0_word N f ad) = 6 then ((sp_X1_valueOf fr (sp_X0_b N f ad)) ||| (sp_X1_valueOf fr (sp_X0_c N f ad))) else (if (sp_X0_word N f ad) = 7 then ((sp_X1_valueOf fr (sp_X0_b N f ad)) ^^^ (sp_X1_valueOf fr (sp_X0_c N f ad))) else (if (sp_X0_word N f ad) = 8 then (((sp_X1_valueOf fr (sp_X0_b N f ad)).toUInt32 >>> (((sp_X1_valueOf fr (sp_X0_c N f ad)) &&& 31).toUInt32 &&& Int32.toUInt32 31)).toInt32) else (if (sp_X0_word N f ad) = 9 then ((sp_X1_valueOf fr (sp_X0_b N f ad)) + (sp_X0_c N f ad)) else (if (sp_X0_word N f ad) = 10 then (4 * (sp_X0_n N f ad)) else (if (sp_X0_word N f ad) = 11 then (4 * (sp_X0_n N f ad)) else (if (sp_X0_word N f ad) = 12 then (4 * (sp_X0_n N f ad)) else (if (sp_X0_word N f ad) = 13 then (4 * (sp_X0_n N f ad)) else (if (sp_X0_word N f ad) = 14 then (4 * (sp_X0_n N f ad)) else (if (sp_X0_word N f ad) = 15 then (4 * (sp_X0_n N f ad)) else (if (sp_X0_word N f ad) = 16 then ((sp_X1_valueOf fr (sp_X0_a N f ad)) &&& (sp_X0_n N f ad)) else (if (sp_X0_word N f ad) = 17 then ((sp_X1_valueOf fr (sp_X0_a N f ad)) ||| (sp_X0_n N f ad)) else (4 * (sp_X0_n N f ad))))))))))))))))))
set_option maxHeartbeats 4000000 in
set_option maxRecDepth 100000 in
theorem c_X1_result (l : Launch) (g : KG) (hM : Nat) (qr : Nat) (qm : Nat) (fr : Nat → Int32) (fm : Nat → Int32) (base : Int32) (ad : Int32) (sn : Int32) (sy : Int32) (sl : Int32) (rg : Int32) (ly : Int32) (h : Nat) (q : Nat) (N : Nat) (f : Nat → Int32) (len : Int32) (hNn : N < 2 ^ 31) : Ci l g yX1_result wsX1_result ({ frames := 2, cells := 0, slots := 0, locals := 42 }) [.ref hM, .ref h] [(hM, .inr (1, [.int base, .ref qr, .ref qm, .int ad, .int sn, .int sy, .int sl, .int rg, .int ly])), (qr, .inl (g.2.1.1, 8, .inl fr)), (qm, .inl (g.2.1.1, 4096, .inl fm)), (h, .inr (0, [.ref q, .int len])), (q, .inl (g.2.1.1, N, .inl f))] (fun r u => r = sp_X1_result fr ad N f ∧ u = [(hM, .inr (1, [.int base, .ref qr, .ref qm, .int ad, .int sn, .int sy, .int sl, .int rg, .int ly])), (qr, .inl (g.2.1.1, 8, .inl fr)), (qm, .inl (g.2.1.1, 4096, .inl fm)), (h, .inr (0, [.ref q, .int len])), (q, .inl (g.2.1.1, N, .inl f))]) 0 0 := by
  intro sz
  refine Met.ofW (cc := cX1_result) (maxL := 5) (ret := (some .int)) (by decide) rfl ?_
  intro p e s m args below meth c s₁ B hml hv
  obtain ⟨rfl, hsz, hP, hK, hD0, hE, hN⟩ := hv
  have hx := B.exec
  have hb := B.bytes
  have hr := B.returns
  have hts := atoms_spec (ws := wsX1_result) B.pre
  have hown : s.vm.findClass RX1 = some m.cls := findClass_of_methodNamed B.named
  have hlocks := B.notSynchronized
  have iX1 : ∀ w ∈ u_ws RX1 TX1 9, w ∈ wsX1_result := by decide +kernel
  subst hsz
  have hD := hD0.self (sz := s.heap.size)
  generalize hAe : va_A [(hM, .inr (1, [.int base, .ref qr, .ref qm, .int ad, .int sn, .int sy, .int sl, .int rg, .int ly])), (qr, .inl (g.2.1.1, 8, .inl fr)), (qm, .inl (g.2.1.1, 4096, .inl fm)), (h, .inr (0, [.ref q, .int len])), (q, .inl (g.2.1.1, N, .inl f))] s.heap.size = A at hD hE ⊢
  have hA : ∀ q : Nat, s.heap.size ≤ q → A q := fun q h => by rw [← hAe]; exact Or.inr h
  have hS : va_S A s.heap s.heap [] := va_S.rf
  have hl := lv_entry ([.ref hM, .ref h]) (n := 5) (Nat.le_of_ble_eq_true rfl)
  rw [lg_entry_eq]
  generalize (lg_sl ([.ref hM, .ref h]) ++ List.replicate (5 - (lg_sl ([.ref hM, .ref h])).length) Slot.unset).toArray = ls at hl ⊢
  have hl : lv_has ls 5 [(0, .ref hM), (1, .ref h)] := hl
  refine lv_aload_n hx hb dX1_result_0 rfl (lv_at hl 1 rfl) ?_
  refine lv_aload_n hx hb dX1_result_1 rfl (lv_at hl 0 rfl) ?_
  refine va_get (D := g.1) (ci := 1) (v := .int ad) (C := RX1) (T := TX1) (N := 9) hx hb hts iX1 hown hK hP 0 rfl rfl 3 (by decide) (hts (.fieldLink RX1 25 "FaultIsolation$Machine" "address" "I") (by decide +kernel)) (fun _ h9 => h9) rfl dX1_result_2 ?_
  refine kiV (As := [.int ad]) (rest := []) (wc := [(h, .inr (0, [.ref q, .int len])), (q, .inl (g.2.1.1, N, .inl f))]) (wr := [(hM, .inr (1, [.int base, .ref qr, .ref qm, .int ad, .int sn, .int sy, .int sl, .int rg, .int ly])), (qr, .inl (g.2.1.1, 8, .inl fr)), (qm, .inl (g.2.1.1, 4096, .inl fm))]) ⟨hx, hb, hml, hown, hts⟩ (c_X0_n l g h q N f len ad hNn) (cwV 1 hts gX1_result_X0_n rfl rfl rfl (by decide +kernel) ⟨Nat.le_of_ble_eq_true rfl, Nat.le_of_ble_eq_true rfl⟩) ⟨hK, hP, hD, hS, hA, hE, hN⟩ [3, 4] [0, 1, 2] ⟨rfl, rfl, by decide⟩ (q0 := 3) (ci := 0) rfl rfl rfl rfl hl.1 (Nat.le_of_ble_eq_true rfl) dX1_result_5 ⟨Nat.le_of_ble_eq_true rfl, Nat.le_of_ble_eq_true rfl⟩ rfl (fun r u H locs hw hP hD hS => ?_)
  obtain ⟨hq, hw⟩ := hw
  subst r
  subst hw
  have hP := hP.sub (ws' := [(hM, .inr (1, [.int base, .ref qr, .ref qm, .int ad, .int sn, .int sy, .int sl, .int rg, .int ly])), (qr, .inl (g.2.1.1, 8, .inl fr)), (qm, .inl (g.2.1.1, 4096, .inl fm)), (h, .inr (0, [.ref q, .int len])), (q, .inl (g.2.1.1, N, .inl f))]) [0, 1, 2, 3, 4] rfl
  have hD := hD.sub (ws' := [(hM, .inr (1, [.int base, .ref qr, .ref qm, .int ad, .int sn, .int sy, .int sl, .int rg, .int ly])), (qr, .inl (g.2.1.1, 8, .inl fr)), (qm, .inl (g.2.1.1, 4096, .inl fm)), (h, .inr (0, [.ref q, .int len])), (q, .inl (g.2.1.1, N, .inl f))]) [0, 1, 2, 3, 4] (by decide) rfl
  refine lv_istore_n (lv' := [(2, .int (sp_X0_n N f ad)), (0, .ref hM), (1, .ref h)]) hx hb dX1_result_8 rfl hl (by decide) rfl (fun ls hl => ?_)
  refine lv_aload_n hx hb dX1_result_9 rfl (lv_at hl 1 rfl) ?_
  refine lv_aload_n hx hb dX1_result_10 rfl (lv_at hl 2 rfl) ?_
  refine lv_aload_n hx hb dX1_result_11 rfl (lv_at hl 1 rfl) ?_
  refine va_get (D := g.1) (ci := 1) (v := .int ad) (C := RX1) (T := TX1) (N := 9) hx hb hts iX1 hown hK hP 0 rfl rfl 3 (by decide) (hts (.fieldLink RX1 25 "FaultIsolation$Machine" "address" "I") (by decide +kernel)) (fun _ h9 => h9) rfl dX1_result_12 ?_
  refine kiV (As := [.int ad]) (rest := [.ref hM]) (wc := [(h, .inr (0, [.ref q, .int len])), (q, .inl (g.2.1.1, N, .inl f))]) (wr := [(hM, .inr (1, [.int base, .ref qr, .ref qm, .int ad, .int sn, .int sy, .int sl, .int rg, .int ly])), (qr, .inl (g.2.1.1, 8, .inl fr)), (qm, .inl (g.2.1.1, 4096, .inl fm))]) ⟨hx, hb, hml, hown, hts⟩ (c_X0_b l g h q N f len ad hNn) (cwV 1 hts gX1_result_X0_b rfl rfl rfl (by decide +kernel) ⟨Nat.le_of_ble_eq_true rfl, Nat.le_of_ble_eq_true rfl⟩) ⟨hK, hP, hD, hS, hA, hE, hN⟩ [3, 4] [0, 1, 2] ⟨rfl, rfl, by decide⟩ (q0 := 3) (ci := 0) rfl rfl rfl rfl hl.1 (Nat.le_of_ble_eq_true rfl) dX1_result_15 ⟨Nat.le_of_ble_eq_true rfl, Nat.le_of_ble_eq_true rfl⟩ rfl (fun r u H locs hw hP hD hS => ?_)
  obtain ⟨hq, hw⟩ := hw
  subst r
  subst hw
  have hP := hP.sub (ws' := [(hM, .inr (1, [.int base, .ref qr, .ref qm, .int ad, .int sn, .int sy, .int sl, .int rg, .int ly])), (qr, .inl (g.2.1.1, 8, .inl fr)), (qm, .inl (g.2.1.1, 4096, .inl fm)), (h, .inr (0, [.ref q, .int len])), (q, .inl (g.2.1.1, N, .inl f))]) [0, 1, 2, 3, 4] rfl
  have hD := hD.sub (ws' := [(hM, .inr (1, [.int base, .ref qr, .ref qm, .int ad, .int sn, .int sy, .int sl, .int rg, .int ly])), (qr, .inl (g.2.1.1, 8, .inl fr)), (qm, .inl (g.2.1.1, 4096, .inl fm)), (h, .inr (0, [.ref q, .int len])), (q, .inl (g.2.1.1, N, .inl f))]) [0, 1, 2, 3, 4] (by decide) rfl
  refine kiV (As := [.int (sp_X0_b N f ad)]) (rest := []) (wc := [(hM, .inr (1, [.int base, .ref qr, .ref qm, .int ad, .int sn, .int sy, .int sl, .int rg, .int ly])), (qr, .inl (g.2.1.1, 8, .inl fr)), (qm, .inl (g.2.1.1, 4096, .inl fm))]) (wr := [(h, .inr (0, [.ref q, .int len])), (q, .inl (g.2.1.1, N, .inl f))]) ⟨hx, hb, hml, hown, hts⟩ (c_X1_valueOf l g hM qr qm fr fm base ad sn sy sl rg ly (sp_X0_b N f ad)) (cwV 1 hts gX1_result_X1_valueOf rfl rfl rfl (by decide +kernel) ⟨Nat.le_of_ble_eq_true rfl, Nat.le_of_ble_eq_true rfl⟩) ⟨hK, hP, hD, hS, hA, hE, hN⟩ [0, 1, 2] [3, 4] ⟨rfl, rfl, by decide⟩ (q0 := 0) (ci := 1) rfl rfl rfl rfl hl.1 (Nat.le_of_ble_eq_true rfl) dX1_result_18 ⟨Nat.le_of_ble_eq_true rfl, Nat.le_of_ble_eq_true rfl⟩ rfl (fun r u H locs hw hP hD hS => ?_)
  obtain ⟨hq, hw⟩ := hw
  subst r
  subst hw
  have hP := hP.sub (ws' := [(hM, .inr (1, [.int base, .ref qr, .ref qm, .int ad, .int sn, .int sy, .int sl, .int rg, .int ly])), (qr, .inl (g.2.1.1, 8, .inl fr)), (qm, .inl (g.2.1.1, 4096, .inl fm)), (h, .inr (0, [.ref q, .int len])), (q, .inl (g.2.1.1, N, .inl f))]) [2, 3, 4, 0, 1] rfl
  have hD := hD.sub (ws' := [(hM, .inr (1, [.int base, .ref qr, .ref qm, .int ad, .int sn, .int sy, .int sl, .int rg, .int ly])), (qr, .inl (g.2.1.1, 8, .inl fr)), (qm, .inl (g.2.1.1, 4096, .inl fm)), (h, .inr (0, [.ref q, .int len])), (q, .inl (g.2.1.1, N, .inl f))]) [2, 3, 4, 0, 1] (by decide) rfl
  refine lv_istore_n (lv' := [(3, .int (sp_X1_valueOf fr (sp_X0_b N f ad))), (2, .int (sp_X0_n N f ad)), (0, .ref hM), (1, .ref h)]) hx hb dX1_result_21 rfl hl (by decide) rfl (fun ls hl => ?_)
  refine lv_aload_n hx hb dX1_result_22 rfl (lv_at hl 2 rfl) ?_
  refine lv_aload_n hx hb dX1_result_23 rfl (lv_at hl 3 rfl) ?_
  refine lv_aload_n hx hb dX1_result_24 rfl (lv_at hl 2 rfl) ?_
  refine va_get (D := g.1) (ci := 1) (v := .int ad) (C := RX1) (T := TX1) (N := 9) hx hb hts iX1 hown hK hP 0 rfl rfl 3 (by decide) (hts (.fieldLink RX1 25 "FaultIsolation$Machine" "address" "I") (by decide +kernel)) (fun _ h9 => h9) rfl dX1_result_25 ?_
  refine kiV (As := [.int ad]) (rest := [.ref hM]) (wc := [(h, .inr (0, [.ref q, .int len])), (q, .inl (g.2.1.1, N, .inl f))]) (wr := [(hM, .inr (1, [.int base, .ref qr, .ref qm, .int ad, .int sn, .int sy, .int sl, .int rg, .int ly])), (qr, .inl (g.2.1.1, 8, .inl fr)), (qm, .inl (g.2.1.1, 4096, .inl fm))]) ⟨hx, hb, hml, hown, hts⟩ (c_X0_c l g h q N f len ad hNn) (cwV 1 hts gX1_result_X0_c rfl rfl rfl (by decide +kernel) ⟨Nat.le_of_ble_eq_true rfl, Nat.le_of_ble_eq_true rfl⟩) ⟨hK, hP, hD, hS, hA, hE, hN⟩ [3, 4] [0, 1, 2] ⟨rfl, rfl, by decide⟩ (q0 := 3) (ci := 0) rfl rfl rfl rfl hl.1 (Nat.le_of_ble_eq_true rfl) dX1_result_28 ⟨Nat.le_of_ble_eq_true rfl, Nat.le_of_ble_eq_true rfl⟩ rfl (fun r u H locs hw hP hD hS => ?_)
  obtain ⟨hq, hw⟩ := hw
  subst r
  subst hw
  have hP := hP.sub (ws' := [(hM, .inr (1, [.int base, .ref qr, .ref qm, .int ad, .int sn, .int sy, .int sl, .int rg, .int ly])), (qr, .inl (g.2.1.1, 8, .inl fr)), (qm, .inl (g.2.1.1, 4096, .inl fm)), (h, .inr (0, [.ref q, .int len])), (q, .inl (g.2.1.1, N, .inl f))]) [0, 1, 2, 3, 4] rfl
  have hD := hD.sub (ws' := [(hM, .inr (1, [.int base, .ref qr, .ref qm, .int ad, .int sn, .int sy, .int sl, .int rg, .int ly])), (qr, .inl (g.2.1.1, 8, .inl fr)), (qm, .inl (g.2.1.1, 4096, .inl fm)), (h, .inr (0, [.ref q, .int len])), (q, .inl (g.2.1.1, N, .inl f))]) [0, 1, 2, 3, 4] (by decide) rfl
  refine kiV (As := [.int (sp_X0_c N f ad)]) (rest := []) (wc := [(hM, .inr (1, [.int base, .ref qr, .ref qm, .int ad, .int sn, .int sy, .int sl, .int rg, .int ly])), (qr, .inl (g.2.1.1, 8, .inl fr)), (qm, .inl (g.2.1.1, 4096, .inl fm))]) (wr := [(h, .inr (0, [.ref q, .int len])), (q, .inl (g.2.1.1, N, .inl f))]) ⟨hx, hb, hml, hown, hts⟩ (c_X1_valueOf l g hM qr qm fr fm base ad sn sy sl rg ly (sp_X0_c N f ad)) (cwV 1 hts gX1_result_X1_valueOf rfl rfl rfl (by decide +kernel) ⟨Nat.le_of_ble_eq_true rfl, Nat.le_of_ble_eq_true rfl⟩) ⟨hK, hP, hD, hS, hA, hE, hN⟩ [0, 1, 2] [3, 4] ⟨rfl, rfl, by decide⟩ (q0 := 0) (ci := 1) rfl rfl rfl rfl hl.1 (Nat.le_of_ble_eq_true rfl) dX1_result_31 ⟨Nat.le_of_ble_eq_true rfl, Nat.le_of_ble_eq_true rfl⟩ rfl (fun r u H locs hw hP hD hS => ?_)
  obtain ⟨hq, hw⟩ := hw
  subst r
  subst hw
  have hP := hP.sub (ws' := [(hM, .inr (1, [.int base, .ref qr, .ref qm, .int ad, .int sn, .int sy, .int sl, .int rg, .int ly])), (qr, .inl (g.2.1.1, 8, .inl fr)), (qm, .inl (g.2.1.1, 4096, .inl fm)), (h, .inr (0, [.ref q, .int len])), (q, .inl (g.2.1.1, N, .inl f))]) [2, 3, 4, 0, 1] rfl
  have hD := hD.sub (ws' := [(hM, .inr (1, [.int base, .ref qr, .ref qm, .int ad, .int sn, .int sy, .int sl, .int rg, .int ly])), (qr, .inl (g.2.1.1, 8, .inl fr)), (qm, .inl (g.2.1.1, 4096, .inl fm)), (h, .inr (0, [.ref q, .int len])), (q, .inl (g.2.1.1, N, .inl f))]) [2, 3, 4, 0, 1] (by decide) rfl
  refine lv_istore (lv' := [(4, .int (sp_X1_valueOf fr (sp_X0_c N f ad))), (3, .int (sp_X1_valueOf fr (sp_X0_b N f ad))), (2, .int (sp_X0_n N f ad)), (0, .ref hM), (1, .ref h)]) hx hb dX1_result_34 hl (by decide) rfl (fun ls hl => ?_)
  refine lv_aload_n hx hb dX1_result_36 rfl (lv_at hl 4 rfl) ?_
  refine lv_aload_n hx hb dX1_result_37 rfl (lv_at hl 3 rfl) ?_
  refine va_get (D := g.1) (ci := 1) (v := .int ad) (C := RX1) (T := TX1) (N := 9) hx hb hts iX1 hown hK hP 0 rfl rfl 3 (by decide) (hts (.fieldLink RX1 25 "FaultIsolation$Machine" "address" "I") (by decide +kernel)) (fun _ h9 => h9) rfl dX1_result_38 ?_
  refine kiV (As := [.int ad]) (rest := []) (wc := [(h, .inr (0, [.ref q, .int len])), (q, .inl (g.2.1.1, N, .inl f))]) (wr := [(hM, .inr (1, [.int base, .ref qr, .ref qm, .int ad, .int sn, .int sy, .int sl, .int rg, .int ly])), (qr, .inl (g.2.1.1, 8, .inl fr)), (qm, .inl (g.2.1.1, 4096, .inl fm))]) ⟨hx, hb, hml, hown, hts⟩ (c_X0_word l g h q N f len ad hNn) (cwV 1 hts gX1_result_X0_word rfl rfl rfl (by decide +kernel) ⟨Nat.le_of_ble_eq_true rfl, Nat.le_of_ble_eq_true rfl⟩) ⟨hK, hP, hD, hS, hA, hE, hN⟩ [3, 4] [0, 1, 2] ⟨rfl, rfl, by decide⟩ (q0 := 3) (ci := 0) rfl rfl rfl rfl hl.1 (Nat.le_of_ble_eq_true rfl) dX1_result_41 ⟨Nat.le_of_ble_eq_true rfl, Nat.le_of_ble_eq_true rfl⟩ rfl (fun r u H locs hw hP hD hS => ?_)
  obtain ⟨hq, hw⟩ := hw
  subst r
  subst hw
  have hP := hP.sub (ws' := [(hM, .inr (1, [.int base, .ref qr, .ref qm, .int ad, .int sn, .int sy, .int sl, .int rg, .int ly])), (qr, .inl (g.2.1.1, 8, .inl fr)), (qm, .inl (g.2.1.1, 4096, .inl fm)), (h, .inr (0, [.ref q, .int len])), (q, .inl (g.2.1.1, N, .inl f))]) [0, 1, 2, 3, 4] rfl
  have hD := hD.sub (ws' := [(hM, .inr (1, [.int base, .ref qr, .ref qm, .int ad, .int sn, .int sy, .int sl, .int rg, .int ly])), (qr, .inl (g.2.1.1, 8, .inl fr)), (qm, .inl (g.2.1.1, 4096, .inl fm)), (h, .inr (0, [.ref q, .int len])), (q, .inl (g.2.1.1, N, .inl f))]) [0, 1, 2, 3, 4] (by decide) rfl
  by_cases c_0 : (sp_X0_word N f ad) = 1
  · skip
    refine lv_tableIn (tgt := 128) (off := 84) hx hb dX1_result_44 (by rw [c_0]; decide) (by rw [c_0]; decide) (by rw [c_0]; decide) (by decide) ?_
    refine lv_iload_n hx hb dX1_result_128 rfl (lv_at hl 2 rfl) ?_
    refine lv_ldc (v := 32768) hx hb hown (hts (.constant RX1 108 (32768)) (by decide +kernel)) dX1_result_129 ?_
    refine lv_icmp_lt (tgt := 141) hx hb dX1_result_131 (by decide) (fun c_1 => ?_) (fun c_1 => ?_)
    · skip
      refine lv_iload_n hx hb dX1_result_141 rfl (lv_at hl 2 rfl) ?_
      exact k_iret hx hb hr hlocks ⟨hK, hP, hD, hS, hA, hE, hN⟩ rfl dX1_result_142 (Nat.le_of_ble_eq_true rfl) (Nat.le_of_ble_eq_true rfl) ⟨(by simp only [sp_X1_result, if_pos c_0, if_pos c_1]), rfl⟩
    · skip
      refine lv_iload_n hx hb dX1_result_134 rfl (lv_at hl 2 rfl) ?_
      refine lv_ldc (v := 65536) hx hb hown (hts (.constant RX1 109 (65536)) (by decide +kernel)) dX1_result_135 ?_
      refine lv_isub hx hb dX1_result_137 ?_
      refine lv_goto (tgt := 142) hx hb dX1_result_138 (by decide) ?_
      exact k_iret hx hb hr hlocks ⟨hK, hP, hD, hS, hA, hE, hN⟩ rfl dX1_result_142 (Nat.le_of_ble_eq_true rfl) (Nat.le_of_ble_eq_true rfl) ⟨(by simp only [sp_X1_result, if_pos c_0, if_neg c_1]), rfl⟩
  by_cases c_2 : (sp_X0_word N f ad) = 2
  · skip
    refine lv_tableIn (tgt := 143) (off := 99) hx hb dX1_result_44 (by rw [c_2]; decide) (by rw [c_2]; decide) (by rw [c_2]; decide) (by decide) ?_
    refine lv_iload_n hx hb dX1_result_143 rfl (lv_at hl 1 rfl) ?_
    refine lv_iload hx hb dX1_result_144 (lv_at hl 0 rfl) ?_
    refine lv_iadd hx hb dX1_result_146 ?_
    exact k_iret hx hb hr hlocks ⟨hK, hP, hD, hS, hA, hE, hN⟩ rfl dX1_result_147 (Nat.le_of_ble_eq_true rfl) (Nat.le_of_ble_eq_true rfl) ⟨(by simp only [sp_X1_result, if_neg c_0, if_pos c_2]), rfl⟩
  by_cases c_3 : (sp_X0_word N f ad) = 3
  · skip
    refine lv_tableIn (tgt := 148) (off := 104) hx hb dX1_result_44 (by rw [c_3]; decide) (by rw [c_3]; decide) (by rw [c_3]; decide) (by decide) ?_
    refine lv_iload_n hx hb dX1_result_148 rfl (lv_at hl 1 rfl) ?_
    refine lv_iload hx hb dX1_result_149 (lv_at hl 0 rfl) ?_
    refine lv_isub hx hb dX1_result_151 ?_
    exact k_iret hx hb hr hlocks ⟨hK, hP, hD, hS, hA, hE, hN⟩ rfl dX1_result_152 (Nat.le_of_ble_eq_true rfl) (Nat.le_of_ble_eq_true rfl) ⟨(by simp only [sp_X1_result, if_neg c_0, if_neg c_2, if_pos c_3]), rfl⟩
  by_cases c_4 : (sp_X0_word N f ad) = 4
  · skip
    refine lv_tableIn (tgt := 153) (off := 109) hx hb dX1_result_44 (by rw [c_4]; decide) (by rw [c_4]; decide) (by rw [c_4]; decide) (by decide) ?_
    refine lv_iload_n hx hb dX1_result_153 rfl (lv_at hl 1 rfl) ?_
    refine lv_iload hx hb dX1_result_154 (lv_at hl 0 rfl) ?_
    refine lv_imul hx hb dX1_result_156 ?_
    exact k_iret hx hb hr hlocks ⟨hK, hP, hD, hS, hA, hE, hN⟩ rfl dX1_result_157 (Nat.le_of_ble_eq_true rfl) (Nat.le_of_ble_eq_true rfl) ⟨(by simp only [sp_X1_result, if_neg c_0, if_neg c_2, if_neg c_3, if_pos c_4]), rfl⟩
  by_cases c_5 : (sp_X0_word N f ad) = 5
  · skip
    refine lv_tableIn (tgt := 158) (off := 114) hx hb dX1_result_44 (by rw [c_5]; decide) (by rw [c_5]; decide) (by rw [c_5]; decide) (by decide) ?_
    refine lv_iload_n hx hb dX1_result_158 rfl (lv_at hl 1 rfl) ?_
    refine lv_iload hx hb dX1_result_159 (lv_at hl 0 rfl) ?_
    refine lv_iand hx hb dX1_result_161 ?_
    exact k_iret hx hb hr hlocks ⟨hK, hP, hD, hS, hA, hE, hN⟩ rfl dX1_result_162 (Nat.le_of_ble_eq_true rfl) (Nat.le_of_ble_eq_true rfl) ⟨(by simp only [sp_X1_result, if_neg c_0, if_neg c_2, if_neg c_3, if_neg c_4, if_pos c_5]), rfl⟩
  by_cases c_6 : (sp_X0_word N f ad) = 6
  · skip
    refine lv_tableIn (tgt := 163) (off := 119) hx hb dX1_result_44 (by rw [c_6]; decide) (by rw [c_6]; decide) (by rw [c_6]; decide) (by decide) ?_
    refine lv_iload_n hx hb dX1_result_163 rfl (lv_at hl 1 rfl) ?_
    refine lv_iload hx hb dX1_result_164 (lv_at hl 0 rfl) ?_
    refine lv_ior hx hb dX1_result_166 ?_
    exact k_iret hx hb hr hlocks ⟨hK, hP, hD, hS, hA, hE, hN⟩ rfl dX1_result_167 (Nat.le_of_ble_eq_true rfl) (Nat.le_of_ble_eq_true rfl) ⟨(by simp only [sp_X1_result, if_neg c_0, if_neg c_2, if_neg c_3, if_neg c_4, if_neg c_5, if_pos c_6]), rfl⟩
  by_cases c_7 : (sp_X0_word N f ad) = 7
  · skip
    refine lv_tableIn (tgt := 168) (off := 124) hx hb dX1_result_44 (by rw [c_7]; decide) (by rw [c_7]; decide) (by rw [c_7]; decide) (by decide) ?_
    refine lv_iload_n hx hb dX1_result_168 rfl (lv_at hl 1 rfl) ?_
    refine lv_iload hx hb dX1_result_169 (lv_at hl 0 rfl) ?_
    refine lv_ixor hx hb dX1_result_171 ?_
    exact k_iret hx hb hr hlocks ⟨hK, hP, hD, hS, hA, hE, hN⟩ rfl dX1_result_172 (Nat.le_of_ble_eq_true rfl) (Nat.le_of_ble_eq_true rfl) ⟨(by simp only [sp_X1_result, if_neg c_0, if_neg c_2, if_neg c_3, if_neg c_4, if_neg c_5, if_neg c_6, if_pos c_7]), rfl⟩
  by_cases c_8 : (sp_X0_word N f ad) = 8
  · skip
    refine lv_tableIn (tgt := 173) (off := 129) hx hb dX1_result_44 (by rw [c_8]; decide) (by rw [c_8]; decide) (by rw [c_8]; decide) (by decide) ?_
    refine lv_iload_n hx hb dX1_result_173 rfl (lv_at hl 1 rfl) ?_
    refine lv_iload hx hb dX1_result_174 (lv_at hl 0 rfl) ?_
    refine lv_bipush (v := 31) hx hb dX1_result_176 (by decide) ?_
    refine lv_iand hx hb dX1_result_178 ?_
    refine lv_iushr (v := ((sp_X1_valueOf fr (sp_X0_b N f ad)).toUInt32 >>> (((sp_X1_valueOf fr (sp_X0_c N f ad)) &&& 31).toUInt32 &&& Int32.toUInt32 31)).toInt32) hx hb dX1_result_179 rfl ?_
    exact k_iret hx hb hr hlocks ⟨hK, hP, hD, hS, hA, hE, hN⟩ rfl dX1_result_180 (Nat.le_of_ble_eq_true rfl) (Nat.le_of_ble_eq_true rfl) ⟨(by simp only [sp_X1_result, if_neg c_0, if_neg c_2, if_neg c_3, if_neg c_4, if_neg c_5, if_neg c_6, if_neg c_7, if_pos c_8]), rfl⟩
  by_cases c_9 : (sp_X0_word N f ad) = 9
  · skip
    refine lv_tableIn (tgt := 181) (off := 137) hx hb dX1_result_44 (by rw [c_9]; decide) (by rw [c_9]; decide) (by rw [c_9]; decide) (by decide) ?_
    refine lv_iload_n hx hb dX1_result_181 rfl (lv_at hl 1 rfl) ?_
    refine lv_aload_n hx hb dX1_result_182 rfl (lv_at hl 4 rfl) ?_
    refine lv_aload_n hx hb dX1_result_183 rfl (lv_at hl 3 rfl) ?_
    refine va_get (D := g.1) (ci := 1) (v := .int ad) (C := RX1) (T := TX1) (N := 9) hx hb hts iX1 hown hK hP 0 rfl rfl 3 (by decide) (hts (.fieldLink RX1 25 "FaultIsolation$Machine" "address" "I") (by decide +kernel)) (fun _ h9 => h9) rfl dX1_result_184 ?_
    refine kiV (As := [.int ad]) (rest := [.int (sp_X1_valueOf fr (sp_X0_b N f ad))]) (wc := [(h, .inr (0, [.ref q, .int len])), (q, .inl (g.2.1.1, N, .inl f))]) (wr := [(hM, .inr (1, [.int base, .ref qr, .ref qm, .int ad, .int sn, .int sy, .int sl, .int rg, .int ly])), (qr, .inl (g.2.1.1, 8, .inl fr)), (qm, .inl (g.2.1.1, 4096, .inl fm))]) ⟨hx, hb, hml, hown, hts⟩ (c_X0_c l g h q N f len ad hNn) (cwV 1 hts gX1_result_X0_c rfl rfl rfl (by decide +kernel) ⟨Nat.le_of_ble_eq_true rfl, Nat.le_of_ble_eq_true rfl⟩) ⟨hK, hP, hD, hS, hA, hE, hN⟩ [3, 4] [0, 1, 2] ⟨rfl, rfl, by decide⟩ (q0 := 3) (ci := 0) rfl rfl rfl rfl hl.1 (Nat.le_of_ble_eq_true rfl) dX1_result_187 ⟨Nat.le_of_ble_eq_true rfl, Nat.le_of_ble_eq_true rfl⟩ rfl (fun r u H locs hw hP hD hS => ?_)
    obtain ⟨hq, hw⟩ := hw
    subst r
    subst hw
    have hP := hP.sub (ws' := [(hM, .inr (1, [.int base, .ref qr, .ref qm, .int ad, .int sn, .int sy, .int sl, .int rg, .int ly])), (qr, .inl (g.2.1.1, 8, .inl fr)), (qm, .inl (g.2.1.1, 4096, .inl fm)), (h, .inr (0, [.ref q, .int len])), (q, .inl (g.2.1.1, N, .inl f))]) [0, 1, 2, 3, 4] rfl
    have hD := hD.sub (ws' := [(hM, .inr (1, [.int base, .ref qr, .ref qm, .int ad, .int sn, .int sy, .int sl, .int rg, .int ly])), (qr, .inl (g.2.1.1, 8, .inl fr)), (qm, .inl (g.2.1.1, 4096, .inl fm)), (h, .inr (0, [.ref q, .int len])), (q, .inl (g.2.1.1, N, .inl f))]) [0, 1, 2, 3, 4] (by decide) rfl
    refine lv_iadd hx hb dX1_result_190 ?_
    exact k_iret hx hb hr hlocks ⟨hK, hP, hD, hS, hA, hE, hN⟩ rfl dX1_result_191 (Nat.le_of_ble_eq_true rfl) (Nat.le_of_ble_eq_true rfl) ⟨(by simp only [sp_X1_result, if_neg c_0, if_neg c_2, if_neg c_3, if_neg c_4, if_neg c_5, if_neg c_6, if_neg c_7, if_neg c_8, if_pos c_9]), rfl⟩
  by_cases c_10 : (sp_X0_word N f ad) = 10
  · skip
    refine lv_tableIn (tgt := 222) (off := 178) hx hb dX1_result_44 (by rw [c_10]; decide) (by rw [c_10]; decide) (by rw [c_10]; decide) (by decide) ?_
    refine lv_iconst (v := 4) hx hb dX1_result_222 (by decide) ?_
    refine lv_iload_n hx hb dX1_result_223 rfl (lv_at hl 2 rfl) ?_
    refine lv_imul hx hb dX1_result_224 ?_
    exact k_iret hx hb hr hlocks ⟨hK, hP, hD, hS, hA, hE, hN⟩ rfl dX1_result_225 (Nat.le_of_ble_eq_true rfl) (Nat.le_of_ble_eq_true rfl) ⟨(by simp only [sp_X1_result, if_neg c_0, if_neg c_2, if_neg c_3, if_neg c_4, if_neg c_5, if_neg c_6, if_neg c_7, if_neg c_8, if_neg c_9, if_pos c_10]), rfl⟩
  by_cases c_11 : (sp_X0_word N f ad) = 11
  · skip
    refine lv_tableIn (tgt := 222) (off := 178) hx hb dX1_result_44 (by rw [c_11]; decide) (by rw [c_11]; decide) (by rw [c_11]; decide) (by decide) ?_
    refine lv_iconst (v := 4) hx hb dX1_result_222 (by decide) ?_
    refine lv_iload_n hx hb dX1_result_223 rfl (lv_at hl 2 rfl) ?_
    refine lv_imul hx hb dX1_result_224 ?_
    exact k_iret hx hb hr hlocks ⟨hK, hP, hD, hS, hA, hE, hN⟩ rfl dX1_result_225 (Nat.le_of_ble_eq_true rfl) (Nat.le_of_ble_eq_true rfl) ⟨(by simp only [sp_X1_result, if_neg c_0, if_neg c_2, if_neg c_3, if_neg c_4, if_neg c_5, if_neg c_6, if_neg c_7, if_neg c_8, if_neg c_9, if_neg c_10, if_pos c_11]), rfl⟩
  by_cases c_12 : (sp_X0_word N f ad) = 12
  · skip
    refine lv_tableIn (tgt := 222) (off := 178) hx hb dX1_result_44 (by rw [c_12]; decide) (by rw [c_12]; decide) (by rw [c_12]; decide) (by decide) ?_
    refine lv_iconst (v := 4) hx hb dX1_result_222 (by decide) ?_
    refine lv_iload_n hx hb dX1_result_223 rfl (lv_at hl 2 rfl) ?_
    refine lv_imul hx hb dX1_result_224 ?_
    exact k_iret hx hb hr hlocks ⟨hK, hP, hD, hS, hA, hE, hN⟩ rfl dX1_result_225 (Nat.le_of_ble_eq_true rfl) (Nat.le_of_ble_eq_true rfl) ⟨(by simp only [sp_X1_result, if_neg c_0, if_neg c_2, if_neg c_3, if_neg c_4, if_neg c_5, if_neg c_6, if_neg c_7, if_neg c_8, if_neg c_9, if_neg c_10, if_neg c_11, if_pos c_12]), rfl⟩
  by_cases c_13 : (sp_X0_word N f ad) = 13
  · skip
    refine lv_tableIn (tgt := 222) (off := 178) hx hb dX1_result_44 (by rw [c_13]; decide) (by rw [c_13]; decide) (by rw [c_13]; decide) (by decide) ?_
    refine lv_iconst (v := 4) hx hb dX1_result_222 (by decide) ?_
    refine lv_iload_n hx hb dX1_result_223 rfl (lv_at hl 2 rfl) ?_
    refine lv_imul hx hb dX1_result_224 ?_
    exact k_iret hx hb hr hlocks ⟨hK, hP, hD, hS, hA, hE, hN⟩ rfl dX1_result_225 (Nat.le_of_ble_eq_true rfl) (Nat.le_of_ble_eq_true rfl) ⟨(by simp only [sp_X1_result, if_neg c_0, if_neg c_2, if_neg c_3, if_neg c_4, if_neg c_5, if_neg c_6, if_neg c_7, if_neg c_8, if_neg c_9, if_neg c_10, if_neg c_11, if_neg c_12, if_pos c_13]), rfl⟩
  by_cases c_14 : (sp_X0_word N f ad) = 14
  · skip
    refine lv_tableIn (tgt := 222) (off := 178) hx hb dX1_result_44 (by rw [c_14]; decide) (by rw [c_14]; decide) (by rw [c_14]; decide) (by decide) ?_
    refine lv_iconst (v := 4) hx hb dX1_result_222 (by decide) ?_
    refine lv_iload_n hx hb dX1_result_223 rfl (lv_at hl 2 rfl) ?_
    refine lv_imul hx hb dX1_result_224 ?_
    exact k_iret hx hb hr hlocks ⟨hK, hP, hD, hS, hA, hE, hN⟩ rfl dX1_result_225 (Nat.le_of_ble_eq_true rfl) (Nat.le_of_ble_eq_true rfl) ⟨(by simp only [sp_X1_result, if_neg c_0, if_neg c_2, if_neg c_3, if_neg c_4, if_neg c_5, if_neg c_6, if_neg c_7, if_neg c_8, if_neg c_9, if_neg c_10, if_neg c_11, if_neg c_12, if_neg c_13, if_pos c_14]), rfl⟩
  by_cases c_15 : (sp_X0_word N f ad) = 15
  · skip
    refine lv_tableIn (tgt := 222) (off := 178) hx hb dX1_result_44 (by rw [c_15]; decide) (by rw [c_15]; decide) (by rw [c_15]; decide) (by decide) ?_
    refine lv_iconst (v := 4) hx hb dX1_result_222 (by decide) ?_
    refine lv_iload_n hx hb dX1_result_223 rfl (lv_at hl 2 rfl) ?_
    refine lv_imul hx hb dX1_result_224 ?_
    exact k_iret hx hb hr hlocks ⟨hK, hP, hD, hS, hA, hE, hN⟩ rfl dX1_result_225 (Nat.le_of_ble_eq_true rfl) (Nat.le_of_ble_eq_true rfl) ⟨(by simp only [sp_X1_result, if_neg c_0, if_neg c_2, if_neg c_3, if_neg c_4, if_neg c_5, if_neg c_6, if_neg c_7, if_neg c_8, if_neg c_9, if_neg c_10, if_neg c_11, if_neg c_12, if_neg c_13, if_neg c_14, if_pos c_15]), rfl⟩
  by_cases c_16 : (sp_X0_word N f ad) = 16
  · skip
    refine lv_tableIn (tgt := 192) (off := 148) hx hb dX1_result_44 (by rw [c_16]; decide) (by rw [c_16]; decide) (by rw [c_16]; decide) (by decide) ?_
    refine lv_aload_n hx hb dX1_result_192 rfl (lv_at hl 3 rfl) ?_
    refine lv_aload_n hx hb dX1_result_193 rfl (lv_at hl 4 rfl) ?_
    refine lv_aload_n hx hb dX1_result_194 rfl (lv_at hl 3 rfl) ?_
    refine va_get (D := g.1) (ci := 1) (v := .int ad) (C := RX1) (T := TX1) (N := 9) hx hb hts iX1 hown hK hP 0 rfl rfl 3 (by decide) (hts (.fieldLink RX1 25 "FaultIsolation$Machine" "address" "I") (by decide +kernel)) (fun _ h9 => h9) rfl dX1_result_195 ?_
    refine kiV (As := [.int ad]) (rest := [.ref hM]) (wc := [(h, .inr (0, [.ref q, .int len])), (q, .inl (g.2.1.1, N, .inl f))]) (wr := [(hM, .inr (1, [.int base, .ref qr, .ref qm, .int ad, .int sn, .int sy, .int sl, .int rg, .int ly])), (qr, .inl (g.2.1.1, 8, .inl fr)), (qm, .inl (g.2.1.1, 4096, .inl fm))]) ⟨hx, hb, hml, hown, hts⟩ (c_X0_a l g h q N f len ad hNn) (cwV 1 hts gX1_result_X0_a rfl rfl rfl (by decide +kernel) ⟨Nat.le_of_ble_eq_true rfl, Nat.le_of_ble_eq_true rfl⟩) ⟨hK, hP, hD, hS, hA, hE, hN⟩ [3, 4] [0, 1, 2] ⟨rfl, rfl, by decide⟩ (q0 := 3) (ci := 0) rfl rfl rfl rfl hl.1 (Nat.le_of_ble_eq_true rfl) dX1_result_198 ⟨Nat.le_of_ble_eq_true rfl, Nat.le_of_ble_eq_true rfl⟩ rfl (fun r u H locs hw hP hD hS => ?_)
    obtain ⟨hq, hw⟩ := hw
    subst r
    subst hw
    have hP := hP.sub (ws' := [(hM, .inr (1, [.int base, .ref qr, .ref qm, .int ad, .int sn, .int sy, .int sl, .int rg, .int ly])), (qr, .inl (g.2.1.1, 8, .inl fr)), (qm, .inl (g.2.1.1, 4096, .inl fm)), (h, .inr (0, [.ref q, .int len])), (q, .inl (g.2.1.1, N, .inl f))]) [0, 1, 2, 3, 4] rfl
    have hD := hD.sub (ws' := [(hM, .inr (1, [.int base, .ref qr, .ref qm, .int ad, .int sn, .int sy, .int sl, .int rg, .int ly])), (qr, .inl (g.2.1.1, 8, .inl fr)), (qm, .inl (g.2.1.1, 4096, .inl fm)), (h, .inr (0, [.ref q, .int len])), (q, .inl (g.2.1.1, N, .inl f))]) [0, 1, 2, 3, 4] (by decide) rfl
    refine kiV (As := [.int (sp_X0_a N f ad)]) (rest := []) (wc := [(hM, .inr (1, [.int base, .ref qr, .ref qm, .int ad, .int sn, .int sy, .int sl, .int rg, .int ly])), (qr, .inl (g.2.1.1, 8, .inl fr)), (qm, .inl (g.2.1.1, 4096, .inl fm))]) (wr := [(h, .inr (0, [.ref q, .int len])), (q, .inl (g.2.1.1, N, .inl f))]) ⟨hx, hb, hml, hown, hts⟩ (c_X1_valueOf l g hM qr qm fr fm base ad sn sy sl rg ly (sp_X0_a N f ad)) (cwV 1 hts gX1_result_X1_valueOf rfl rfl rfl (by decide +kernel) ⟨Nat.le_of_ble_eq_true rfl, Nat.le_of_ble_eq_true rfl⟩) ⟨hK, hP, hD, hS, hA, hE, hN⟩ [0, 1, 2] [3, 4] ⟨rfl, rfl, by decide⟩ (q0 := 0) (ci := 1) rfl rfl rfl rfl hl.1 (Nat.le_of_ble_eq_true rfl) dX1_result_201 ⟨Nat.le_of_ble_eq_true rfl, Nat.le_of_ble_eq_true rfl⟩ rfl (fun r u H locs hw hP hD hS => ?_)
    obtain ⟨hq, hw⟩ := hw
    subst r
    subst hw
    have hP := hP.sub (ws' := [(hM, .inr (1, [.int base, .ref qr, .ref qm, .int ad, .int sn, .int sy, .int sl, .int rg, .int ly])), (qr, .inl (g.2.1.1, 8, .inl fr)), (qm, .inl (g.2.1.1, 4096, .inl fm)), (h, .inr (0, [.ref q, .int len])), (q, .inl (g.2.1.1, N, .inl f))]) [2, 3, 4, 0, 1] rfl
    have hD := hD.sub (ws' := [(hM, .inr (1, [.int base, .ref qr, .ref qm, .int ad, .int sn, .int sy, .int sl, .int rg, .int ly])), (qr, .inl (g.2.1.1, 8, .inl fr)), (qm, .inl (g.2.1.1, 4096, .inl fm)), (h, .inr (0, [.ref q, .int len])), (q, .inl (g.2.1.1, N, .inl f))]) [2, 3, 4, 0, 1] (by decide) rfl
    refine lv_iload_n hx hb dX1_result_204 rfl (lv_at hl 2 rfl) ?_
    refine lv_iand hx hb dX1_result_205 ?_
    exact k_iret hx hb hr hlocks ⟨hK, hP, hD, hS, hA, hE, hN⟩ rfl dX1_result_206 (Nat.le_of_ble_eq_true rfl) (Nat.le_of_ble_eq_true rfl) ⟨(by simp only [sp_X1_result, if_neg c_0, if_neg c_2, if_neg c_3, if_neg c_4, if_neg c_5, if_neg c_6, if_neg c_7, if_neg c_8, if_neg c_9, if_neg c_10, if_neg c_11, if_neg c_12, if_neg c_13, if_neg c_14, if_neg c_15, if_pos c_16]), rfl⟩
  by_cases c_17 : (sp_X0_word N f ad) = 17
  · skip
    refine lv_tableIn (tgt := 207) (off := 163) hx hb dX1_result_44 (by rw [c_17]; decide) (by rw [c_17]; decide) (by rw [c_17]; decide) (by decide) ?_
    refine lv_aload_n hx hb dX1_result_207 rfl (lv_at hl 3 rfl) ?_
    refine lv_aload_n hx hb dX1_result_208 rfl (lv_at hl 4 rfl) ?_
    refine lv_aload_n hx hb dX1_result_209 rfl (lv_at hl 3 rfl) ?_
    refine va_get (D := g.1) (ci := 1) (v := .int ad) (C := RX1) (T := TX1) (N := 9) hx hb hts iX1 hown hK hP 0 rfl rfl 3 (by decide) (hts (.fieldLink RX1 25 "FaultIsolation$Machine" "address" "I") (by decide +kernel)) (fun _ h9 => h9) rfl dX1_result_210 ?_
    refine kiV (As := [.int ad]) (rest := [.ref hM]) (wc := [(h, .inr (0, [.ref q, .int len])), (q, .inl (g.2.1.1, N, .inl f))]) (wr := [(hM, .inr (1, [.int base, .ref qr, .ref qm, .int ad, .int sn, .int sy, .int sl, .int rg, .int ly])), (qr, .inl (g.2.1.1, 8, .inl fr)), (qm, .inl (g.2.1.1, 4096, .inl fm))]) ⟨hx, hb, hml, hown, hts⟩ (c_X0_a l g h q N f len ad hNn) (cwV 1 hts gX1_result_X0_a rfl rfl rfl (by decide +kernel) ⟨Nat.le_of_ble_eq_true rfl, Nat.le_of_ble_eq_true rfl⟩) ⟨hK, hP, hD, hS, hA, hE, hN⟩ [3, 4] [0, 1, 2] ⟨rfl, rfl, by decide⟩ (q0 := 3) (ci := 0) rfl rfl rfl rfl hl.1 (Nat.le_of_ble_eq_true rfl) dX1_result_213 ⟨Nat.le_of_ble_eq_true rfl, Nat.le_of_ble_eq_true rfl⟩ rfl (fun r u H locs hw hP hD hS => ?_)
    obtain ⟨hq, hw⟩ := hw
    subst r
    subst hw
    have hP := hP.sub (ws' := [(hM, .inr (1, [.int base, .ref qr, .ref qm, .int ad, .int sn, .int sy, .int sl, .int rg, .int ly])), (qr, .inl (g.2.1.1, 8, .inl fr)), (qm, .inl (g.2.1.1, 4096, .inl fm)), (h, .inr (0, [.ref q, .int len])), (q, .inl (g.2.1.1, N, .inl f))]) [0, 1, 2, 3, 4] rfl
    have hD := hD.sub (ws' := [(hM, .inr (1, [.int base, .ref qr, .ref qm, .int ad, .int sn, .int sy, .int sl, .int rg, .int ly])), (qr, .inl (g.2.1.1, 8, .inl fr)), (qm, .inl (g.2.1.1, 4096, .inl fm)), (h, .inr (0, [.ref q, .int len])), (q, .inl (g.2.1.1, N, .inl f))]) [0, 1, 2, 3, 4] (by decide) rfl
    refine kiV (As := [.int (sp_X0_a N f ad)]) (rest := []) (wc := [(hM, .inr (1, [.int base, .ref qr, .ref qm, .int ad, .int sn, .int sy, .int sl, .int rg, .int ly])), (qr, .inl (g.2.1.1, 8, .inl fr)), (qm, .inl (g.2.1.1, 4096, .inl fm))]) (wr := [(h, .inr (0, [.ref q, .int len])), (q, .inl (g.2.1.1, N, .inl f))]) ⟨hx, hb, hml, hown, hts⟩ (c_X1_valueOf l g hM qr qm fr fm base ad sn sy sl rg ly (sp_X0_a N f ad)) (cwV 1 hts gX1_result_X1_valueOf rfl rfl rfl (by decide +kernel) ⟨Nat.le_of_ble_eq_true rfl, Nat.le_of_ble_eq_true rfl⟩) ⟨hK, hP, hD, hS, hA, hE, hN⟩ [0, 1, 2] [3, 4] ⟨rfl, rfl, by decide⟩ (q0 := 0) (ci := 1) rfl rfl rfl rfl hl.1 (Nat.le_of_ble_eq_true rfl) dX1_result_216 ⟨Nat.le_of_ble_eq_true rfl, Nat.le_of_ble_eq_true rfl⟩ rfl (fun r u H locs hw hP hD hS => ?_)
    obtain ⟨hq, hw⟩ := hw
    subst r
    subst hw
    have hP := hP.sub (ws' := [(hM, .inr (1, [.int base, .ref qr, .ref qm, .int ad, .int sn, .int sy, .int sl, .int rg, .int ly])), (qr, .inl (g.2.1.1, 8, .inl fr)), (qm, .inl (g.2.1.1, 4096, .inl fm)), (h, .inr (0, [.ref q, .int len])), (q, .inl (g.2.1.1, N, .inl f))]) [2, 3, 4, 0, 1] rfl
    have hD := hD.sub (ws' := [(hM, .inr (1, [.int base, .ref qr, .ref qm, .int ad, .int sn, .int sy, .int sl, .int rg, .int ly])), (qr, .inl (g.2.1.1, 8, .inl fr)), (qm, .inl (g.2.1.1, 4096, .inl fm)), (h, .inr (0, [.ref q, .int len])), (q, .inl (g.2.1.1, N, .inl f))]) [2, 3, 4, 0, 1] (by decide) rfl
    refine lv_iload_n hx hb dX1_result_219 rfl (lv_at hl 2 rfl) ?_
    refine lv_ior hx hb dX1_result_220 ?_
    exact k_iret hx hb hr hlocks ⟨hK, hP, hD, hS, hA, hE, hN⟩ rfl dX1_result_221 (Nat.le_of_ble_eq_true rfl) (Nat.le_of_ble_eq_true rfl) ⟨(by simp only [sp_X1_result, if_neg c_0, if_neg c_2, if_neg c_3, if_neg c_4, if_neg c_5, if_neg c_6, if_neg c_7, if_neg c_8, if_neg c_9, if_neg c_10, if_neg c_11, if_neg c_12, if_neg c_13, if_neg c_14, if_neg c_15, if_neg c_16, if_pos c_17]), rfl⟩
  refine lv_tableOut (tgt := 222) hx hb dX1_result_44 (by have z0 := lv_neT c_0 (by decide : (1 : Int32).toInt = 1); have z1 := lv_neT c_2 (by decide : (2 : Int32).toInt = 2); have z2 := lv_neT c_3 (by decide : (3 : Int32).toInt = 3); have z3 := lv_neT c_4 (by decide : (4 : Int32).toInt = 4); have z4 := lv_neT c_5 (by decide : (5 : Int32).toInt = 5); have z5 := lv_neT c_6 (by decide : (6 : Int32).toInt = 6); have z6 := lv_neT c_7 (by decide : (7 : Int32).toInt = 7); have z7 := lv_neT c_8 (by decide : (8 : Int32).toInt = 8); have z8 := lv_neT c_9 (by decide : (9 : Int32).toInt = 9); have z9 := lv_neT c_10 (by decide : (10 : Int32).toInt = 10); have z10 := lv_neT c_11 (by decide : (11 : Int32).toInt = 11); have z11 := lv_neT c_12 (by decide : (12 : Int32).toInt = 12); have z12 := lv_neT c_13 (by decide : (13 : Int32).toInt = 13); have z13 := lv_neT c_14 (by decide : (14 : Int32).toInt = 14); have z14 := lv_neT c_15 (by decide : (15 : Int32).toInt = 15); have z15 := lv_neT c_16 (by decide : (16 : Int32).toInt = 16); have z16 := lv_neT c_17 (by decide : (17 : Int32).toInt = 17); omega) (by decide) ?_
  refine lv_iconst (v := 4) hx hb dX1_result_222 (by decide) ?_
  refine lv_iload_n hx hb dX1_result_223 rfl (lv_at hl 2 rfl) ?_
  refine lv_imul hx hb dX1_result_224 ?_
  exact k_iret hx hb hr hlocks ⟨hK, hP, hD, hS, hA, hE, hN⟩ rfl dX1_result_225 (Nat.le_of_ble_eq_true rfl) (Nat.le_of_ble_eq_true rfl) ⟨(by simp only [sp_X1_result, if_neg c_0, if_neg c_2, if_neg c_3, if_neg c_4, if_neg c_5, if_neg c_6, if_neg c_7, if_neg c_8, if_neg c_9, if_neg c_10, if_neg c_11, if_neg c_12, if_neg c_13, if_neg c_14, if_neg c_15, if_neg c_16, if_neg c_17]), rfl⟩
