def k_base (rg : Int32) : Int32 := 1024 * (if 0 < (if 3 < rg then 3 else rg) then (if 3 < rg then 3 else rg) else 0)
set_option maxHeartbeats 4000000 in
set_option maxRecDepth 100000 in
theorem c_X0_init240 (l : Launch) (g : KG) (h : Nat) (z0 : Int32)  : Cv l g yX0_init wsX0_init ({ frames := 1, cells := 1, slots := 240, locals := 21 }) [.ref h, .int 240] [(h, .inr (0, [.null, .int z0]))] (fun u => ∃ qn0 : Nat, u = [(h, .inr (0, [.ref qn0, .int 0])), (qn0, .inl (g.2.1.1, 240, .inl (fun _ => 0)))]) 1 240 := by
  intro sz
  refine Met.ofW (cc := cX0_init) (maxL := 2) (ret := none) (by decide) rfl ?_
  intro p e s m args below meth c s₁ B hml hv
  obtain ⟨rfl, hsz, hP, hK, hD0, hE, hN⟩ := hv
  have hx := B.exec
  have hb := B.bytes
  have hr := B.returns
  have hts := atoms_spec (ws := wsX0_init) B.pre
  have hown : s.vm.findClass RX0 = some m.cls := findClass_of_methodNamed B.named
  have hlocks := B.notSynchronized
  have hin : meth.name = "<init>" := (name_of_methodNamed B.named B.method).1
  have iX0 : ∀ w ∈ u_ws RX0 TX0 2, w ∈ wsX0_init := by decide +kernel
  subst hsz
  have hD := hD0.self (sz := s.heap.size)
  generalize hAe : va_A [(h, .inr (0, [.null, .int z0]))] s.heap.size = A at hD hE ⊢
  have hA : ∀ q : Nat, s.heap.size ≤ q → A q := fun q h => by rw [← hAe]; exact Or.inr h
  have hS : va_S A s.heap s.heap [] := va_S.rf
  have hl := lv_entry ([.ref h, .int 240]) (n := 2) (Nat.le_of_ble_eq_true rfl)
  rw [lg_entry_eq]
  generalize (lg_sl ([.ref h, .int 240]) ++ List.replicate (2 - (lg_sl ([.ref h, .int 240])).length) Slot.unset).toArray = ls at hl ⊢
  have hl : lv_has ls 2 [(0, .ref h), (1, .int 240)] := hl
  refine lv_aload_n hx hb dX0_init_0 rfl (lv_at hl 0 rfl) ?_
  refine W.objInit hx hb hown (hts (.methodLink RX0 3 objectInit) (by decide +kernel)) (hts (.instanceMethod objectInit) (by decide +kernel)) (hts (.code objectInit ⟨#[0xb1]⟩ 1 none) (by decide +kernel)) rfl (by rw [hml]; exact hl.1) rfl dX0_init_1 (Nat.le_of_ble_eq_true rfl) (Nat.le_of_ble_eq_true rfl) ?_
  refine W.eq (g2 := F0 m 4 ls []) rfl ?_
  refine lv_aload_n hx hb dX0_init_4 rfl (lv_at hl 0 rfl) ?_
  refine lv_iconst (v := 0) hx hb dX0_init_5 (by decide) ?_
  refine lv_iload_n hx hb dX0_init_6 rfl (lv_at hl 1 rfl) ?_
  refine va_mmax hx hb (hml.trans hl.1.symm) hown (hts (.methodLink RX0 9 Lib.Math.max.name) (by decide +kernel)) (hts (.static Lib.Math.max.name) (by decide +kernel)) (hts (.initialized "java/lang/Math") (by decide +kernel)) (hts (.code Lib.Math.max.name Lib.Math.max.code 2 (some .int)) (by decide +kernel)) (Nat.le_of_ble_eq_true rfl) (Nat.le_of_ble_eq_true rfl) (Nat.le_of_ble_eq_true rfl) (Nat.le_of_ble_eq_true rfl) dX0_init_7 ?_
  refine lv_topi (fun y9 e9 => ?_)
  rw [show (if (0 : Int32) < 240 then 240 else 0 : Int32) = 240 from rfl] at e9
  subst e9
  refine k_newI hx hb (hts (.arrayClass .int) (by decide +kernel)) ⟨hK, hP, hD, hS, hA, hE, hN⟩ 240 rfl (Nat.le_of_ble_eq_true rfl) (Nat.le_of_ble_eq_true rfl) (Nat.le_of_ble_eq_true rfl) dX0_init_10 (fun qn0 H hP hD hS => ?_)
  have hP : va_P g.1 vwCl [(h, .inr (0, [.null, .int z0])), (qn0, .inl (g.2.1.1, 240, .inl (fun _ => 0)))] H := hP
  have hD : va_D A [(h, .inr (0, [.null, .int z0])), (qn0, .inl (g.2.1.1, 240, .inl (fun _ => 0)))] := hD
  refine va_putF (D := g.1) (ci := 0) (v := .ref qn0) (ty := .array .int) (C := RX0) (T := TX0) (N := 2) hx hb hts iX0 tyX0 tyX0_ok nmX0 hown hK hP hD hS 0 rfl rfl 0 (by decide) (hts (.fieldLink RX0 15 "FaultIsolation$Code" "cells" "[I") (by decide +kernel)) (fun _ h9 => h9) rfl hin rfl (by decide +kernel) rfl rfl (Nat.le_of_ble_eq_true rfl) dX0_init_12 (fun H locs hP hD hS => ?_)
  have hP : va_P g.1 vwCl [(h, .inr (0, [.ref qn0, .int z0])), (qn0, .inl (g.2.1.1, 240, .inl (fun _ => 0)))] H := hP
  have hD : va_D A [(h, .inr (0, [.ref qn0, .int z0])), (qn0, .inl (g.2.1.1, 240, .inl (fun _ => 0)))] := hD
  refine lv_aload_n hx hb dX0_init_15 rfl (lv_at hl 0 rfl) ?_
  refine lv_iconst (v := 0) hx hb dX0_init_16 (by decide) ?_
  refine va_put (D := g.1) (ci := 0) (v := .int 0) (ty := .int) (C := RX0) (T := TX0) (N := 2) hx hb hts iX0 tyX0 tyX0_ok nmX0 hown hK hP hD hS 0 rfl rfl 1 (by decide) (hts (.fieldLink RX0 21 "FaultIsolation$Code" "length" "I") (by decide +kernel)) (fun _ h9 => h9) rfl (by decide +kernel) rfl rfl (Nat.le_of_ble_eq_true rfl) dX0_init_17 (fun H locs hP hD hS => ?_)
  have hP : va_P g.1 vwCl [(h, .inr (0, [.ref qn0, .int 0])), (qn0, .inl (g.2.1.1, 240, .inl (fun _ => 0)))] H := hP
  have hD : va_D A [(h, .inr (0, [.ref qn0, .int 0])), (qn0, .inl (g.2.1.1, 240, .inl (fun _ => 0)))] := hD
  exact k_vret hx hb hr hlocks ⟨hK, hP, hD, hS, hA, hE, hN⟩ dX0_init_20 (Nat.le_of_ble_eq_true rfl) (Nat.le_of_ble_eq_true rfl) ⟨qn0, rfl⟩
set_option maxHeartbeats 4000000 in
set_option maxRecDepth 100000 in
theorem c_X0_init1024 (l : Launch) (g : KG) (h : Nat) (z0 : Int32)  : Cv l g yX0_init wsX0_init ({ frames := 1, cells := 1, slots := 1024, locals := 21 }) [.ref h, .int 1024] [(h, .inr (0, [.null, .int z0]))] (fun u => ∃ qn0 : Nat, u = [(h, .inr (0, [.ref qn0, .int 0])), (qn0, .inl (g.2.1.1, 1024, .inl (fun _ => 0)))]) 1 1024 := by
  intro sz
  refine Met.ofW (cc := cX0_init) (maxL := 2) (ret := none) (by decide) rfl ?_
  intro p e s m args below meth c s₁ B hml hv
  obtain ⟨rfl, hsz, hP, hK, hD0, hE, hN⟩ := hv
  have hx := B.exec
  have hb := B.bytes
  have hr := B.returns
  have hts := atoms_spec (ws := wsX0_init) B.pre
  have hown : s.vm.findClass RX0 = some m.cls := findClass_of_methodNamed B.named
  have hlocks := B.notSynchronized
  have hin : meth.name = "<init>" := (name_of_methodNamed B.named B.method).1
  have iX0 : ∀ w ∈ u_ws RX0 TX0 2, w ∈ wsX0_init := by decide +kernel
  subst hsz
  have hD := hD0.self (sz := s.heap.size)
  generalize hAe : va_A [(h, .inr (0, [.null, .int z0]))] s.heap.size = A at hD hE ⊢
  have hA : ∀ q : Nat, s.heap.size ≤ q → A q := fun q h => by rw [← hAe]; exact Or.inr h
  have hS : va_S A s.heap s.heap [] := va_S.rf
  have hl := lv_entry ([.ref h, .int 1024]) (n := 2) (Nat.le_of_ble_eq_true rfl)
  rw [lg_entry_eq]
  generalize (lg_sl ([.ref h, .int 1024]) ++ List.replicate (2 - (lg_sl ([.ref h, .int 1024])).length) Slot.unset).toArray = ls at hl ⊢
  have hl : lv_has ls 2 [(0, .ref h), (1, .int 1024)] := hl
  refine lv_aload_n hx hb dX0_init_0 rfl (lv_at hl 0 rfl) ?_
  refine W.objInit hx hb hown (hts (.methodLink RX0 3 objectInit) (by decide +kernel)) (hts (.instanceMethod objectInit) (by decide +kernel)) (hts (.code objectInit ⟨#[0xb1]⟩ 1 none) (by decide +kernel)) rfl (by rw [hml]; exact hl.1) rfl dX0_init_1 (Nat.le_of_ble_eq_true rfl) (Nat.le_of_ble_eq_true rfl) ?_
  refine W.eq (g2 := F0 m 4 ls []) rfl ?_
  refine lv_aload_n hx hb dX0_init_4 rfl (lv_at hl 0 rfl) ?_
  refine lv_iconst (v := 0) hx hb dX0_init_5 (by decide) ?_
  refine lv_iload_n hx hb dX0_init_6 rfl (lv_at hl 1 rfl) ?_
  refine va_mmax hx hb (hml.trans hl.1.symm) hown (hts (.methodLink RX0 9 Lib.Math.max.name) (by decide +kernel)) (hts (.static Lib.Math.max.name) (by decide +kernel)) (hts (.initialized "java/lang/Math") (by decide +kernel)) (hts (.code Lib.Math.max.name Lib.Math.max.code 2 (some .int)) (by decide +kernel)) (Nat.le_of_ble_eq_true rfl) (Nat.le_of_ble_eq_true rfl) (Nat.le_of_ble_eq_true rfl) (Nat.le_of_ble_eq_true rfl) dX0_init_7 ?_
  refine lv_topi (fun y9 e9 => ?_)
  rw [show (if (0 : Int32) < 1024 then 1024 else 0 : Int32) = 1024 from rfl] at e9
  subst e9
  refine k_newI hx hb (hts (.arrayClass .int) (by decide +kernel)) ⟨hK, hP, hD, hS, hA, hE, hN⟩ 1024 rfl (Nat.le_of_ble_eq_true rfl) (Nat.le_of_ble_eq_true rfl) (Nat.le_of_ble_eq_true rfl) dX0_init_10 (fun qn0 H hP hD hS => ?_)
  have hP : va_P g.1 vwCl [(h, .inr (0, [.null, .int z0])), (qn0, .inl (g.2.1.1, 1024, .inl (fun _ => 0)))] H := hP
  have hD : va_D A [(h, .inr (0, [.null, .int z0])), (qn0, .inl (g.2.1.1, 1024, .inl (fun _ => 0)))] := hD
  refine va_putF (D := g.1) (ci := 0) (v := .ref qn0) (ty := .array .int) (C := RX0) (T := TX0) (N := 2) hx hb hts iX0 tyX0 tyX0_ok nmX0 hown hK hP hD hS 0 rfl rfl 0 (by decide) (hts (.fieldLink RX0 15 "FaultIsolation$Code" "cells" "[I") (by decide +kernel)) (fun _ h9 => h9) rfl hin rfl (by decide +kernel) rfl rfl (Nat.le_of_ble_eq_true rfl) dX0_init_12 (fun H locs hP hD hS => ?_)
  have hP : va_P g.1 vwCl [(h, .inr (0, [.ref qn0, .int z0])), (qn0, .inl (g.2.1.1, 1024, .inl (fun _ => 0)))] H := hP
  have hD : va_D A [(h, .inr (0, [.ref qn0, .int z0])), (qn0, .inl (g.2.1.1, 1024, .inl (fun _ => 0)))] := hD
  refine lv_aload_n hx hb dX0_init_15 rfl (lv_at hl 0 rfl) ?_
  refine lv_iconst (v := 0) hx hb dX0_init_16 (by decide) ?_
  refine va_put (D := g.1) (ci := 0) (v := .int 0) (ty := .int) (C := RX0) (T := TX0) (N := 2) hx hb hts iX0 tyX0 tyX0_ok nmX0 hown hK hP hD hS 0 rfl rfl 1 (by decide) (hts (.fieldLink RX0 21 "FaultIsolation$Code" "length" "I") (by decide +kernel)) (fun _ h9 => h9) rfl (by decide +kernel) rfl rfl (Nat.le_of_ble_eq_true rfl) dX0_init_17 (fun H locs hP hD hS => ?_)
  have hP : va_P g.1 vwCl [(h, .inr (0, [.ref qn0, .int 0])), (qn0, .inl (g.2.1.1, 1024, .inl (fun _ => 0)))] H := hP
  have hD : va_D A [(h, .inr (0, [.ref qn0, .int 0])), (qn0, .inl (g.2.1.1, 1024, .inl (fun _ => 0)))] := hD
  exact k_vret hx hb hr hlocks ⟨hK, hP, hD, hS, hA, hE, hN⟩ dX0_init_20 (Nat.le_of_ble_eq_true rfl) (Nat.le_of_ble_eq_true rfl) ⟨qn0, rfl⟩
set_option maxHeartbeats 4000000 in
set_option maxRecDepth 100000 in
theorem c_X1_init (l : Launch) (g : KG) (h : Nat) (bs : Int32) (z0 : Int32) (z1 : Int32) (z2 : Int32) (z3 : Int32) (z4 : Int32) (z5 : Int32) (z6 : Int32)  : Cv l g yX1_init wsX1_init ({ frames := 1, cells := 2, slots := 4104, locals := 20 }) [.ref h, .int bs] [(h, .inr (1, [.int z0, .null, .null, .int z1, .int z2, .int z3, .int z4, .int z5, .int z6]))] (fun u => ∃ qn0 qn1 : Nat, u = [(h, .inr (1, [.int bs, .ref qn0, .ref qn1, .int z1, .int z2, .int z3, .int z4, .int z5, .int (-1)])), (qn0, .inl (g.2.1.1, 8, .inl (fun _ => 0))), (qn1, .inl (g.2.1.1, 4096, .inl (fun _ => 0)))]) 2 4104 := by
  intro sz
  refine Met.ofW (cc := cX1_init) (maxL := 2) (ret := none) (by decide) rfl ?_
  intro p e s m args below meth c s₁ B hml hv
  obtain ⟨rfl, hsz, hP, hK, hD0, hE, hN⟩ := hv
  have hx := B.exec
  have hb := B.bytes
  have hr := B.returns
  have hts := atoms_spec (ws := wsX1_init) B.pre
  have hown : s.vm.findClass RX1 = some m.cls := findClass_of_methodNamed B.named
  have hlocks := B.notSynchronized
  have hin : meth.name = "<init>" := (name_of_methodNamed B.named B.method).1
  have iX1 : ∀ w ∈ u_ws RX1 TX1 9, w ∈ wsX1_init := by decide +kernel
  subst hsz
  have hD := hD0.self (sz := s.heap.size)
  generalize hAe : va_A [(h, .inr (1, [.int z0, .null, .null, .int z1, .int z2, .int z3, .int z4, .int z5, .int z6]))] s.heap.size = A at hD hE ⊢
  have hA : ∀ q : Nat, s.heap.size ≤ q → A q := fun q h => by rw [← hAe]; exact Or.inr h
  have hS : va_S A s.heap s.heap [] := va_S.rf
  have hl := lv_entry ([.ref h, .int bs]) (n := 2) (Nat.le_of_ble_eq_true rfl)
  rw [lg_entry_eq]
  generalize (lg_sl ([.ref h, .int bs]) ++ List.replicate (2 - (lg_sl ([.ref h, .int bs])).length) Slot.unset).toArray = ls at hl ⊢
  have hl : lv_has ls 2 [(0, .ref h), (1, .int bs)] := hl
  refine lv_aload_n hx hb dX1_init_0 rfl (lv_at hl 0 rfl) ?_
  refine W.objInit hx hb hown (hts (.methodLink RX1 3 objectInit) (by decide +kernel)) (hts (.instanceMethod objectInit) (by decide +kernel)) (hts (.code objectInit ⟨#[0xb1]⟩ 1 none) (by decide +kernel)) rfl (by rw [hml]; exact hl.1) rfl dX1_init_1 (Nat.le_of_ble_eq_true rfl) (Nat.le_of_ble_eq_true rfl) ?_
  refine W.eq (g2 := F0 m 4 ls []) rfl ?_
  refine lv_aload_n hx hb dX1_init_4 rfl (lv_at hl 0 rfl) ?_
  refine lv_bipush (v := 8) hx hb dX1_init_5 (by decide) ?_
  refine k_newI hx hb (hts (.arrayClass .int) (by decide +kernel)) ⟨hK, hP, hD, hS, hA, hE, hN⟩ 8 rfl (Nat.le_of_ble_eq_true rfl) (Nat.le_of_ble_eq_true rfl) (Nat.le_of_ble_eq_true rfl) dX1_init_7 (fun qn0 H hP hD hS => ?_)
  have hP : va_P g.1 vwCl [(h, .inr (1, [.int z0, .null, .null, .int z1, .int z2, .int z3, .int z4, .int z5, .int z6])), (qn0, .inl (g.2.1.1, 8, .inl (fun _ => 0)))] H := hP
  have hD : va_D A [(h, .inr (1, [.int z0, .null, .null, .int z1, .int z2, .int z3, .int z4, .int z5, .int z6])), (qn0, .inl (g.2.1.1, 8, .inl (fun _ => 0)))] := hD
  refine va_putF (D := g.1) (ci := 1) (v := .ref qn0) (ty := .array .int) (C := RX1) (T := TX1) (N := 9) hx hb hts iX1 tyX1 tyX1_ok nmX1 hown hK hP hD hS 0 rfl rfl 1 (by decide) (hts (.fieldLink RX1 9 "FaultIsolation$Machine" "registers" "[I") (by decide +kernel)) (fun _ h9 => h9) rfl hin rfl (by decide +kernel) rfl rfl (Nat.le_of_ble_eq_true rfl) dX1_init_9 (fun H locs hP hD hS => ?_)
  have hP : va_P g.1 vwCl [(h, .inr (1, [.int z0, .ref qn0, .null, .int z1, .int z2, .int z3, .int z4, .int z5, .int z6])), (qn0, .inl (g.2.1.1, 8, .inl (fun _ => 0)))] H := hP
  have hD : va_D A [(h, .inr (1, [.int z0, .ref qn0, .null, .int z1, .int z2, .int z3, .int z4, .int z5, .int z6])), (qn0, .inl (g.2.1.1, 8, .inl (fun _ => 0)))] := hD
  refine lv_aload_n hx hb dX1_init_12 rfl (lv_at hl 0 rfl) ?_
  refine lv_sipush (v := 4096) hx hb dX1_init_13 (by decide) ?_
  refine k_newI hx hb (hts (.arrayClass .int) (by decide +kernel)) ⟨hK, hP, hD, hS, hA, hE, hN⟩ 4096 rfl (Nat.le_of_ble_eq_true rfl) (Nat.le_of_ble_eq_true rfl) (Nat.le_of_ble_eq_true rfl) dX1_init_16 (fun qn1 H hP hD hS => ?_)
  have hP : va_P g.1 vwCl [(h, .inr (1, [.int z0, .ref qn0, .null, .int z1, .int z2, .int z3, .int z4, .int z5, .int z6])), (qn0, .inl (g.2.1.1, 8, .inl (fun _ => 0))), (qn1, .inl (g.2.1.1, 4096, .inl (fun _ => 0)))] H := hP
  have hD : va_D A [(h, .inr (1, [.int z0, .ref qn0, .null, .int z1, .int z2, .int z3, .int z4, .int z5, .int z6])), (qn0, .inl (g.2.1.1, 8, .inl (fun _ => 0))), (qn1, .inl (g.2.1.1, 4096, .inl (fun _ => 0)))] := hD
  refine va_putF (D := g.1) (ci := 1) (v := .ref qn1) (ty := .array .int) (C := RX1) (T := TX1) (N := 9) hx hb hts iX1 tyX1 tyX1_ok nmX1 hown hK hP hD hS 0 rfl rfl 2 (by decide) (hts (.fieldLink RX1 15 "FaultIsolation$Machine" "cells" "[I") (by decide +kernel)) (fun _ h9 => h9) rfl hin rfl (by decide +kernel) rfl rfl (Nat.le_of_ble_eq_true rfl) dX1_init_18 (fun H locs hP hD hS => ?_)
  have hP : va_P g.1 vwCl [(h, .inr (1, [.int z0, .ref qn0, .ref qn1, .int z1, .int z2, .int z3, .int z4, .int z5, .int z6])), (qn0, .inl (g.2.1.1, 8, .inl (fun _ => 0))), (qn1, .inl (g.2.1.1, 4096, .inl (fun _ => 0)))] H := hP
  have hD : va_D A [(h, .inr (1, [.int z0, .ref qn0, .ref qn1, .int z1, .int z2, .int z3, .int z4, .int z5, .int z6])), (qn0, .inl (g.2.1.1, 8, .inl (fun _ => 0))), (qn1, .inl (g.2.1.1, 4096, .inl (fun _ => 0)))] := hD
  refine lv_aload_n hx hb dX1_init_21 rfl (lv_at hl 0 rfl) ?_
  refine lv_iload_n hx hb dX1_init_22 rfl (lv_at hl 1 rfl) ?_
  refine va_putF (D := g.1) (ci := 1) (v := .int bs) (ty := .int) (C := RX1) (T := TX1) (N := 9) hx hb hts iX1 tyX1 tyX1_ok nmX1 hown hK hP hD hS 0 rfl rfl 0 (by decide) (hts (.fieldLink RX1 18 "FaultIsolation$Machine" "base" "I") (by decide +kernel)) (fun _ h9 => h9) rfl hin rfl (by decide +kernel) rfl rfl (Nat.le_of_ble_eq_true rfl) dX1_init_23 (fun H locs hP hD hS => ?_)
  have hP : va_P g.1 vwCl [(h, .inr (1, [.int bs, .ref qn0, .ref qn1, .int z1, .int z2, .int z3, .int z4, .int z5, .int z6])), (qn0, .inl (g.2.1.1, 8, .inl (fun _ => 0))), (qn1, .inl (g.2.1.1, 4096, .inl (fun _ => 0)))] H := hP
  have hD : va_D A [(h, .inr (1, [.int bs, .ref qn0, .ref qn1, .int z1, .int z2, .int z3, .int z4, .int z5, .int z6])), (qn0, .inl (g.2.1.1, 8, .inl (fun _ => 0))), (qn1, .inl (g.2.1.1, 4096, .inl (fun _ => 0)))] := hD
  refine lv_aload_n hx hb dX1_init_26 rfl (lv_at hl 0 rfl) ?_
  refine lv_iconst (v := (-1)) hx hb dX1_init_27 (by decide) ?_
  refine va_put (D := g.1) (ci := 1) (v := .int (-1)) (ty := .int) (C := RX1) (T := TX1) (N := 9) hx hb hts iX1 tyX1 tyX1_ok nmX1 hown hK hP hD hS 0 rfl rfl 8 (by decide) (hts (.fieldLink RX1 22 "FaultIsolation$Machine" "latestStray" "I") (by decide +kernel)) (fun _ h9 => h9) rfl (by decide +kernel) rfl rfl (Nat.le_of_ble_eq_true rfl) dX1_init_28 (fun H locs hP hD hS => ?_)
  have hP : va_P g.1 vwCl [(h, .inr (1, [.int bs, .ref qn0, .ref qn1, .int z1, .int z2, .int z3, .int z4, .int z5, .int (-1)])), (qn0, .inl (g.2.1.1, 8, .inl (fun _ => 0))), (qn1, .inl (g.2.1.1, 4096, .inl (fun _ => 0)))] H := hP
  have hD : va_D A [(h, .inr (1, [.int bs, .ref qn0, .ref qn1, .int z1, .int z2, .int z3, .int z4, .int z5, .int (-1)])), (qn0, .inl (g.2.1.1, 8, .inl (fun _ => 0))), (qn1, .inl (g.2.1.1, 4096, .inl (fun _ => 0)))] := hD
  exact k_vret hx hb hr hlocks ⟨hK, hP, hD, hS, hA, hE, hN⟩ dX1_init_31 (Nat.le_of_ble_eq_true rfl) (Nat.le_of_ble_eq_true rfl) ⟨qn0, qn1, rfl⟩
set_option maxHeartbeats 4000000 in
set_option maxRecDepth 100000 in
theorem c_X2_init (l : Launch) (g : KG) (h : Nat) (bs : Int32) (z0 : Int32) (z1 : Int32) (z2 : Int32)  : Cv l g yX2_init wsX2_init ({ frames := 1, cells := 3, slots := 180, locals := 20 }) [.ref h, .int bs] [(h, .inr (2, [.int z0, .null, .null, .null, .int z1, .int z2]))] (fun u => ∃ qn0 qn1 qn2 : Nat, u = [(h, .inr (2, [.int bs, .ref qn0, .ref qn1, .ref qn2, .int 0, .int 0])), (qn0, .inl (g.2.1.2.1, 60, .inl (fun _ => 0))), (qn1, .inl (g.2.1.1, 60, .inl (fun _ => 0))), (qn2, .inl (g.2.1.1, 60, .inl (fun _ => 0)))]) 3 180 := by
  intro sz
  refine Met.ofW (cc := cX2_init) (maxL := 2) (ret := none) (by decide) rfl ?_
  intro p e s m args below meth c s₁ B hml hv
  obtain ⟨rfl, hsz, hP, hK, hD0, hE, hN⟩ := hv
  have hx := B.exec
  have hb := B.bytes
  have hr := B.returns
  have hts := atoms_spec (ws := wsX2_init) B.pre
  have hown : s.vm.findClass RX2 = some m.cls := findClass_of_methodNamed B.named
  have hlocks := B.notSynchronized
  have hin : meth.name = "<init>" := (name_of_methodNamed B.named B.method).1
  have iX2 : ∀ w ∈ u_ws RX2 TX2 6, w ∈ wsX2_init := by decide +kernel
  subst hsz
  have hD := hD0.self (sz := s.heap.size)
  generalize hAe : va_A [(h, .inr (2, [.int z0, .null, .null, .null, .int z1, .int z2]))] s.heap.size = A at hD hE ⊢
  have hA : ∀ q : Nat, s.heap.size ≤ q → A q := fun q h => by rw [← hAe]; exact Or.inr h
  have hS : va_S A s.heap s.heap [] := va_S.rf
  have hl := lv_entry ([.ref h, .int bs]) (n := 2) (Nat.le_of_ble_eq_true rfl)
  rw [lg_entry_eq]
  generalize (lg_sl ([.ref h, .int bs]) ++ List.replicate (2 - (lg_sl ([.ref h, .int bs])).length) Slot.unset).toArray = ls at hl ⊢
  have hl : lv_has ls 2 [(0, .ref h), (1, .int bs)] := hl
  refine lv_aload_n hx hb dX2_init_0 rfl (lv_at hl 0 rfl) ?_
  refine W.objInit hx hb hown (hts (.methodLink RX2 3 objectInit) (by decide +kernel)) (hts (.instanceMethod objectInit) (by decide +kernel)) (hts (.code objectInit ⟨#[0xb1]⟩ 1 none) (by decide +kernel)) rfl (by rw [hml]; exact hl.1) rfl dX2_init_1 (Nat.le_of_ble_eq_true rfl) (Nat.le_of_ble_eq_true rfl) ?_
  refine W.eq (g2 := F0 m 4 ls []) rfl ?_
  refine lv_aload_n hx hb dX2_init_4 rfl (lv_at hl 0 rfl) ?_
  refine lv_bipush (v := 60) hx hb dX2_init_5 (by decide) ?_
  refine k_newZ hx hb (hts (.arrayClass .boolean) (by decide +kernel)) ⟨hK, hP, hD, hS, hA, hE, hN⟩ 60 rfl (Nat.le_of_ble_eq_true rfl) (Nat.le_of_ble_eq_true rfl) (Nat.le_of_ble_eq_true rfl) dX2_init_7 (fun qn0 H hP hD hS => ?_)
  have hP : va_P g.1 vwCl [(h, .inr (2, [.int z0, .null, .null, .null, .int z1, .int z2])), (qn0, .inl (g.2.1.2.1, 60, .inl (fun _ => 0)))] H := hP
  have hD : va_D A [(h, .inr (2, [.int z0, .null, .null, .null, .int z1, .int z2])), (qn0, .inl (g.2.1.2.1, 60, .inl (fun _ => 0)))] := hD
  refine va_putF (D := g.1) (ci := 2) (v := .ref qn0) (ty := .array .boolean) (C := RX2) (T := TX2) (N := 6) hx hb hts iX2 tyX2 tyX2_ok nmX2 hown hK hP hD hS 0 rfl rfl 1 (by decide) (hts (.fieldLink RX2 9 "FaultIsolation$Rewriter" "ledTo" "[Z") (by decide +kernel)) (fun _ h9 => h9) rfl hin rfl (by decide +kernel) rfl rfl (Nat.le_of_ble_eq_true rfl) dX2_init_9 (fun H locs hP hD hS => ?_)
  have hP : va_P g.1 vwCl [(h, .inr (2, [.int z0, .ref qn0, .null, .null, .int z1, .int z2])), (qn0, .inl (g.2.1.2.1, 60, .inl (fun _ => 0)))] H := hP
  have hD : va_D A [(h, .inr (2, [.int z0, .ref qn0, .null, .null, .int z1, .int z2])), (qn0, .inl (g.2.1.2.1, 60, .inl (fun _ => 0)))] := hD
  refine lv_aload_n hx hb dX2_init_12 rfl (lv_at hl 0 rfl) ?_
  refine lv_bipush (v := 60) hx hb dX2_init_13 (by decide) ?_
  refine k_newI hx hb (hts (.arrayClass .int) (by decide +kernel)) ⟨hK, hP, hD, hS, hA, hE, hN⟩ 60 rfl (Nat.le_of_ble_eq_true rfl) (Nat.le_of_ble_eq_true rfl) (Nat.le_of_ble_eq_true rfl) dX2_init_15 (fun qn1 H hP hD hS => ?_)
  have hP : va_P g.1 vwCl [(h, .inr (2, [.int z0, .ref qn0, .null, .null, .int z1, .int z2])), (qn0, .inl (g.2.1.2.1, 60, .inl (fun _ => 0))), (qn1, .inl (g.2.1.1, 60, .inl (fun _ => 0)))] H := hP
  have hD : va_D A [(h, .inr (2, [.int z0, .ref qn0, .null, .null, .int z1, .int z2])), (qn0, .inl (g.2.1.2.1, 60, .inl (fun _ => 0))), (qn1, .inl (g.2.1.1, 60, .inl (fun _ => 0)))] := hD
  refine va_putF (D := g.1) (ci := 2) (v := .ref qn1) (ty := .array .int) (C := RX2) (T := TX2) (N := 6) hx hb hts iX2 tyX2 tyX2_ok nmX2 hown hK hP hD hS 0 rfl rfl 2 (by decide) (hts (.fieldLink RX2 15 "FaultIsolation$Rewriter" "planned" "[I") (by decide +kernel)) (fun _ h9 => h9) rfl hin rfl (by decide +kernel) rfl rfl (Nat.le_of_ble_eq_true rfl) dX2_init_17 (fun H locs hP hD hS => ?_)
  have hP : va_P g.1 vwCl [(h, .inr (2, [.int z0, .ref qn0, .ref qn1, .null, .int z1, .int z2])), (qn0, .inl (g.2.1.2.1, 60, .inl (fun _ => 0))), (qn1, .inl (g.2.1.1, 60, .inl (fun _ => 0)))] H := hP
  have hD : va_D A [(h, .inr (2, [.int z0, .ref qn0, .ref qn1, .null, .int z1, .int z2])), (qn0, .inl (g.2.1.2.1, 60, .inl (fun _ => 0))), (qn1, .inl (g.2.1.1, 60, .inl (fun _ => 0)))] := hD
  refine lv_aload_n hx hb dX2_init_20 rfl (lv_at hl 0 rfl) ?_
  refine lv_bipush (v := 60) hx hb dX2_init_21 (by decide) ?_
  refine k_newI hx hb (hts (.arrayClass .int) (by decide +kernel)) ⟨hK, hP, hD, hS, hA, hE, hN⟩ 60 rfl (Nat.le_of_ble_eq_true rfl) (Nat.le_of_ble_eq_true rfl) (Nat.le_of_ble_eq_true rfl) dX2_init_23 (fun qn2 H hP hD hS => ?_)
  have hP : va_P g.1 vwCl [(h, .inr (2, [.int z0, .ref qn0, .ref qn1, .null, .int z1, .int z2])), (qn0, .inl (g.2.1.2.1, 60, .inl (fun _ => 0))), (qn1, .inl (g.2.1.1, 60, .inl (fun _ => 0))), (qn2, .inl (g.2.1.1, 60, .inl (fun _ => 0)))] H := hP
  have hD : va_D A [(h, .inr (2, [.int z0, .ref qn0, .ref qn1, .null, .int z1, .int z2])), (qn0, .inl (g.2.1.2.1, 60, .inl (fun _ => 0))), (qn1, .inl (g.2.1.1, 60, .inl (fun _ => 0))), (qn2, .inl (g.2.1.1, 60, .inl (fun _ => 0)))] := hD
  refine va_putF (D := g.1) (ci := 2) (v := .ref qn2) (ty := .array .int) (C := RX2) (T := TX2) (N := 6) hx hb hts iX2 tyX2 tyX2_ok nmX2 hown hK hP hD hS 0 rfl rfl 3 (by decide) (hts (.fieldLink RX2 19 "FaultIsolation$Rewriter" "addresses" "[I") (by decide +kernel)) (fun _ h9 => h9) rfl hin rfl (by decide +kernel) rfl rfl (Nat.le_of_ble_eq_true rfl) dX2_init_25 (fun H locs hP hD hS => ?_)
  have hP : va_P g.1 vwCl [(h, .inr (2, [.int z0, .ref qn0, .ref qn1, .ref qn2, .int z1, .int z2])), (qn0, .inl (g.2.1.2.1, 60, .inl (fun _ => 0))), (qn1, .inl (g.2.1.1, 60, .inl (fun _ => 0))), (qn2, .inl (g.2.1.1, 60, .inl (fun _ => 0)))] H := hP
  have hD : va_D A [(h, .inr (2, [.int z0, .ref qn0, .ref qn1, .ref qn2, .int z1, .int z2])), (qn0, .inl (g.2.1.2.1, 60, .inl (fun _ => 0))), (qn1, .inl (g.2.1.1, 60, .inl (fun _ => 0))), (qn2, .inl (g.2.1.1, 60, .inl (fun _ => 0)))] := hD
  refine lv_aload_n hx hb dX2_init_28 rfl (lv_at hl 0 rfl) ?_
  refine lv_iload_n hx hb dX2_init_29 rfl (lv_at hl 1 rfl) ?_
  refine va_putF (D := g.1) (ci := 2) (v := .int bs) (ty := .int) (C := RX2) (T := TX2) (N := 6) hx hb hts iX2 tyX2 tyX2_ok nmX2 hown hK hP hD hS 0 rfl rfl 0 (by decide) (hts (.fieldLink RX2 22 "FaultIsolation$Rewriter" "base" "I") (by decide +kernel)) (fun _ h9 => h9) rfl hin rfl (by decide +kernel) rfl rfl (Nat.le_of_ble_eq_true rfl) dX2_init_30 (fun H locs hP hD hS => ?_)
  have hP : va_P g.1 vwCl [(h, .inr (2, [.int bs, .ref qn0, .ref qn1, .ref qn2, .int z1, .int z2])), (qn0, .inl (g.2.1.2.1, 60, .inl (fun _ => 0))), (qn1, .inl (g.2.1.1, 60, .inl (fun _ => 0))), (qn2, .inl (g.2.1.1, 60, .inl (fun _ => 0)))] H := hP
  have hD : va_D A [(h, .inr (2, [.int bs, .ref qn0, .ref qn1, .ref qn2, .int z1, .int z2])), (qn0, .inl (g.2.1.2.1, 60, .inl (fun _ => 0))), (qn1, .inl (g.2.1.1, 60, .inl (fun _ => 0))), (qn2, .inl (g.2.1.1, 60, .inl (fun _ => 0)))] := hD
  refine lv_aload_n hx hb dX2_init_33 rfl (lv_at hl 0 rfl) ?_
  refine lv_iconst (v := 0) hx hb dX2_init_34 (by decide) ?_
  refine va_put (D := g.1) (ci := 2) (v := .int 0) (ty := .int) (C := RX2) (T := TX2) (N := 6) hx hb hts iX2 tyX2 tyX2_ok nmX2 hown hK hP hD hS 0 rfl rfl 4 (by decide) (hts (.fieldLink RX2 26 "FaultIsolation$Rewriter" "known" "I") (by decide +kernel)) (fun _ h9 => h9) rfl (by decide +kernel) rfl rfl (Nat.le_of_ble_eq_true rfl) dX2_init_35 (fun H locs hP hD hS => ?_)
  have hP : va_P g.1 vwCl [(h, .inr (2, [.int bs, .ref qn0, .ref qn1, .ref qn2, .int 0, .int z2])), (qn0, .inl (g.2.1.2.1, 60, .inl (fun _ => 0))), (qn1, .inl (g.2.1.1, 60, .inl (fun _ => 0))), (qn2, .inl (g.2.1.1, 60, .inl (fun _ => 0)))] H := hP
  have hD : va_D A [(h, .inr (2, [.int bs, .ref qn0, .ref qn1, .ref qn2, .int 0, .int z2])), (qn0, .inl (g.2.1.2.1, 60, .inl (fun _ => 0))), (qn1, .inl (g.2.1.1, 60, .inl (fun _ => 0))), (qn2, .inl (g.2.1.1, 60, .inl (fun _ => 0)))] := hD
  refine lv_aload_n hx hb dX2_init_38 rfl (lv_at hl 0 rfl) ?_
  refine lv_iconst (v := 0) hx hb dX2_init_39 (by decide) ?_
  refine va_put (D := g.1) (ci := 2) (v := .int 0) (ty := .int) (C := RX2) (T := TX2) (N := 6) hx hb hts iX2 tyX2 tyX2_ok nmX2 hown hK hP hD hS 0 rfl rfl 5 (by decide) (hts (.fieldLink RX2 29 "FaultIsolation$Rewriter" "end" "I") (by decide +kernel)) (fun _ h9 => h9) rfl (by decide +kernel) rfl rfl (Nat.le_of_ble_eq_true rfl) dX2_init_40 (fun H locs hP hD hS => ?_)
  have hP : va_P g.1 vwCl [(h, .inr (2, [.int bs, .ref qn0, .ref qn1, .ref qn2, .int 0, .int 0])), (qn0, .inl (g.2.1.2.1, 60, .inl (fun _ => 0))), (qn1, .inl (g.2.1.1, 60, .inl (fun _ => 0))), (qn2, .inl (g.2.1.1, 60, .inl (fun _ => 0)))] H := hP
  have hD : va_D A [(h, .inr (2, [.int bs, .ref qn0, .ref qn1, .ref qn2, .int 0, .int 0])), (qn0, .inl (g.2.1.2.1, 60, .inl (fun _ => 0))), (qn1, .inl (g.2.1.1, 60, .inl (fun _ => 0))), (qn2, .inl (g.2.1.1, 60, .inl (fun _ => 0)))] := hD
  exact k_vret hx hb hr hlocks ⟨hK, hP, hD, hS, hA, hE, hN⟩ dX2_init_43 (Nat.le_of_ble_eq_true rfl) (Nat.le_of_ble_eq_true rfl) ⟨qn0, qn1, qn2, rfl⟩
set_option maxHeartbeats 4000000 in
set_option maxRecDepth 100000 in
theorem c_X5_init (l : Launch) (g : KG) (h : Nat) (rg : Int32) (z0 : Int32)  : Cv l g yX5_init wsX5_init ({ frames := 2, cells := 11, slots := 5567, locals := 42 }) [.ref h, .int rg] [(h, .inr (3, [.int z0, .null, .null, .null, .null]))] (fun u => ∃ qo0 qn0_29 qo1 qn0_43 qo2 qn0_58 qn1_58 qn2_58 qo3 qn0_73 qn1_73 : Nat, u = [(h, .inr (3, [.int (k_base rg), .ref qo0, .ref qo1, .ref qo2, .ref qo3])), (qo0, .inr (0, [.ref qn0_29, .int 0])), (qn0_29, .inl (g.2.1.1, 240, .inl (fun _ => 0))), (qo1, .inr (0, [.ref qn0_43, .int 0])), (qn0_43, .inl (g.2.1.1, 1024, .inl (fun _ => 0))), (qo2, .inr (2, [.int (k_base rg), .ref qn0_58, .ref qn1_58, .ref qn2_58, .int 0, .int 0])), (qn0_58, .inl (g.2.1.2.1, 60, .inl (fun _ => 0))), (qn1_58, .inl (g.2.1.1, 60, .inl (fun _ => 0))), (qn2_58, .inl (g.2.1.1, 60, .inl (fun _ => 0))), (qo3, .inr (1, [.int (k_base rg), .ref qn0_73, .ref qn1_73, .int 0, .int 0, .int 0, .int 0, .int 0, .int (-1)])), (qn0_73, .inl (g.2.1.1, 8, .inl (fun _ => 0))), (qn1_73, .inl (g.2.1.1, 4096, .inl (fun _ => 0)))]) 11 5567 := by
  intro sz
  refine Met.ofW (cc := cX5_init) (maxL := 2) (ret := none) (by decide) rfl ?_
  intro p e s m args below meth c s₁ B hml hv
  obtain ⟨rfl, hsz, hP, hK, hD0, hE, hN⟩ := hv
  have hx := B.exec
  have hb := B.bytes
  have hr := B.returns
  have hts := atoms_spec (ws := wsX5_init) B.pre
  have hown : s.vm.findClass RX5 = some m.cls := findClass_of_methodNamed B.named
  have hlocks := B.notSynchronized
  have hin : meth.name = "<init>" := (name_of_methodNamed B.named B.method).1
  have iX0 : ∀ w ∈ u_ws RX0 TX0 2, w ∈ wsX5_init := by decide +kernel
  have iX1 : ∀ w ∈ u_ws RX1 TX1 9, w ∈ wsX5_init := by decide +kernel
  have iX2 : ∀ w ∈ u_ws RX2 TX2 6, w ∈ wsX5_init := by decide +kernel
  have iX5 : ∀ w ∈ u_ws RX5 TX5 5, w ∈ wsX5_init := by decide +kernel
  subst hsz
  have hD := hD0.self (sz := s.heap.size)
  generalize hAe : va_A [(h, .inr (3, [.int z0, .null, .null, .null, .null]))] s.heap.size = A at hD hE ⊢
  have hA : ∀ q : Nat, s.heap.size ≤ q → A q := fun q h => by rw [← hAe]; exact Or.inr h
  have hS : va_S A s.heap s.heap [] := va_S.rf
  have hl := lv_entry ([.ref h, .int rg]) (n := 2) (Nat.le_of_ble_eq_true rfl)
  rw [lg_entry_eq]
  generalize (lg_sl ([.ref h, .int rg]) ++ List.replicate (2 - (lg_sl ([.ref h, .int rg])).length) Slot.unset).toArray = ls at hl ⊢
  have hl : lv_has ls 2 [(0, .ref h), (1, .int rg)] := hl
  refine lv_aload_n hx hb dX5_init_0 rfl (lv_at hl 0 rfl) ?_
  refine W.objInit hx hb hown (hts (.methodLink RX5 1 objectInit) (by decide +kernel)) (hts (.instanceMethod objectInit) (by decide +kernel)) (hts (.code objectInit ⟨#[0xb1]⟩ 1 none) (by decide +kernel)) rfl (by rw [hml]; exact hl.1) rfl dX5_init_1 (Nat.le_of_ble_eq_true rfl) (Nat.le_of_ble_eq_true rfl) ?_
  refine W.eq (g2 := F0 m 4 ls []) rfl ?_
  refine lv_aload_n hx hb dX5_init_4 rfl (lv_at hl 0 rfl) ?_
  refine lv_sipush (v := 1024) hx hb dX5_init_5 (by decide) ?_
  refine lv_iconst (v := 0) hx hb dX5_init_8 (by decide) ?_
  refine lv_iload_n hx hb dX5_init_9 rfl (lv_at hl 1 rfl) ?_
  refine lv_iconst (v := 3) hx hb dX5_init_10 (by decide) ?_
  refine va_mmin hx hb (hml.trans hl.1.symm) hown (hts (.methodLink RX5 9 Lib.Math.min.name) (by decide +kernel)) (hts (.static Lib.Math.min.name) (by decide +kernel)) (hts (.initialized "java/lang/Math") (by decide +kernel)) (hts (.code Lib.Math.min.name Lib.Math.min.code 2 (some .int)) (by decide +kernel)) (Nat.le_of_ble_eq_true rfl) (Nat.le_of_ble_eq_true rfl) (Nat.le_of_ble_eq_true rfl) (Nat.le_of_ble_eq_true rfl) dX5_init_11 ?_
  refine va_mmax hx hb (hml.trans hl.1.symm) hown (hts (.methodLink RX5 15 Lib.Math.max.name) (by decide +kernel)) (hts (.static Lib.Math.max.name) (by decide +kernel)) (hts (.initialized "java/lang/Math") (by decide +kernel)) (hts (.code Lib.Math.max.name Lib.Math.max.code 2 (some .int)) (by decide +kernel)) (Nat.le_of_ble_eq_true rfl) (Nat.le_of_ble_eq_true rfl) (Nat.le_of_ble_eq_true rfl) (Nat.le_of_ble_eq_true rfl) dX5_init_14 ?_
  refine lv_imul hx hb dX5_init_17 ?_
  refine lv_topi (fun y9 e9 => ?_)
  rw [show (1024 * (if 0 < (if 3 < rg then 3 else rg) then (if 3 < rg then 3 else rg) else 0) : Int32) = k_base rg from rfl] at e9
  subst e9
  refine va_putF (D := g.1) (ci := 3) (v := .int (k_base rg)) (ty := .int) (C := RX5) (T := TX5) (N := 5) hx hb hts iX5 tyX5 tyX5_ok nmX5 hown hK hP hD hS 0 rfl rfl 0 (by decide) (hts (.fieldLink RX5 18 "FaultIsolation" "base" "I") (by decide +kernel)) (fun _ h9 => h9) rfl hin rfl (by decide +kernel) rfl rfl (Nat.le_of_ble_eq_true rfl) dX5_init_18 (fun H locs hP hD hS => ?_)
  have hP : va_P g.1 vwCl [(h, .inr (3, [.int (k_base rg), .null, .null, .null, .null]))] H := hP
  have hD : va_D A [(h, .inr (3, [.int (k_base rg), .null, .null, .null, .null]))] := hD
  refine lv_aload_n hx hb dX5_init_21 rfl (lv_at hl 0 rfl) ?_
  refine va_new (ci := 0) (fs := [.null, .int 0]) (C := RX0) (T := TX0) (N := 2) hx hb hts iX0 tyX0 tyX0_ok hown (hts (.classLink RX5 22 RX0) (by decide +kernel)) (hts (.instantiable RX0 2) (by decide +kernel)) (hts (.initialized RX0) (by decide +kernel)) hK hP hD hS hA rfl (fun j hj => by rcases (show j = 0 ∨ j = 1 by omega) with rfl | rfl <;> rfl) (Nat.le_of_ble_eq_true rfl) (Nat.le_of_ble_eq_true rfl) dX5_init_22 (fun qo0 H hP hD hS => ?_)
  have hP : va_P g.1 vwCl [(h, .inr (3, [.int (k_base rg), .null, .null, .null, .null])), (qo0, .inr (0, [.null, .int 0]))] H := hP
  have hD : va_D A [(h, .inr (3, [.int (k_base rg), .null, .null, .null, .null])), (qo0, .inr (0, [.null, .int 0]))] := hD
  refine lv_dup hx hb dX5_init_25 rfl ?_
  refine lv_sipush (v := 240) hx hb dX5_init_26 (by decide) ?_
  refine kvI (As := [.int 240]) (rest := [.ref qo0, .ref h]) (wc := [(qo0, .inr (0, [.null, .int 0]))]) (wr := [(h, .inr (3, [.int (k_base rg), .null, .null, .null, .null]))]) ⟨hx, hb, hml, hown, hts⟩ (c_X0_init240 l g qo0 0) (cwI 1 hts gX5_init_X0_init rfl rfl rfl (hts (.initialized RX0) (by decide +kernel)) (hts (.methodLink RX5 24 yX0_init) (by decide +kernel)) (hts (.instanceMethod yX0_init) (by decide +kernel)) rfl (by decide +kernel) ⟨Nat.le_of_ble_eq_true rfl, Nat.le_of_ble_eq_true rfl⟩) ⟨hK, hP, hD, hS, hA, hE, hN⟩ [1] [0] ⟨rfl, rfl, by decide⟩ rfl hl.1 (Nat.le_of_ble_eq_true rfl) dX5_init_29 ⟨Nat.le_of_ble_eq_true rfl, Nat.le_of_ble_eq_true rfl⟩ rfl (fun u H locs hw hP hD hS => ?_)
  obtain ⟨qn0_29, hw⟩ := hw
  subst hw
  have hP := hP.sub (ws' := [(h, .inr (3, [.int (k_base rg), .null, .null, .null, .null])), (qo0, .inr (0, [.ref qn0_29, .int 0])), (qn0_29, .inl (g.2.1.1, 240, .inl (fun _ => 0)))]) [0, 1, 2] rfl
  have hD := hD.sub (ws' := [(h, .inr (3, [.int (k_base rg), .null, .null, .null, .null])), (qo0, .inr (0, [.ref qn0_29, .int 0])), (qn0_29, .inl (g.2.1.1, 240, .inl (fun _ => 0)))]) [0, 1, 2] (by decide) rfl
  refine va_putF (D := g.1) (ci := 3) (v := .ref qo0) (ty := .object "FaultIsolation$Code") (C := RX5) (T := TX5) (N := 5) hx hb hts iX5 tyX5 tyX5_ok nmX5 hown hK hP hD hS 0 rfl rfl 1 (by decide) (hts (.fieldLink RX5 27 "FaultIsolation" "program" "LFaultIsolation$Code;") (by decide +kernel)) (fun _ h9 => h9) rfl hin rfl (by decide +kernel) rfl rfl (Nat.le_of_ble_eq_true rfl) dX5_init_32 (fun H locs hP hD hS => ?_)
  have hP : va_P g.1 vwCl [(h, .inr (3, [.int (k_base rg), .ref qo0, .null, .null, .null])), (qo0, .inr (0, [.ref qn0_29, .int 0])), (qn0_29, .inl (g.2.1.1, 240, .inl (fun _ => 0)))] H := hP
  have hD : va_D A [(h, .inr (3, [.int (k_base rg), .ref qo0, .null, .null, .null])), (qo0, .inr (0, [.ref qn0_29, .int 0])), (qn0_29, .inl (g.2.1.1, 240, .inl (fun _ => 0)))] := hD
  refine lv_aload_n hx hb dX5_init_35 rfl (lv_at hl 0 rfl) ?_
  refine va_new (ci := 0) (fs := [.null, .int 0]) (C := RX0) (T := TX0) (N := 2) hx hb hts iX0 tyX0 tyX0_ok hown (hts (.classLink RX5 22 RX0) (by decide +kernel)) (hts (.instantiable RX0 2) (by decide +kernel)) (hts (.initialized RX0) (by decide +kernel)) hK hP hD hS hA rfl (fun j hj => by rcases (show j = 0 ∨ j = 1 by omega) with rfl | rfl <;> rfl) (Nat.le_of_ble_eq_true rfl) (Nat.le_of_ble_eq_true rfl) dX5_init_36 (fun qo1 H hP hD hS => ?_)
  have hP : va_P g.1 vwCl [(h, .inr (3, [.int (k_base rg), .ref qo0, .null, .null, .null])), (qo0, .inr (0, [.ref qn0_29, .int 0])), (qn0_29, .inl (g.2.1.1, 240, .inl (fun _ => 0))), (qo1, .inr (0, [.null, .int 0]))] H := hP
  have hD : va_D A [(h, .inr (3, [.int (k_base rg), .ref qo0, .null, .null, .null])), (qo0, .inr (0, [.ref qn0_29, .int 0])), (qn0_29, .inl (g.2.1.1, 240, .inl (fun _ => 0))), (qo1, .inr (0, [.null, .int 0]))] := hD
  refine lv_dup hx hb dX5_init_39 rfl ?_
  refine lv_sipush (v := 1024) hx hb dX5_init_40 (by decide) ?_
  refine kvI (As := [.int 1024]) (rest := [.ref qo1, .ref h]) (wc := [(qo1, .inr (0, [.null, .int 0]))]) (wr := [(h, .inr (3, [.int (k_base rg), .ref qo0, .null, .null, .null])), (qo0, .inr (0, [.ref qn0_29, .int 0])), (qn0_29, .inl (g.2.1.1, 240, .inl (fun _ => 0)))]) ⟨hx, hb, hml, hown, hts⟩ (c_X0_init1024 l g qo1 0) (cwI 1 hts gX5_init_X0_init rfl rfl rfl (hts (.initialized RX0) (by decide +kernel)) (hts (.methodLink RX5 24 yX0_init) (by decide +kernel)) (hts (.instanceMethod yX0_init) (by decide +kernel)) rfl (by decide +kernel) ⟨Nat.le_of_ble_eq_true rfl, Nat.le_of_ble_eq_true rfl⟩) ⟨hK, hP, hD, hS, hA, hE, hN⟩ [3] [0, 1, 2] ⟨rfl, rfl, by decide⟩ rfl hl.1 (Nat.le_of_ble_eq_true rfl) dX5_init_43 ⟨Nat.le_of_ble_eq_true rfl, Nat.le_of_ble_eq_true rfl⟩ rfl (fun u H locs hw hP hD hS => ?_)
  obtain ⟨qn0_43, hw⟩ := hw
  subst hw
  have hP := hP.sub (ws' := [(h, .inr (3, [.int (k_base rg), .ref qo0, .null, .null, .null])), (qo0, .inr (0, [.ref qn0_29, .int 0])), (qn0_29, .inl (g.2.1.1, 240, .inl (fun _ => 0))), (qo1, .inr (0, [.ref qn0_43, .int 0])), (qn0_43, .inl (g.2.1.1, 1024, .inl (fun _ => 0)))]) [0, 1, 2, 3, 4] rfl
  have hD := hD.sub (ws' := [(h, .inr (3, [.int (k_base rg), .ref qo0, .null, .null, .null])), (qo0, .inr (0, [.ref qn0_29, .int 0])), (qn0_29, .inl (g.2.1.1, 240, .inl (fun _ => 0))), (qo1, .inr (0, [.ref qn0_43, .int 0])), (qn0_43, .inl (g.2.1.1, 1024, .inl (fun _ => 0)))]) [0, 1, 2, 3, 4] (by decide) rfl
  refine va_putF (D := g.1) (ci := 3) (v := .ref qo1) (ty := .object "FaultIsolation$Code") (C := RX5) (T := TX5) (N := 5) hx hb hts iX5 tyX5 tyX5_ok nmX5 hown hK hP hD hS 0 rfl rfl 2 (by decide) (hts (.fieldLink RX5 31 "FaultIsolation" "code" "LFaultIsolation$Code;") (by decide +kernel)) (fun _ h9 => h9) rfl hin rfl (by decide +kernel) rfl rfl (Nat.le_of_ble_eq_true rfl) dX5_init_46 (fun H locs hP hD hS => ?_)
  have hP : va_P g.1 vwCl [(h, .inr (3, [.int (k_base rg), .ref qo0, .ref qo1, .null, .null])), (qo0, .inr (0, [.ref qn0_29, .int 0])), (qn0_29, .inl (g.2.1.1, 240, .inl (fun _ => 0))), (qo1, .inr (0, [.ref qn0_43, .int 0])), (qn0_43, .inl (g.2.1.1, 1024, .inl (fun _ => 0)))] H := hP
  have hD : va_D A [(h, .inr (3, [.int (k_base rg), .ref qo0, .ref qo1, .null, .null])), (qo0, .inr (0, [.ref qn0_29, .int 0])), (qn0_29, .inl (g.2.1.1, 240, .inl (fun _ => 0))), (qo1, .inr (0, [.ref qn0_43, .int 0])), (qn0_43, .inl (g.2.1.1, 1024, .inl (fun _ => 0)))] := hD
  refine lv_aload_n hx hb dX5_init_49 rfl (lv_at hl 0 rfl) ?_
  refine va_new (ci := 2) (fs := [.int 0, .null, .null, .null, .int 0, .int 0]) (C := RX2) (T := TX2) (N := 6) hx hb hts iX2 tyX2 tyX2_ok hown (hts (.classLink RX5 34 RX2) (by decide +kernel)) (hts (.instantiable RX2 6) (by decide +kernel)) (hts (.initialized RX2) (by decide +kernel)) hK hP hD hS hA rfl (fun j hj => by rcases (show j = 0 ∨ j = 1 ∨ j = 2 ∨ j = 3 ∨ j = 4 ∨ j = 5 by omega) with rfl | rfl | rfl | rfl | rfl | rfl <;> rfl) (Nat.le_of_ble_eq_true rfl) (Nat.le_of_ble_eq_true rfl) dX5_init_50 (fun qo2 H hP hD hS => ?_)
  have hP : va_P g.1 vwCl [(h, .inr (3, [.int (k_base rg), .ref qo0, .ref qo1, .null, .null])), (qo0, .inr (0, [.ref qn0_29, .int 0])), (qn0_29, .inl (g.2.1.1, 240, .inl (fun _ => 0))), (qo1, .inr (0, [.ref qn0_43, .int 0])), (qn0_43, .inl (g.2.1.1, 1024, .inl (fun _ => 0))), (qo2, .inr (2, [.int 0, .null, .null, .null, .int 0, .int 0]))] H := hP
  have hD : va_D A [(h, .inr (3, [.int (k_base rg), .ref qo0, .ref qo1, .null, .null])), (qo0, .inr (0, [.ref qn0_29, .int 0])), (qn0_29, .inl (g.2.1.1, 240, .inl (fun _ => 0))), (qo1, .inr (0, [.ref qn0_43, .int 0])), (qn0_43, .inl (g.2.1.1, 1024, .inl (fun _ => 0))), (qo2, .inr (2, [.int 0, .null, .null, .null, .int 0, .int 0]))] := hD
  refine lv_dup hx hb dX5_init_53 rfl ?_
  refine lv_aload_n hx hb dX5_init_54 rfl (lv_at hl 0 rfl) ?_
  refine va_get (D := g.1) (ci := 3) (v := .int (k_base rg)) (C := RX5) (T := TX5) (N := 5) hx hb hts iX5 hown hK hP 0 rfl rfl 0 (by decide) (hts (.fieldLink RX5 18 "FaultIsolation" "base" "I") (by decide +kernel)) (fun _ h9 => h9) rfl dX5_init_55 ?_
  refine kvI (As := [.int (k_base rg)]) (rest := [.ref qo2, .ref h]) (wc := [(qo2, .inr (2, [.int 0, .null, .null, .null, .int 0, .int 0]))]) (wr := [(h, .inr (3, [.int (k_base rg), .ref qo0, .ref qo1, .null, .null])), (qo0, .inr (0, [.ref qn0_29, .int 0])), (qn0_29, .inl (g.2.1.1, 240, .inl (fun _ => 0))), (qo1, .inr (0, [.ref qn0_43, .int 0])), (qn0_43, .inl (g.2.1.1, 1024, .inl (fun _ => 0)))]) ⟨hx, hb, hml, hown, hts⟩ (c_X2_init l g qo2 (k_base rg) 0 0 0) (cwI 1 hts gX5_init_X2_init rfl rfl rfl (hts (.initialized RX2) (by decide +kernel)) (hts (.methodLink RX5 36 yX2_init) (by decide +kernel)) (hts (.instanceMethod yX2_init) (by decide +kernel)) rfl (by decide +kernel) ⟨Nat.le_of_ble_eq_true rfl, Nat.le_of_ble_eq_true rfl⟩) ⟨hK, hP, hD, hS, hA, hE, hN⟩ [5] [0, 1, 2, 3, 4] ⟨rfl, rfl, by decide⟩ rfl hl.1 (Nat.le_of_ble_eq_true rfl) dX5_init_58 ⟨Nat.le_of_ble_eq_true rfl, Nat.le_of_ble_eq_true rfl⟩ rfl (fun u H locs hw hP hD hS => ?_)
  obtain ⟨qn0_58, qn1_58, qn2_58, hw⟩ := hw
  subst hw
  have hP := hP.sub (ws' := [(h, .inr (3, [.int (k_base rg), .ref qo0, .ref qo1, .null, .null])), (qo0, .inr (0, [.ref qn0_29, .int 0])), (qn0_29, .inl (g.2.1.1, 240, .inl (fun _ => 0))), (qo1, .inr (0, [.ref qn0_43, .int 0])), (qn0_43, .inl (g.2.1.1, 1024, .inl (fun _ => 0))), (qo2, .inr (2, [.int (k_base rg), .ref qn0_58, .ref qn1_58, .ref qn2_58, .int 0, .int 0])), (qn0_58, .inl (g.2.1.2.1, 60, .inl (fun _ => 0))), (qn1_58, .inl (g.2.1.1, 60, .inl (fun _ => 0))), (qn2_58, .inl (g.2.1.1, 60, .inl (fun _ => 0)))]) [0, 1, 2, 3, 4, 5, 6, 7, 8] rfl
  have hD := hD.sub (ws' := [(h, .inr (3, [.int (k_base rg), .ref qo0, .ref qo1, .null, .null])), (qo0, .inr (0, [.ref qn0_29, .int 0])), (qn0_29, .inl (g.2.1.1, 240, .inl (fun _ => 0))), (qo1, .inr (0, [.ref qn0_43, .int 0])), (qn0_43, .inl (g.2.1.1, 1024, .inl (fun _ => 0))), (qo2, .inr (2, [.int (k_base rg), .ref qn0_58, .ref qn1_58, .ref qn2_58, .int 0, .int 0])), (qn0_58, .inl (g.2.1.2.1, 60, .inl (fun _ => 0))), (qn1_58, .inl (g.2.1.1, 60, .inl (fun _ => 0))), (qn2_58, .inl (g.2.1.1, 60, .inl (fun _ => 0)))]) [0, 1, 2, 3, 4, 5, 6, 7, 8] (by decide) rfl
  refine va_putF (D := g.1) (ci := 3) (v := .ref qo2) (ty := .object "FaultIsolation$Rewriter") (C := RX5) (T := TX5) (N := 5) hx hb hts iX5 tyX5 tyX5_ok nmX5 hown hK hP hD hS 0 rfl rfl 3 (by decide) (hts (.fieldLink RX5 37 "FaultIsolation" "rewriter" "LFaultIsolation$Rewriter;") (by decide +kernel)) (fun _ h9 => h9) rfl hin rfl (by decide +kernel) rfl rfl (Nat.le_of_ble_eq_true rfl) dX5_init_61 (fun H locs hP hD hS => ?_)
  have hP : va_P g.1 vwCl [(h, .inr (3, [.int (k_base rg), .ref qo0, .ref qo1, .ref qo2, .null])), (qo0, .inr (0, [.ref qn0_29, .int 0])), (qn0_29, .inl (g.2.1.1, 240, .inl (fun _ => 0))), (qo1, .inr (0, [.ref qn0_43, .int 0])), (qn0_43, .inl (g.2.1.1, 1024, .inl (fun _ => 0))), (qo2, .inr (2, [.int (k_base rg), .ref qn0_58, .ref qn1_58, .ref qn2_58, .int 0, .int 0])), (qn0_58, .inl (g.2.1.2.1, 60, .inl (fun _ => 0))), (qn1_58, .inl (g.2.1.1, 60, .inl (fun _ => 0))), (qn2_58, .inl (g.2.1.1, 60, .inl (fun _ => 0)))] H := hP
  have hD : va_D A [(h, .inr (3, [.int (k_base rg), .ref qo0, .ref qo1, .ref qo2, .null])), (qo0, .inr (0, [.ref qn0_29, .int 0])), (qn0_29, .inl (g.2.1.1, 240, .inl (fun _ => 0))), (qo1, .inr (0, [.ref qn0_43, .int 0])), (qn0_43, .inl (g.2.1.1, 1024, .inl (fun _ => 0))), (qo2, .inr (2, [.int (k_base rg), .ref qn0_58, .ref qn1_58, .ref qn2_58, .int 0, .int 0])), (qn0_58, .inl (g.2.1.2.1, 60, .inl (fun _ => 0))), (qn1_58, .inl (g.2.1.1, 60, .inl (fun _ => 0))), (qn2_58, .inl (g.2.1.1, 60, .inl (fun _ => 0)))] := hD
  refine lv_aload_n hx hb dX5_init_64 rfl (lv_at hl 0 rfl) ?_
  refine va_new (ci := 1) (fs := [.int 0, .null, .null, .int 0, .int 0, .int 0, .int 0, .int 0, .int 0]) (C := RX1) (T := TX1) (N := 9) hx hb hts iX1 tyX1 tyX1_ok hown (hts (.classLink RX5 41 RX1) (by decide +kernel)) (hts (.instantiable RX1 9) (by decide +kernel)) (hts (.initialized RX1) (by decide +kernel)) hK hP hD hS hA rfl (fun j hj => by rcases (show j = 0 ∨ j = 1 ∨ j = 2 ∨ j = 3 ∨ j = 4 ∨ j = 5 ∨ j = 6 ∨ j = 7 ∨ j = 8 by omega) with rfl | rfl | rfl | rfl | rfl | rfl | rfl | rfl | rfl <;> rfl) (Nat.le_of_ble_eq_true rfl) (Nat.le_of_ble_eq_true rfl) dX5_init_65 (fun qo3 H hP hD hS => ?_)
  have hP : va_P g.1 vwCl [(h, .inr (3, [.int (k_base rg), .ref qo0, .ref qo1, .ref qo2, .null])), (qo0, .inr (0, [.ref qn0_29, .int 0])), (qn0_29, .inl (g.2.1.1, 240, .inl (fun _ => 0))), (qo1, .inr (0, [.ref qn0_43, .int 0])), (qn0_43, .inl (g.2.1.1, 1024, .inl (fun _ => 0))), (qo2, .inr (2, [.int (k_base rg), .ref qn0_58, .ref qn1_58, .ref qn2_58, .int 0, .int 0])), (qn0_58, .inl (g.2.1.2.1, 60, .inl (fun _ => 0))), (qn1_58, .inl (g.2.1.1, 60, .inl (fun _ => 0))), (qn2_58, .inl (g.2.1.1, 60, .inl (fun _ => 0))), (qo3, .inr (1, [.int 0, .null, .null, .int 0, .int 0, .int 0, .int 0, .int 0, .int 0]))] H := hP
  have hD : va_D A [(h, .inr (3, [.int (k_base rg), .ref qo0, .ref qo1, .ref qo2, .null])), (qo0, .inr (0, [.ref qn0_29, .int 0])), (qn0_29, .inl (g.2.1.1, 240, .inl (fun _ => 0))), (qo1, .inr (0, [.ref qn0_43, .int 0])), (qn0_43, .inl (g.2.1.1, 1024, .inl (fun _ => 0))), (qo2, .inr (2, [.int (k_base rg), .ref qn0_58, .ref qn1_58, .ref qn2_58, .int 0, .int 0])), (qn0_58, .inl (g.2.1.2.1, 60, .inl (fun _ => 0))), (qn1_58, .inl (g.2.1.1, 60, .inl (fun _ => 0))), (qn2_58, .inl (g.2.1.1, 60, .inl (fun _ => 0))), (qo3, .inr (1, [.int 0, .null, .null, .int 0, .int 0, .int 0, .int 0, .int 0, .int 0]))] := hD
  refine lv_dup hx hb dX5_init_68 rfl ?_
  refine lv_aload_n hx hb dX5_init_69 rfl (lv_at hl 0 rfl) ?_
  refine va_get (D := g.1) (ci := 3) (v := .int (k_base rg)) (C := RX5) (T := TX5) (N := 5) hx hb hts iX5 hown hK hP 0 rfl rfl 0 (by decide) (hts (.fieldLink RX5 18 "FaultIsolation" "base" "I") (by decide +kernel)) (fun _ h9 => h9) rfl dX5_init_70 ?_
  refine kvI (As := [.int (k_base rg)]) (rest := [.ref qo3, .ref h]) (wc := [(qo3, .inr (1, [.int 0, .null, .null, .int 0, .int 0, .int 0, .int 0, .int 0, .int 0]))]) (wr := [(h, .inr (3, [.int (k_base rg), .ref qo0, .ref qo1, .ref qo2, .null])), (qo0, .inr (0, [.ref qn0_29, .int 0])), (qn0_29, .inl (g.2.1.1, 240, .inl (fun _ => 0))), (qo1, .inr (0, [.ref qn0_43, .int 0])), (qn0_43, .inl (g.2.1.1, 1024, .inl (fun _ => 0))), (qo2, .inr (2, [.int (k_base rg), .ref qn0_58, .ref qn1_58, .ref qn2_58, .int 0, .int 0])), (qn0_58, .inl (g.2.1.2.1, 60, .inl (fun _ => 0))), (qn1_58, .inl (g.2.1.1, 60, .inl (fun _ => 0))), (qn2_58, .inl (g.2.1.1, 60, .inl (fun _ => 0)))]) ⟨hx, hb, hml, hown, hts⟩ (c_X1_init l g qo3 (k_base rg) 0 0 0 0 0 0 0) (cwI 1 hts gX5_init_X1_init rfl rfl rfl (hts (.initialized RX1) (by decide +kernel)) (hts (.methodLink RX5 43 yX1_init) (by decide +kernel)) (hts (.instanceMethod yX1_init) (by decide +kernel)) rfl (by decide +kernel) ⟨Nat.le_of_ble_eq_true rfl, Nat.le_of_ble_eq_true rfl⟩) ⟨hK, hP, hD, hS, hA, hE, hN⟩ [9] [0, 1, 2, 3, 4, 5, 6, 7, 8] ⟨rfl, rfl, by decide⟩ rfl hl.1 (Nat.le_of_ble_eq_true rfl) dX5_init_73 ⟨Nat.le_of_ble_eq_true rfl, Nat.le_of_ble_eq_true rfl⟩ rfl (fun u H locs hw hP hD hS => ?_)
  obtain ⟨qn0_73, qn1_73, hw⟩ := hw
  subst hw
  have hP := hP.sub (ws' := [(h, .inr (3, [.int (k_base rg), .ref qo0, .ref qo1, .ref qo2, .null])), (qo0, .inr (0, [.ref qn0_29, .int 0])), (qn0_29, .inl (g.2.1.1, 240, .inl (fun _ => 0))), (qo1, .inr (0, [.ref qn0_43, .int 0])), (qn0_43, .inl (g.2.1.1, 1024, .inl (fun _ => 0))), (qo2, .inr (2, [.int (k_base rg), .ref qn0_58, .ref qn1_58, .ref qn2_58, .int 0, .int 0])), (qn0_58, .inl (g.2.1.2.1, 60, .inl (fun _ => 0))), (qn1_58, .inl (g.2.1.1, 60, .inl (fun _ => 0))), (qn2_58, .inl (g.2.1.1, 60, .inl (fun _ => 0))), (qo3, .inr (1, [.int (k_base rg), .ref qn0_73, .ref qn1_73, .int 0, .int 0, .int 0, .int 0, .int 0, .int (-1)])), (qn0_73, .inl (g.2.1.1, 8, .inl (fun _ => 0))), (qn1_73, .inl (g.2.1.1, 4096, .inl (fun _ => 0)))]) [0, 1, 2, 3, 4, 5, 6, 7, 8, 9, 10, 11] rfl
  have hD := hD.sub (ws' := [(h, .inr (3, [.int (k_base rg), .ref qo0, .ref qo1, .ref qo2, .null])), (qo0, .inr (0, [.ref qn0_29, .int 0])), (qn0_29, .inl (g.2.1.1, 240, .inl (fun _ => 0))), (qo1, .inr (0, [.ref qn0_43, .int 0])), (qn0_43, .inl (g.2.1.1, 1024, .inl (fun _ => 0))), (qo2, .inr (2, [.int (k_base rg), .ref qn0_58, .ref qn1_58, .ref qn2_58, .int 0, .int 0])), (qn0_58, .inl (g.2.1.2.1, 60, .inl (fun _ => 0))), (qn1_58, .inl (g.2.1.1, 60, .inl (fun _ => 0))), (qn2_58, .inl (g.2.1.1, 60, .inl (fun _ => 0))), (qo3, .inr (1, [.int (k_base rg), .ref qn0_73, .ref qn1_73, .int 0, .int 0, .int 0, .int 0, .int 0, .int (-1)])), (qn0_73, .inl (g.2.1.1, 8, .inl (fun _ => 0))), (qn1_73, .inl (g.2.1.1, 4096, .inl (fun _ => 0)))]) [0, 1, 2, 3, 4, 5, 6, 7, 8, 9, 10, 11] (by decide) rfl
  refine va_putF (D := g.1) (ci := 3) (v := .ref qo3) (ty := .object "FaultIsolation$Machine") (C := RX5) (T := TX5) (N := 5) hx hb hts iX5 tyX5 tyX5_ok nmX5 hown hK hP hD hS 0 rfl rfl 4 (by decide) (hts (.fieldLink RX5 44 "FaultIsolation" "machine" "LFaultIsolation$Machine;") (by decide +kernel)) (fun _ h9 => h9) rfl hin rfl (by decide +kernel) rfl rfl (Nat.le_of_ble_eq_true rfl) dX5_init_76 (fun H locs hP hD hS => ?_)
  have hP : va_P g.1 vwCl [(h, .inr (3, [.int (k_base rg), .ref qo0, .ref qo1, .ref qo2, .ref qo3])), (qo0, .inr (0, [.ref qn0_29, .int 0])), (qn0_29, .inl (g.2.1.1, 240, .inl (fun _ => 0))), (qo1, .inr (0, [.ref qn0_43, .int 0])), (qn0_43, .inl (g.2.1.1, 1024, .inl (fun _ => 0))), (qo2, .inr (2, [.int (k_base rg), .ref qn0_58, .ref qn1_58, .ref qn2_58, .int 0, .int 0])), (qn0_58, .inl (g.2.1.2.1, 60, .inl (fun _ => 0))), (qn1_58, .inl (g.2.1.1, 60, .inl (fun _ => 0))), (qn2_58, .inl (g.2.1.1, 60, .inl (fun _ => 0))), (qo3, .inr (1, [.int (k_base rg), .ref qn0_73, .ref qn1_73, .int 0, .int 0, .int 0, .int 0, .int 0, .int (-1)])), (qn0_73, .inl (g.2.1.1, 8, .inl (fun _ => 0))), (qn1_73, .inl (g.2.1.1, 4096, .inl (fun _ => 0)))] H := hP
  have hD : va_D A [(h, .inr (3, [.int (k_base rg), .ref qo0, .ref qo1, .ref qo2, .ref qo3])), (qo0, .inr (0, [.ref qn0_29, .int 0])), (qn0_29, .inl (g.2.1.1, 240, .inl (fun _ => 0))), (qo1, .inr (0, [.ref qn0_43, .int 0])), (qn0_43, .inl (g.2.1.1, 1024, .inl (fun _ => 0))), (qo2, .inr (2, [.int (k_base rg), .ref qn0_58, .ref qn1_58, .ref qn2_58, .int 0, .int 0])), (qn0_58, .inl (g.2.1.2.1, 60, .inl (fun _ => 0))), (qn1_58, .inl (g.2.1.1, 60, .inl (fun _ => 0))), (qn2_58, .inl (g.2.1.1, 60, .inl (fun _ => 0))), (qo3, .inr (1, [.int (k_base rg), .ref qn0_73, .ref qn1_73, .int 0, .int 0, .int 0, .int 0, .int 0, .int (-1)])), (qn0_73, .inl (g.2.1.1, 8, .inl (fun _ => 0))), (qn1_73, .inl (g.2.1.1, 4096, .inl (fun _ => 0)))] := hD
  exact k_vret hx hb hr hlocks ⟨hK, hP, hD, hS, hA, hE, hN⟩ dX5_init_79 (Nat.le_of_ble_eq_true rfl) (Nat.le_of_ble_eq_true rfl) ⟨qo0, qn0_29, qo1, qn0_43, qo2, qn0_58, qn1_58, qn2_58, qo3, qn0_73, qn1_73, rfl⟩
