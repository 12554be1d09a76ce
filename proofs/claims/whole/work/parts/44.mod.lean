theorem kz_up2 {n j : Nat} {f : Nat → Int32} (h : n ≤ j) : upd (kz n j f) j 0 = kz n (j + 1) f := by
  funext x
  by_cases hx : x = j
  · subst hx
    rw [pk_us, kz, if_pos ⟨h, Nat.lt_succ_self _⟩]
  · rw [pk_un hx]
    unfold kz
    by_cases h1 : n ≤ x ∧ x < j
    · rw [if_pos h1, if_pos ⟨h1.1, by omega⟩]
    · rw [if_neg h1, if_neg (by omega)]
theorem kz_fin {n j i : Nat} {f : Nat → Int32} (h : i ≤ j) (h2 : j ≤ i ∨ j = n) : kz n j f = kz n i f := by
  funext x
  unfold kz
  by_cases h1 : n ≤ x ∧ x < j
  · by_cases h3 : n ≤ x ∧ x < i
    · rw [if_pos h1, if_pos h3]
    · omega
  · rw [if_neg h1, if_neg (by omega)]
def bd_x (p0 : Int32) : Int32 := if p0 < 0 then 1 else (if p0 ≤ 64 then 0 else 1)

set_option maxHeartbeats 4000000 in
set_option maxRecDepth 100000 in
theorem c_X6_clear (l : Launch) (g : KG) (hO : Nat) (qP : Nat) (qN : Nat) (qY : Nat) (qD : Nat) (qR : Nat) (qM : Nat) (qT : Nat) (gr : Nat → Int32) (gm : Nat → Int32) (xT : Int32) (xB : Int32) (xC : Int32) (xP : Int32) (xS : Int32) (xA : Int32) (xw : Int32) (xa : Int32) (xb : Int32) (xc : Int32)  : Cv l g yX6_clear wsX6_clear ({ frames := 0, cells := 0, slots := 0, locals := 0 }) [.ref hO] [(hO, .inr (4, [.int xT, .int xB, .int xC, .ref qP, .int xP, .ref qN, .int xS, .ref qY, .ref qD, .int xA, .ref qR, .ref qM, .ref qT, .int xw, .int xa, .int xb, .int xc])), (qR, .inl (g.2.1.1, 8, .inl gr)), (qM, .inl (g.2.1.1, 4096, .inl gm))] (fun u => u = [(hO, .inr (4, [.int 0, .int xB, .int xC, .ref qP, .int xP, .ref qN, .int xS, .ref qY, .ref qD, .int xA, .ref qR, .ref qM, .ref qT, .int xw, .int xa, .int xb, .int xc])), (qR, .inl (g.2.1.1, 8, .inl (kz 0 8 gr))), (qM, .inl (g.2.1.1, 4096, .inl (kz 0 4096 gm)))]) 0 0 := by
  intro sz
  refine Met.ofW (cc := cX6_clear) (maxL := 2) (ret := none) (by decide) rfl ?_
  intro p e s m args below meth c s₁ B hml hv
  obtain ⟨rfl, hsz, hP, hK, hD0, hE, hN⟩ := hv
  have hx := B.exec
  have hb := B.bytes
  have hr := B.returns
  have hts := atoms_spec (ws := wsX6_clear) B.pre
  have hown : s.vm.findClass RX6 = some m.cls := findClass_of_methodNamed B.named
  have hlocks := B.notSynchronized
  have iX6 : ∀ w ∈ u_ws RX6 TX6 17, w ∈ wsX6_clear := by decide +kernel
  subst hsz
  have hD := hD0.self (sz := s.heap.size)
  generalize hAe : va_A [(hO, .inr (4, [.int xT, .int xB, .int xC, .ref qP, .int xP, .ref qN, .int xS, .ref qY, .ref qD, .int xA, .ref qR, .ref qM, .ref qT, .int xw, .int xa, .int xb, .int xc])), (qR, .inl (g.2.1.1, 8, .inl gr)), (qM, .inl (g.2.1.1, 4096, .inl gm))] s.heap.size = A at hD hE ⊢
  have hA : ∀ q : Nat, s.heap.size ≤ q → A q := fun q h => by rw [← hAe]; exact Or.inr h
  have hS : va_S A s.heap s.heap [] := va_S.rf
  have hl := lv_entry ([.ref hO]) (n := 2) (Nat.le_of_ble_eq_true rfl)
  rw [lg_entry_eq]
  generalize (lg_sl ([.ref hO]) ++ List.replicate (2 - (lg_sl ([.ref hO])).length) Slot.unset).toArray = ls at hl ⊢
  have hl : lv_has ls 2 [(0, .ref hO)] := hl
  refine lv_aload_n hx hb dX6_clear_0 rfl (lv_at hl 0 rfl) ?_
  refine lv_iconst (v := 0) hx hb dX6_clear_1 (by decide) ?_
  refine va_put (D := g.1) (ci := 4) (v := .int 0) (ty := .int) (C := RX6) (T := TX6) (N := 17) hx hb hts iX6 tyX6 tyX6_ok nmX6 hown hK hP hD hS 0 rfl rfl 0 (by decide) (hts (.fieldLink RX6 35 "FaultIsolationModel" "thrown" "I") (by decide +kernel)) (fun _ h9 => h9) rfl (by decide +kernel) rfl rfl (Nat.le_of_ble_eq_true rfl) dX6_clear_2 (fun H locs hP hD hS => ?_)
  have hP : va_P g.1 vwCl [(hO, .inr (4, [.int 0, .int xB, .int xC, .ref qP, .int xP, .ref qN, .int xS, .ref qY, .ref qD, .int xA, .ref qR, .ref qM, .ref qT, .int xw, .int xa, .int xb, .int xc])), (qR, .inl (g.2.1.1, 8, .inl gr)), (qM, .inl (g.2.1.1, 4096, .inl gm))] H := hP
  have hD : va_D A [(hO, .inr (4, [.int 0, .int xB, .int xC, .ref qP, .int xP, .ref qN, .int xS, .ref qY, .ref qD, .int xA, .ref qR, .ref qM, .ref qT, .int xw, .int xa, .int xb, .int xc])), (qR, .inl (g.2.1.1, 8, .inl gr)), (qM, .inl (g.2.1.1, 4096, .inl gm))] := hD
  refine lv_iconst (v := 0) hx hb dX6_clear_5 (by decide) ?_
  refine lv_istore_n (lv' := [(1, .int 0), (0, .ref hO)]) hx hb dX6_clear_6 rfl hl (by decide) rfl (fun ls hl => ?_)
  have loop_7 : ∀ (K : Nat) (j : Nat) (h2 : j ≤ 8), 8 - j < K → ∀ (H : Heap) (locs : List Loc) (ls : Array Slot), va_P g.1 vwCl [(hO, .inr (4, [.int 0, .int xB, .int xC, .ref qP, .int xP, .ref qN, .int xS, .ref qY, .ref qD, .int xA, .ref qR, .ref qM, .ref qT, .int xw, .int xa, .int xb, .int xc])), (qR, .inl (g.2.1.1, 8, .inl (kz 0 j gr))), (qM, .inl (g.2.1.1, 4096, .inl gm))] H → va_D A [(hO, .inr (4, [.int 0, .int xB, .int xC, .ref qP, .int xP, .ref qN, .int xS, .ref qY, .ref qD, .int xA, .ref qR, .ref qM, .ref qT, .int xw, .int xa, .int xb, .int xc])), (qR, .inl (g.2.1.1, 8, .inl (kz 0 j gr))), (qM, .inl (g.2.1.1, 4096, .inl gm))] → va_S A s.heap H locs → lv_has ls 2 [(0, .ref hO), (1, .int (nI j))] → W p l e (headSpec wsX6_clear ({ frames := 0, cells := 0, slots := 0, locals := 0 })).room s m ([.ref hO] : List Value).toArray below meth c H locs 0 0 (MQ below (va_Qv (fun u => u = [(hO, .inr (4, [.int 0, .int xB, .int xC, .ref qP, .int xP, .ref qN, .int xS, .ref qY, .ref qD, .int xA, .ref qR, .ref qM, .ref qT, .int xw, .int xa, .int xb, .int xc])), (qR, .inl (g.2.1.1, 8, .inl (kz 0 8 gr))), (qM, .inl (g.2.1.1, 4096, .inl (kz 0 4096 gm)))]) (SB g A) A) ([.ref hO] : List Value).toArray s 0 0 A) (F0 m 7 ls []) := by
    intro K
    induction K with
    | zero => intro j h2 hm; exact absurd hm (Nat.not_lt_zero _)
    | succ K ih =>
      intro j h2 hm H locs ls hP hD hS hl
      refine lv_iload_n hx hb dX6_clear_7 rfl (lv_at hl 1 rfl) ?_
      refine lv_bipush (v := 8) hx hb dX6_clear_8 (by decide) ?_
      refine lv_icmp_ge (tgt := 26) hx hb dX6_clear_10 (by decide) (fun c_0 => ?_) (fun c_0 => ?_)
      · skip
        have z_0 := k_leT (a := 8) (b := j) c_0 (by omega) (by omega)
        have e8 : j = 8 := by omega
        subst e8
        refine lv_iconst (v := 0) hx hb dX6_clear_26 (by decide) ?_
        refine lv_istore_n (lv' := [(1, .int 0), (0, .ref hO)]) hx hb dX6_clear_27 rfl hl (by decide) rfl (fun ls hl => ?_)
        have loop_28 : ∀ (K : Nat) (j : Nat) (h2 : j ≤ 4096), 4096 - j < K → ∀ (H : Heap) (locs : List Loc) (ls : Array Slot), va_P g.1 vwCl [(hO, .inr (4, [.int 0, .int xB, .int xC, .ref qP, .int xP, .ref qN, .int xS, .ref qY, .ref qD, .int xA, .ref qR, .ref qM, .ref qT, .int xw, .int xa, .int xb, .int xc])), (qR, .inl (g.2.1.1, 8, .inl (kz 0 8 gr))), (qM, .inl (g.2.1.1, 4096, .inl (kz 0 j gm)))] H → va_D A [(hO, .inr (4, [.int 0, .int xB, .int xC, .ref qP, .int xP, .ref qN, .int xS, .ref qY, .ref qD, .int xA, .ref qR, .ref qM, .ref qT, .int xw, .int xa, .int xb, .int xc])), (qR, .inl (g.2.1.1, 8, .inl (kz 0 8 gr))), (qM, .inl (g.2.1.1, 4096, .inl (kz 0 j gm)))] → va_S A s.heap H locs → lv_has ls 2 [(0, .ref hO), (1, .int (nI j))] → W p l e (headSpec wsX6_clear ({ frames := 0, cells := 0, slots := 0, locals := 0 })).room s m ([.ref hO] : List Value).toArray below meth c H locs 0 0 (MQ below (va_Qv (fun u => u = [(hO, .inr (4, [.int 0, .int xB, .int xC, .ref qP, .int xP, .ref qN, .int xS, .ref qY, .ref qD, .int xA, .ref qR, .ref qM, .ref qT, .int xw, .int xa, .int xb, .int xc])), (qR, .inl (g.2.1.1, 8, .inl (kz 0 8 gr))), (qM, .inl (g.2.1.1, 4096, .inl (kz 0 4096 gm)))]) (SB g A) A) ([.ref hO] : List Value).toArray s 0 0 A) (F0 m 28 ls []) := by
          intro K
          induction K with
          | zero => intro j h2 hm; exact absurd hm (Nat.not_lt_zero _)
          | succ K ih =>
            intro j h2 hm H locs ls hP hD hS hl
            refine lv_iload_n hx hb dX6_clear_28 rfl (lv_at hl 1 rfl) ?_
            refine lv_sipush (v := 4096) hx hb dX6_clear_29 (by decide) ?_
            refine lv_icmp_ge (tgt := 48) hx hb dX6_clear_32 (by decide) (fun c_1 => ?_) (fun c_1 => ?_)
            · skip
              have z_1 := k_leT (a := 4096) (b := j) c_1 (by omega) (by omega)
              have e4096 : j = 4096 := by omega
              subst e4096
              exact k_vret hx hb hr hlocks ⟨hK, hP, hD, hS, hA, hE, hN⟩ dX6_clear_48 (Nat.le_of_ble_eq_true rfl) (Nat.le_of_ble_eq_true rfl) rfl
            · skip
              have z_1 := k_leF (a := 4096) (b := j) c_1 (by omega) (by omega)
              refine lv_aload_n hx hb dX6_clear_35 rfl (lv_at hl 0 rfl) ?_
              refine va_get (D := g.1) (ci := 4) (v := .ref qM) (C := RX6) (T := TX6) (N := 17) hx hb hts iX6 hown hK hP 0 rfl rfl 11 (by decide) (hts (.fieldLink RX6 25 "FaultIsolationModel" "memory" "[I") (by decide +kernel)) (fun _ h9 => h9) rfl dX6_clear_36 ?_
              refine lv_iload_n hx hb dX6_clear_39 rfl (lv_at hl 1 rfl) ?_
              refine lv_iconst (v := 0) hx hb dX6_clear_40 (by decide) ?_
              refine va_iast hx hb hK hP hD hS 2 0 rfl rfl (vp_in_nI (by omega) (by decide)) dX6_clear_41 (fun H locs hP hD hS => ?_)
              rw [nI_clamp (show j < 2 ^ 31 by omega)] at hP hD
              have hP : va_P g.1 vwCl [(hO, .inr (4, [.int 0, .int xB, .int xC, .ref qP, .int xP, .ref qN, .int xS, .ref qY, .ref qD, .int xA, .ref qR, .ref qM, .ref qT, .int xw, .int xa, .int xb, .int xc])), (qR, .inl (g.2.1.1, 8, .inl (kz 0 8 gr))), (qM, .inl (g.2.1.1, 4096, .inl (upd (kz 0 j gm) j 0)))] H := hP
              have hD : va_D A [(hO, .inr (4, [.int 0, .int xB, .int xC, .ref qP, .int xP, .ref qN, .int xS, .ref qY, .ref qD, .int xA, .ref qR, .ref qM, .ref qT, .int xw, .int xa, .int xb, .int xc])), (qR, .inl (g.2.1.1, 8, .inl (kz 0 8 gr))), (qM, .inl (g.2.1.1, 4096, .inl (upd (kz 0 j gm) j 0)))] := hD
              refine lv_iinc (v := (nI (j + 1))) (lv' := [(1, .int (nI (j + 1))), (0, .ref hO)]) hx hb dX6_clear_42 hl (k := 1) rfl (nI_add _ _) (by decide) rfl (fun ls hl => ?_)
              refine lv_goto (tgt := 28) hx hb dX6_clear_45 (by decide) ?_
              rw [show (upd (kz 0 j gm) j 0 : Nat → Int32) = kz 0 (j + 1) gm from kz_up2 (Nat.zero_le _)] at hP hD
              exact ih (j + 1) (by omega) (by omega) _ _ _ hP hD hS (lv_sub hl [1, 0] rfl)
        rw [show (gm : Nat → Int32) = kz 0 0 gm from kz_0.symm] at hP hD
        exact loop_28 (4096 - 0 + 1) 0 (Nat.zero_le _) (Nat.lt_succ_self _) _ _ _ hP hD hS (lv_sub hl [1, 0] rfl)
      · skip
        have z_0 := k_leF (a := 8) (b := j) c_0 (by omega) (by omega)
        refine lv_aload_n hx hb dX6_clear_13 rfl (lv_at hl 0 rfl) ?_
        refine va_get (D := g.1) (ci := 4) (v := .ref qR) (C := RX6) (T := TX6) (N := 17) hx hb hts iX6 hown hK hP 0 rfl rfl 10 (by decide) (hts (.fieldLink RX6 22 "FaultIsolationModel" "registers" "[I") (by decide +kernel)) (fun _ h9 => h9) rfl dX6_clear_14 ?_
        refine lv_iload_n hx hb dX6_clear_17 rfl (lv_at hl 1 rfl) ?_
        refine lv_iconst (v := 0) hx hb dX6_clear_18 (by decide) ?_
        refine va_iast hx hb hK hP hD hS 1 0 rfl rfl (vp_in_nI (by omega) (by decide)) dX6_clear_19 (fun H locs hP hD hS => ?_)
        rw [nI_clamp (show j < 2 ^ 31 by omega)] at hP hD
        have hP : va_P g.1 vwCl [(hO, .inr (4, [.int 0, .int xB, .int xC, .ref qP, .int xP, .ref qN, .int xS, .ref qY, .ref qD, .int xA, .ref qR, .ref qM, .ref qT, .int xw, .int xa, .int xb, .int xc])), (qR, .inl (g.2.1.1, 8, .inl (upd (kz 0 j gr) j 0))), (qM, .inl (g.2.1.1, 4096, .inl gm))] H := hP
        have hD : va_D A [(hO, .inr (4, [.int 0, .int xB, .int xC, .ref qP, .int xP, .ref qN, .int xS, .ref qY, .ref qD, .int xA, .ref qR, .ref qM, .ref qT, .int xw, .int xa, .int xb, .int xc])), (qR, .inl (g.2.1.1, 8, .inl (upd (kz 0 j gr) j 0))), (qM, .inl (g.2.1.1, 4096, .inl gm))] := hD
        refine lv_iinc (v := (nI (j + 1))) (lv' := [(1, .int (nI (j + 1))), (0, .ref hO)]) hx hb dX6_clear_20 hl (k := 1) rfl (nI_add _ _) (by decide) rfl (fun ls hl => ?_)
        refine lv_goto (tgt := 7) hx hb dX6_clear_23 (by decide) ?_
        rw [show (upd (kz 0 j gr) j 0 : Nat → Int32) = kz 0 (j + 1) gr from kz_up2 (Nat.zero_le _)] at hP hD
        exact ih (j + 1) (by omega) (by omega) _ _ _ hP hD hS (lv_sub hl [1, 0] rfl)
  rw [show (gr : Nat → Int32) = kz 0 0 gr from kz_0.symm] at hP hD
  exact loop_7 (8 - 0 + 1) 0 (Nat.zero_le _) (Nat.lt_succ_self _) _ _ _ hP hD hS (lv_sub hl [1, 0] rfl)

set_option maxHeartbeats 4000000 in
set_option maxRecDepth 100000 in
theorem c_X6_bundles (l : Launch) (g : KG) (hO : Nat) (qP : Nat) (qN : Nat) (qY : Nat) (qD : Nat) (qR : Nat) (qM : Nat) (qT : Nat) (gb : Nat → Int32) (xT : Int32) (xB : Int32) (xC : Int32) (xP : Int32) (b : Nat) (xA : Int32) (xw : Int32) (xa : Int32) (xb : Int32) (xc : Int32) (p0 : Int32) (hbb : b ≤ 64) : Cv l g yX6_bundles wsX6_bundles ({ frames := 0, cells := 0, slots := 0, locals := 0 }) [.ref hO, .int p0] [(hO, .inr (4, [.int xT, .int xB, .int xC, .ref qP, .int xP, .ref qN, .int (nI (16 * b)), .ref qY, .ref qD, .int xA, .ref qR, .ref qM, .ref qT, .int xw, .int xa, .int xb, .int xc])), (qY, .inl (g.2.1.1, 1024, .inl gb))] (fun u => u = [(hO, .inr (4, [.int (bd_x p0), .int xB, .int xC, .ref qP, .int (if bd_x p0 = 0 then 0 else xP), .ref qN, .int (if bd_x p0 = 0 then nI (16 * p0.toNatClampNeg) else nI (16 * b)), .ref qY, .ref qD, .int xA, .ref qR, .ref qM, .ref qT, .int xw, .int xa, .int xb, .int xc])), (qY, .inl (g.2.1.1, 1024, .inl (if bd_x p0 = 0 then kz (16 * b) (16 * p0.toNatClampNeg) gb else gb)))]) 0 0 := by
  intro sz
  refine Met.ofW (cc := cX6_bundles) (maxL := 3) (ret := none) (by decide) rfl ?_
  intro p e s m args below meth c s₁ B hml hv
  obtain ⟨rfl, hsz, hP, hK, hD0, hE, hN⟩ := hv
  have hx := B.exec
  have hb := B.bytes
  have hr := B.returns
  have hts := atoms_spec (ws := wsX6_bundles) B.pre
  have hown : s.vm.findClass RX6 = some m.cls := findClass_of_methodNamed B.named
  have hlocks := B.notSynchronized
  have iX6 : ∀ w ∈ u_ws RX6 TX6 17, w ∈ wsX6_bundles := by decide +kernel
  subst hsz
  have hD := hD0.self (sz := s.heap.size)
  generalize hAe : va_A [(hO, .inr (4, [.int xT, .int xB, .int xC, .ref qP, .int xP, .ref qN, .int (nI (16 * b)), .ref qY, .ref qD, .int xA, .ref qR, .ref qM, .ref qT, .int xw, .int xa, .int xb, .int xc])), (qY, .inl (g.2.1.1, 1024, .inl gb))] s.heap.size = A at hD hE ⊢
  have hA : ∀ q : Nat, s.heap.size ≤ q → A q := fun q h => by rw [← hAe]; exact Or.inr h
  have hS : va_S A s.heap s.heap [] := va_S.rf
  have hl := lv_entry ([.ref hO, .int p0]) (n := 3) (Nat.le_of_ble_eq_true rfl)
  rw [lg_entry_eq]
  generalize (lg_sl ([.ref hO, .int p0]) ++ List.replicate (3 - (lg_sl ([.ref hO, .int p0])).length) Slot.unset).toArray = ls at hl ⊢
  have hl : lv_has ls 3 [(0, .ref hO), (1, .int p0)] := hl
  refine lv_aload_n hx hb dX6_bundles_0 rfl (lv_at hl 0 rfl) ?_
  refine lv_iload_n hx hb dX6_bundles_1 rfl (lv_at hl 1 rfl) ?_
  refine lv_if_lt (tgt := 11) hx hb dX6_bundles_2 (by decide) (fun c_0 => ?_) (fun c_0 => ?_)
  · skip
    refine lv_iconst (v := 1) hx hb dX6_bundles_11 (by decide) ?_
    refine lv_goto (tgt := 16) hx hb dX6_bundles_12 (by decide) ?_
    refine va_put (D := g.1) (ci := 4) (v := .int 1) (ty := .int) (C := RX6) (T := TX6) (N := 17) hx hb hts iX6 tyX6 tyX6_ok nmX6 hown hK hP hD hS 0 rfl rfl 0 (by decide) (hts (.fieldLink RX6 35 "FaultIsolationModel" "thrown" "I") (by decide +kernel)) (fun _ h9 => h9) rfl (by decide +kernel) rfl rfl (Nat.le_of_ble_eq_true rfl) dX6_bundles_16 (fun H locs hP hD hS => ?_)
    have hP : va_P g.1 vwCl [(hO, .inr (4, [.int 1, .int xB, .int xC, .ref qP, .int xP, .ref qN, .int (nI (16 * b)), .ref qY, .ref qD, .int xA, .ref qR, .ref qM, .ref qT, .int xw, .int xa, .int xb, .int xc])), (qY, .inl (g.2.1.1, 1024, .inl gb))] H := hP
    have hD : va_D A [(hO, .inr (4, [.int 1, .int xB, .int xC, .ref qP, .int xP, .ref qN, .int (nI (16 * b)), .ref qY, .ref qD, .int xA, .ref qR, .ref qM, .ref qT, .int xw, .int xa, .int xb, .int xc])), (qY, .inl (g.2.1.1, 1024, .inl gb))] := hD
    refine lv_aload_n hx hb dX6_bundles_19 rfl (lv_at hl 0 rfl) ?_
    refine va_get (D := g.1) (ci := 4) (v := .int 1) (C := RX6) (T := TX6) (N := 17) hx hb hts iX6 hown hK hP 0 rfl rfl 0 (by decide) (hts (.fieldLink RX6 35 "FaultIsolationModel" "thrown" "I") (by decide +kernel)) (fun _ h9 => h9) rfl dX6_bundles_20 ?_
    refine lv_if_ne (tgt := 65) hx hb dX6_bundles_23 (by decide) (fun _ => ?_) (fun c_1 => absurd c_1 (by decide))
    exact k_vret hx hb hr hlocks ⟨hK, hP, hD, hS, hA, hE, hN⟩ dX6_bundles_65 (Nat.le_of_ble_eq_true rfl) (Nat.le_of_ble_eq_true rfl) (by simp only [bd_x, if_pos c_0]; rfl)
  · skip
    refine lv_iload_n hx hb dX6_bundles_5 rfl (lv_at hl 1 rfl) ?_
    refine lv_bipush (v := 64) hx hb dX6_bundles_6 (by decide) ?_
    refine lv_icmp_le (tgt := 15) hx hb dX6_bundles_8 (by decide) (fun c_2 => ?_) (fun c_2 => ?_)
    · skip
      refine lv_iconst (v := 0) hx hb dX6_bundles_15 (by decide) ?_
      refine va_put (D := g.1) (ci := 4) (v := .int 0) (ty := .int) (C := RX6) (T := TX6) (N := 17) hx hb hts iX6 tyX6 tyX6_ok nmX6 hown hK hP hD hS 0 rfl rfl 0 (by decide) (hts (.fieldLink RX6 35 "FaultIsolationModel" "thrown" "I") (by decide +kernel)) (fun _ h9 => h9) rfl (by decide +kernel) rfl rfl (Nat.le_of_ble_eq_true rfl) dX6_bundles_16 (fun H locs hP hD hS => ?_)
      have hP : va_P g.1 vwCl [(hO, .inr (4, [.int 0, .int xB, .int xC, .ref qP, .int xP, .ref qN, .int (nI (16 * b)), .ref qY, .ref qD, .int xA, .ref qR, .ref qM, .ref qT, .int xw, .int xa, .int xb, .int xc])), (qY, .inl (g.2.1.1, 1024, .inl gb))] H := hP
      have hD : va_D A [(hO, .inr (4, [.int 0, .int xB, .int xC, .ref qP, .int xP, .ref qN, .int (nI (16 * b)), .ref qY, .ref qD, .int xA, .ref qR, .ref qM, .ref qT, .int xw, .int xa, .int xb, .int xc])), (qY, .inl (g.2.1.1, 1024, .inl gb))] := hD
      refine lv_aload_n hx hb dX6_bundles_19 rfl (lv_at hl 0 rfl) ?_
      refine va_get (D := g.1) (ci := 4) (v := .int 0) (C := RX6) (T := TX6) (N := 17) hx hb hts iX6 hown hK hP 0 rfl rfl 0 (by decide) (hts (.fieldLink RX6 35 "FaultIsolationModel" "thrown" "I") (by decide +kernel)) (fun _ h9 => h9) rfl dX6_bundles_20 ?_
      refine lv_if_ne (tgt := 65) hx hb dX6_bundles_23 (by decide) (fun c_3 => absurd c_3 (by decide)) (fun _ => ?_)
      have zp := k_clle (m := 64) c_0 c_2 (by omega)
      refine lv_aload_n hx hb dX6_bundles_26 rfl (lv_at hl 0 rfl) ?_
      refine va_get (D := g.1) (ci := 4) (v := .int (nI (16 * b))) (C := RX6) (T := TX6) (N := 17) hx hb hts iX6 hown hK hP 0 rfl rfl 6 (by decide) (hts (.fieldLink RX6 109 "FaultIsolationModel" "size" "I") (by decide +kernel)) (fun _ h9 => h9) rfl dX6_bundles_27 ?_
      refine lv_istore_n (lv' := [(2, .int (nI (16 * b))), (0, .ref hO), (1, .int p0)]) hx hb dX6_bundles_30 rfl hl (by decide) rfl (fun ls hl => ?_)
      have loop_31 : ∀ (K : Nat) (j : Nat) (h1 : 16 * b ≤ j) (h2 : j ≤ 16 * p0.toNatClampNeg ∨ j = 16 * b), 1024 - j < K → ∀ (H : Heap) (locs : List Loc) (ls : Array Slot), va_P g.1 vwCl [(hO, .inr (4, [.int 0, .int xB, .int xC, .ref qP, .int xP, .ref qN, .int (nI (16 * b)), .ref qY, .ref qD, .int xA, .ref qR, .ref qM, .ref qT, .int xw, .int xa, .int xb, .int xc])), (qY, .inl (g.2.1.1, 1024, .inl (kz (16 * b) j gb)))] H → va_D A [(hO, .inr (4, [.int 0, .int xB, .int xC, .ref qP, .int xP, .ref qN, .int (nI (16 * b)), .ref qY, .ref qD, .int xA, .ref qR, .ref qM, .ref qT, .int xw, .int xa, .int xb, .int xc])), (qY, .inl (g.2.1.1, 1024, .inl (kz (16 * b) j gb)))] → va_S A s.heap H locs → lv_has ls 3 [(0, .ref hO), (1, .int p0), (2, .int (nI j))] → W p l e (headSpec wsX6_bundles ({ frames := 0, cells := 0, slots := 0, locals := 0 })).room s m ([.ref hO, .int p0] : List Value).toArray below meth c H locs 0 0 (MQ below (va_Qv (fun u => u = [(hO, .inr (4, [.int (bd_x p0), .int xB, .int xC, .ref qP, .int (if bd_x p0 = 0 then 0 else xP), .ref qN, .int (if bd_x p0 = 0 then nI (16 * p0.toNatClampNeg) else nI (16 * b)), .ref qY, .ref qD, .int xA, .ref qR, .ref qM, .ref qT, .int xw, .int xa, .int xb, .int xc])), (qY, .inl (g.2.1.1, 1024, .inl (if bd_x p0 = 0 then kz (16 * b) (16 * p0.toNatClampNeg) gb else gb)))]) (SB g A) A) ([.ref hO, .int p0] : List Value).toArray s 0 0 A) (F0 m 31 ls []) := by
        intro K
        induction K with
        | zero => intro j h1 h2 hm; exact absurd hm (Nat.not_lt_zero _)
        | succ K ih =>
          intro j h1 h2 hm H locs ls hP hD hS hl
          refine lv_iload_n hx hb dX6_bundles_31 rfl (lv_at hl 2 rfl) ?_
          refine lv_bipush (v := 16) hx hb dX6_bundles_32 (by decide) ?_
          refine lv_iload_n hx hb dX6_bundles_34 rfl (lv_at hl 1 rfl) ?_
          refine lv_imul hx hb dX6_bundles_35 ?_
          refine lv_topi (fun y9 e9 => ?_)
          rw [show (16 * p0 : Int32) = nI (16 * p0.toNatClampNeg) from k_mulc 16 c_0] at e9
          subst e9
          refine lv_icmp_ge (tgt := 52) hx hb dX6_bundles_36 (by decide) (fun c_4 => ?_) (fun c_4 => ?_)
          · skip
            have z_4 := k_leT (a := 16 * p0.toNatClampNeg) (b := j) c_4 (by omega) (by omega)
            refine lv_aload_n hx hb dX6_bundles_52 rfl (lv_at hl 0 rfl) ?_
            refine lv_bipush (v := 16) hx hb dX6_bundles_53 (by decide) ?_
            refine lv_iload_n hx hb dX6_bundles_55 rfl (lv_at hl 1 rfl) ?_
            refine lv_imul hx hb dX6_bundles_56 ?_
            refine lv_topi (fun y9 e9 => ?_)
            rw [show (16 * p0 : Int32) = nI (16 * p0.toNatClampNeg) from k_mulc 16 c_0] at e9
            subst e9
            refine va_put (D := g.1) (ci := 4) (v := .int (nI (16 * p0.toNatClampNeg))) (ty := .int) (C := RX6) (T := TX6) (N := 17) hx hb hts iX6 tyX6 tyX6_ok nmX6 hown hK hP hD hS 0 rfl rfl 6 (by decide) (hts (.fieldLink RX6 109 "FaultIsolationModel" "size" "I") (by decide +kernel)) (fun _ h9 => h9) rfl (by decide +kernel) rfl rfl (Nat.le_of_ble_eq_true rfl) dX6_bundles_57 (fun H locs hP hD hS => ?_)
            have hP : va_P g.1 vwCl [(hO, .inr (4, [.int 0, .int xB, .int xC, .ref qP, .int xP, .ref qN, .int (nI (16 * p0.toNatClampNeg)), .ref qY, .ref qD, .int xA, .ref qR, .ref qM, .ref qT, .int xw, .int xa, .int xb, .int xc])), (qY, .inl (g.2.1.1, 1024, .inl (kz (16 * b) j gb)))] H := hP
            have hD : va_D A [(hO, .inr (4, [.int 0, .int xB, .int xC, .ref qP, .int xP, .ref qN, .int (nI (16 * p0.toNatClampNeg)), .ref qY, .ref qD, .int xA, .ref qR, .ref qM, .ref qT, .int xw, .int xa, .int xb, .int xc])), (qY, .inl (g.2.1.1, 1024, .inl (kz (16 * b) j gb)))] := hD
            refine lv_aload_n hx hb dX6_bundles_60 rfl (lv_at hl 0 rfl) ?_
            refine lv_iconst (v := 0) hx hb dX6_bundles_61 (by decide) ?_
            refine va_put (D := g.1) (ci := 4) (v := .int 0) (ty := .int) (C := RX6) (T := TX6) (N := 17) hx hb hts iX6 tyX6 tyX6_ok nmX6 hown hK hP hD hS 0 rfl rfl 4 (by decide) (hts (.fieldLink RX6 112 "FaultIsolationModel" "places" "I") (by decide +kernel)) (fun _ h9 => h9) rfl (by decide +kernel) rfl rfl (Nat.le_of_ble_eq_true rfl) dX6_bundles_62 (fun H locs hP hD hS => ?_)
            have hP : va_P g.1 vwCl [(hO, .inr (4, [.int 0, .int xB, .int xC, .ref qP, .int 0, .ref qN, .int (nI (16 * p0.toNatClampNeg)), .ref qY, .ref qD, .int xA, .ref qR, .ref qM, .ref qT, .int xw, .int xa, .int xb, .int xc])), (qY, .inl (g.2.1.1, 1024, .inl (kz (16 * b) j gb)))] H := hP
            have hD : va_D A [(hO, .inr (4, [.int 0, .int xB, .int xC, .ref qP, .int 0, .ref qN, .int (nI (16 * p0.toNatClampNeg)), .ref qY, .ref qD, .int xA, .ref qR, .ref qM, .ref qT, .int xw, .int xa, .int xb, .int xc])), (qY, .inl (g.2.1.1, 1024, .inl (kz (16 * b) j gb)))] := hD
            exact k_vret hx hb hr hlocks ⟨hK, hP, hD, hS, hA, hE, hN⟩ dX6_bundles_65 (Nat.le_of_ble_eq_true rfl) (Nat.le_of_ble_eq_true rfl) (by rw [kz_fin (i := 16 * p0.toNatClampNeg) (by omega) h2]; simp only [bd_x, if_neg c_0, if_pos c_2]; rfl)
          · skip
            have z_4 := k_leF (a := 16 * p0.toNatClampNeg) (b := j) c_4 (by omega) (by omega)
            refine lv_aload_n hx hb dX6_bundles_39 rfl (lv_at hl 0 rfl) ?_
            refine va_get (D := g.1) (ci := 4) (v := .ref qY) (C := RX6) (T := TX6) (N := 17) hx hb hts iX6 hown hK hP 0 rfl rfl 7 (by decide) (hts (.fieldLink RX6 16 "FaultIsolationModel" "bytes" "[I") (by decide +kernel)) (fun _ h9 => h9) rfl dX6_bundles_40 ?_
            refine lv_iload_n hx hb dX6_bundles_43 rfl (lv_at hl 2 rfl) ?_
            refine lv_iconst (v := 0) hx hb dX6_bundles_44 (by decide) ?_
            refine va_iast hx hb hK hP hD hS 1 0 rfl rfl (vp_in_nI (by omega) (by decide)) dX6_bundles_45 (fun H locs hP hD hS => ?_)
            rw [nI_clamp (show j < 2 ^ 31 by omega)] at hP hD
            have hP : va_P g.1 vwCl [(hO, .inr (4, [.int 0, .int xB, .int xC, .ref qP, .int xP, .ref qN, .int (nI (16 * b)), .ref qY, .ref qD, .int xA, .ref qR, .ref qM, .ref qT, .int xw, .int xa, .int xb, .int xc])), (qY, .inl (g.2.1.1, 1024, .inl (upd (kz (16 * b) j gb) j 0)))] H := hP
            have hD : va_D A [(hO, .inr (4, [.int 0, .int xB, .int xC, .ref qP, .int xP, .ref qN, .int (nI (16 * b)), .ref qY, .ref qD, .int xA, .ref qR, .ref qM, .ref qT, .int xw, .int xa, .int xb, .int xc])), (qY, .inl (g.2.1.1, 1024, .inl (upd (kz (16 * b) j gb) j 0)))] := hD
            refine lv_iinc (v := (nI (j + 1))) (lv' := [(2, .int (nI (j + 1))), (0, .ref hO), (1, .int p0)]) hx hb dX6_bundles_46 hl (k := 2) rfl (nI_add _ _) (by decide) rfl (fun ls hl => ?_)
            refine lv_goto (tgt := 31) hx hb dX6_bundles_49 (by decide) ?_
            rw [show (upd (kz (16 * b) j gb) j 0 : Nat → Int32) = kz (16 * b) (j + 1) gb from kz_up2 h1] at hP hD
            exact ih (j + 1) (by omega) (by omega) (by omega) _ _ _ hP hD hS (lv_sub hl [1, 2, 0] rfl)
      rw [show (gb : Nat → Int32) = kz (16 * b) (16 * b) gb from kz_0.symm] at hP hD
      exact loop_31 (1024 - (16 * b) + 1) (16 * b) (Nat.le_refl _) (Or.inr rfl) (Nat.lt_succ_self _) _ _ _ hP hD hS (lv_sub hl [1, 2, 0] rfl)
    · skip
      refine lv_iconst (v := 1) hx hb dX6_bundles_11 (by decide) ?_
      refine lv_goto (tgt := 16) hx hb dX6_bundles_12 (by decide) ?_
      refine va_put (D := g.1) (ci := 4) (v := .int 1) (ty := .int) (C := RX6) (T := TX6) (N := 17) hx hb hts iX6 tyX6 tyX6_ok nmX6 hown hK hP hD hS 0 rfl rfl 0 (by decide) (hts (.fieldLink RX6 35 "FaultIsolationModel" "thrown" "I") (by decide +kernel)) (fun _ h9 => h9) rfl (by decide +kernel) rfl rfl (Nat.le_of_ble_eq_true rfl) dX6_bundles_16 (fun H locs hP hD hS => ?_)
      have hP : va_P g.1 vwCl [(hO, .inr (4, [.int 1, .int xB, .int xC, .ref qP, .int xP, .ref qN, .int (nI (16 * b)), .ref qY, .ref qD, .int xA, .ref qR, .ref qM, .ref qT, .int xw, .int xa, .int xb, .int xc])), (qY, .inl (g.2.1.1, 1024, .inl gb))] H := hP
      have hD : va_D A [(hO, .inr (4, [.int 1, .int xB, .int xC, .ref qP, .int xP, .ref qN, .int (nI (16 * b)), .ref qY, .ref qD, .int xA, .ref qR, .ref qM, .ref qT, .int xw, .int xa, .int xb, .int xc])), (qY, .inl (g.2.1.1, 1024, .inl gb))] := hD
      refine lv_aload_n hx hb dX6_bundles_19 rfl (lv_at hl 0 rfl) ?_
      refine va_get (D := g.1) (ci := 4) (v := .int 1) (C := RX6) (T := TX6) (N := 17) hx hb hts iX6 hown hK hP 0 rfl rfl 0 (by decide) (hts (.fieldLink RX6 35 "FaultIsolationModel" "thrown" "I") (by decide +kernel)) (fun _ h9 => h9) rfl dX6_bundles_20 ?_
      refine lv_if_ne (tgt := 65) hx hb dX6_bundles_23 (by decide) (fun _ => ?_) (fun c_5 => absurd c_5 (by decide))
      exact k_vret hx hb hr hlocks ⟨hK, hP, hD, hS, hA, hE, hN⟩ dX6_bundles_65 (Nat.le_of_ble_eq_true rfl) (Nat.le_of_ble_eq_true rfl) (by simp only [bd_x, if_neg c_0, if_neg c_2]; rfl)
