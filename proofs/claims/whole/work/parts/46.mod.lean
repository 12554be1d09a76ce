def fun_vf (gb : Nat → Int32) (xB : Int32) (b : Nat) : Int32 := if nI b = 0 then nI (16 * b) else (if nI b &&& nI (b - 1) = 0 then fv (fun x => sp_X6_isTaken gb xB b x) (4 * b) 0 else nI (16 * b))
set_option maxHeartbeats 4000000 in
set_option maxRecDepth 100000 in
theorem c_X6_verify (l : Launch) (g : KG) (hO : Nat) (qP : Nat) (qN : Nat) (qY : Nat) (qD : Nat) (qR : Nat) (qM : Nat) (qT : Nat) (gb : Nat → Int32) (xT : Int32) (xB : Int32) (xC : Int32) (xP : Int32) (b : Nat) (xA : Int32) (xw : Int32) (xa : Int32) (xb : Int32) (xc : Int32) (hbb : b ≤ 64) : Ci l g yX6_verify wsX6_verify ({ frames := 3, cells := 0, slots := 0, locals := 64 }) [.ref hO] [(hO, .inr (4, [.int xT, .int xB, .int xC, .ref qP, .int xP, .ref qN, .int (nI (16 * b)), .ref qY, .ref qD, .int xA, .ref qR, .ref qM, .ref qT, .int xw, .int xa, .int xb, .int xc])), (qY, .inl (g.2.1.1, 1024, .inl gb))] (fun r u => r = fun_vf gb xB b ∧ ∃ (y0_13 : Int32) (y0_14 : Int32) (y0_15 : Int32) (y0_16 : Int32), u = [(hO, .inr (4, [.int 0, .int xB, .int xC, .ref qP, .int xP, .ref qN, .int (nI (16 * b)), .ref qY, .ref qD, .int xA, .ref qR, .ref qM, .ref qT, .int y0_13, .int y0_14, .int y0_15, .int y0_16])), (qY, .inl (g.2.1.1, 1024, .inl gb))]) 0 0 := by
  intro sz
  refine Met.ofW (cc := cX6_verify) (maxL := 3) (ret := (some .int)) (by decide) rfl ?_
  intro p e s m args below meth c s₁ B hml hv
  obtain ⟨rfl, hsz, hP, hK, hD0, hE, hN⟩ := hv
  have hx := B.exec
  have hb := B.bytes
  have hr := B.returns
  have hts := atoms_spec (ws := wsX6_verify) B.pre
  have hown : s.vm.findClass RX6 = some m.cls := findClass_of_methodNamed B.named
  have hlocks := B.notSynchronized
  have iX6 : ∀ w ∈ u_ws RX6 TX6 17, w ∈ wsX6_verify := by decide +kernel
  subst hsz
  have hD := hD0.self (sz := s.heap.size)
  generalize hAe : va_A [(hO, .inr (4, [.int xT, .int xB, .int xC, .ref qP, .int xP, .ref qN, .int (nI (16 * b)), .ref qY, .ref qD, .int xA, .ref qR, .ref qM, .ref qT, .int xw, .int xa, .int xb, .int xc])), (qY, .inl (g.2.1.1, 1024, .inl gb))] s.heap.size = A at hD hE ⊢
  have hA : ∀ q : Nat, s.heap.size ≤ q → A q := fun q h => by rw [← hAe]; exact Or.inr h
  have hS : va_S A s.heap s.heap [] := va_S.rf
  have hl := lv_entry ([.ref hO]) (n := 3) (Nat.le_of_ble_eq_true rfl)
  rw [lg_entry_eq]
  generalize (lg_sl ([.ref hO]) ++ List.replicate (3 - (lg_sl ([.ref hO])).length) Slot.unset).toArray = ls at hl ⊢
  have hl : lv_has ls 3 [(0, .ref hO)] := hl
  refine lv_aload_n hx hb dX6_verify_0 rfl (lv_at hl 0 rfl) ?_
  refine lv_iconst (v := 0) hx hb dX6_verify_1 (by decide) ?_
  refine va_put (D := g.1) (ci := 4) (v := .int 0) (ty := .int) (C := RX6) (T := TX6) (N := 17) hx hb hts iX6 tyX6 tyX6_ok nmX6 hown hK hP hD hS 0 rfl rfl 0 (by decide) (hts (.fieldLink RX6 35 "FaultIsolationModel" "thrown" "I") (by decide +kernel)) (fun _ h9 => h9) rfl (by decide +kernel) rfl rfl (Nat.le_of_ble_eq_true rfl) dX6_verify_2 (fun H locs hP hD hS => ?_)
  have hP : va_P g.1 vwCl [(hO, .inr (4, [.int 0, .int xB, .int xC, .ref qP, .int xP, .ref qN, .int (nI (16 * b)), .ref qY, .ref qD, .int xA, .ref qR, .ref qM, .ref qT, .int xw, .int xa, .int xb, .int xc])), (qY, .inl (g.2.1.1, 1024, .inl gb))] H := hP
  have hD : va_D A [(hO, .inr (4, [.int 0, .int xB, .int xC, .ref qP, .int xP, .ref qN, .int (nI (16 * b)), .ref qY, .ref qD, .int xA, .ref qR, .ref qM, .ref qT, .int xw, .int xa, .int xb, .int xc])), (qY, .inl (g.2.1.1, 1024, .inl gb))] := hD
  refine lv_aload_n hx hb dX6_verify_5 rfl (lv_at hl 0 rfl) ?_
  refine va_get (D := g.1) (ci := 4) (v := .int (nI (16 * b))) (C := RX6) (T := TX6) (N := 17) hx hb hts iX6 hown hK hP 0 rfl rfl 6 (by decide) (hts (.fieldLink RX6 109 "FaultIsolationModel" "size" "I") (by decide +kernel)) (fun _ h9 => h9) rfl dX6_verify_6 ?_
  refine lv_bipush (v := 16) hx hb dX6_verify_9 (by decide) ?_
  refine lv_idiv hx hb dX6_verify_11 (by decide) ?_
  refine lv_topi (fun y9 e9 => ?_)
  rw [show ((nI (16 * b)) / 16 : Int32) = nI b from (by rw [show (16 : Int32) = nI 16 from rfl, pk_div (by omega) (by decide) (by decide)]; exact congrArg nI (by omega))] at e9
  subst e9
  refine lv_istore_n (lv' := [(1, .int (nI b)), (0, .ref hO)]) hx hb dX6_verify_12 rfl hl (by decide) rfl (fun ls hl => ?_)
  refine lv_iload_n hx hb dX6_verify_13 rfl (lv_at hl 0 rfl) ?_
  refine lv_if_eq (tgt := 25) hx hb dX6_verify_14 (by decide) (fun c_0 => ?_) (fun c_0 => ?_)
  · skip
    have z_0 := k_eqT (a := b) (b := 0) c_0 (by omega) (by omega)
    refine lv_aload_n hx hb dX6_verify_25 rfl (lv_at hl 1 rfl) ?_
    refine va_get (D := g.1) (ci := 4) (v := .int (nI (16 * b))) (C := RX6) (T := TX6) (N := 17) hx hb hts iX6 hown hK hP 0 rfl rfl 6 (by decide) (hts (.fieldLink RX6 109 "FaultIsolationModel" "size" "I") (by decide +kernel)) (fun _ h9 => h9) rfl dX6_verify_26 ?_
    exact k_iret hx hb hr hlocks ⟨hK, hP, hD, hS, hA, hE, hN⟩ rfl dX6_verify_29 (Nat.le_of_ble_eq_true rfl) (Nat.le_of_ble_eq_true rfl) ⟨by unfold fun_vf; rw [if_pos c_0], (xw), (xa), (xb), (xc), rfl⟩
  · skip
    have z_0 := k_eqF (a := b) (b := 0) c_0 (by omega) (by omega)
    refine lv_iload_n hx hb dX6_verify_17 rfl (lv_at hl 0 rfl) ?_
    refine lv_iload_n hx hb dX6_verify_18 rfl (lv_at hl 0 rfl) ?_
    refine lv_iconst (v := 1) hx hb dX6_verify_19 (by decide) ?_
    refine lv_isub hx hb dX6_verify_20 ?_
    refine lv_topi (fun y9 e9 => ?_)
    rw [show ((nI b) - 1 : Int32) = nI (b - 1) from pk_sub (a := b) (b := 1) (by omega)] at e9
    subst e9
    refine lv_iand hx hb dX6_verify_21 ?_
    refine lv_if_eq (tgt := 30) hx hb dX6_verify_22 (by decide) (fun c_1 => ?_) (fun c_1 => ?_)
    · skip
      refine lv_iconst (v := 0) hx hb dX6_verify_30 (by decide) ?_
      refine lv_istore_n (lv' := [(2, .int 0), (1, .int (nI b)), (0, .ref hO)]) hx hb dX6_verify_31 rfl hl (by decide) rfl (fun ls hl => ?_)
      have loop_32 : ∀ (K : Nat) (j : Nat) (yw : Int32) (ya : Int32) (yb : Int32) (yc : Int32) (h2 : j ≤ 4 * b) (hq : fun_vf gb xB b = fv (fun x => sp_X6_isTaken gb xB b x) (4 * b - j) j), 4 * b - j < K → ∀ (H : Heap) (locs : List Loc) (ls : Array Slot), va_P g.1 vwCl [(hO, .inr (4, [.int 0, .int xB, .int xC, .ref qP, .int xP, .ref qN, .int (nI (16 * b)), .ref qY, .ref qD, .int xA, .ref qR, .ref qM, .ref qT, .int yw, .int ya, .int yb, .int yc])), (qY, .inl (g.2.1.1, 1024, .inl gb))] H → va_D A [(hO, .inr (4, [.int 0, .int xB, .int xC, .ref qP, .int xP, .ref qN, .int (nI (16 * b)), .ref qY, .ref qD, .int xA, .ref qR, .ref qM, .ref qT, .int yw, .int ya, .int yb, .int yc])), (qY, .inl (g.2.1.1, 1024, .inl gb))] → va_S A s.heap H locs → lv_has ls 3 [(0, .ref hO), (1, .int (nI b)), (2, .int (nI (4 * j)))] → W p l e (headSpec wsX6_verify ({ frames := 3, cells := 0, slots := 0, locals := 64 })).room s m ([.ref hO] : List Value).toArray below meth c H locs 0 0 (MQ below (va_Qi (fun r u => r = fun_vf gb xB b ∧ ∃ (y0_13 : Int32) (y0_14 : Int32) (y0_15 : Int32) (y0_16 : Int32), u = [(hO, .inr (4, [.int 0, .int xB, .int xC, .ref qP, .int xP, .ref qN, .int (nI (16 * b)), .ref qY, .ref qD, .int xA, .ref qR, .ref qM, .ref qT, .int y0_13, .int y0_14, .int y0_15, .int y0_16])), (qY, .inl (g.2.1.1, 1024, .inl gb))]) (SB g A) A) ([.ref hO] : List Value).toArray s 0 0 A) (F0 m 32 ls []) := by
        intro K
        induction K with
        | zero => intro j yw ya yb yc h2 hq hm; exact absurd hm (Nat.not_lt_zero _)
        | succ K ih =>
          intro j yw ya yb yc h2 hq hm H locs ls hP hD hS hl
          refine lv_iload_n hx hb dX6_verify_32 rfl (lv_at hl 2 rfl) ?_
          refine lv_aload_n hx hb dX6_verify_33 rfl (lv_at hl 0 rfl) ?_
          refine va_get (D := g.1) (ci := 4) (v := .int (nI (16 * b))) (C := RX6) (T := TX6) (N := 17) hx hb hts iX6 hown hK hP 0 rfl rfl 6 (by decide) (hts (.fieldLink RX6 109 "FaultIsolationModel" "size" "I") (by decide +kernel)) (fun _ h9 => h9) rfl dX6_verify_34 ?_
          refine lv_icmp_ge (tgt := 57) hx hb dX6_verify_37 (by decide) (fun c_2 => ?_) (fun c_2 => ?_)
          · skip
            have z_2 := k_leT (a := 16 * b) (b := 4 * j) c_2 (by omega) (by omega)
            refine lv_iconst (v := (-1)) hx hb dX6_verify_57 (by decide) ?_
            exact k_iret hx hb hr hlocks ⟨hK, hP, hD, hS, hA, hE, hN⟩ rfl dX6_verify_58 (Nat.le_of_ble_eq_true rfl) (Nat.le_of_ble_eq_true rfl) ⟨by rw [hq, show 4 * b - j = 0 by omega]; rfl, (yw), (ya), (yb), (yc), rfl⟩
          · skip
            have z_2 := k_leF (a := 16 * b) (b := 4 * j) c_2 (by omega) (by omega)
            refine lv_aload_n hx hb dX6_verify_40 rfl (lv_at hl 0 rfl) ?_
            refine lv_iload_n hx hb dX6_verify_41 rfl (lv_at hl 2 rfl) ?_
            refine kiV (As := [.int (nI (4 * j))]) (rest := []) (wc := [(hO, .inr (4, [.int 0, .int xB, .int xC, .ref qP, .int xP, .ref qN, .int (nI (16 * b)), .ref qY, .ref qD, .int xA, .ref qR, .ref qM, .ref qT, .int yw, .int ya, .int yb, .int yc])), (qY, .inl (g.2.1.1, 1024, .inl gb))]) (wr := []) ⟨hx, hb, hml, hown, hts⟩ (c_X6_isTaken l g hO qP qN qY qD qR qM qT gb 0 xB xC xP b xA yw ya yb yc j hbb (by omega)) (cwV 1 hts gX6_verify_X6_isTaken rfl rfl rfl (by decide +kernel) ⟨Nat.le_of_ble_eq_true rfl, Nat.le_of_ble_eq_true rfl⟩) ⟨hK, hP, hD, hS, hA, hE, hN⟩ [0, 1] [] ⟨rfl, rfl, by decide⟩ (q0 := 0) (ci := 4) rfl rfl rfl rfl hl.1 (Nat.le_of_ble_eq_true rfl) dX6_verify_42 ⟨Nat.le_of_ble_eq_true rfl, Nat.le_of_ble_eq_true rfl⟩ rfl (fun r u H locs hw hP hD hS => ?_)
            obtain ⟨hq, y0_13_3, y0_14_3, y0_15_3, y0_16_3, hw⟩ := hw
            subst r
            subst hw
            have hP := hP.sub (ws' := [(hO, .inr (4, [.int 0, .int xB, .int xC, .ref qP, .int xP, .ref qN, .int (nI (16 * b)), .ref qY, .ref qD, .int xA, .ref qR, .ref qM, .ref qT, .int y0_13_3, .int y0_14_3, .int y0_15_3, .int y0_16_3])), (qY, .inl (g.2.1.1, 1024, .inl gb))]) [0, 1] rfl
            have hD := hD.sub (ws' := [(hO, .inr (4, [.int 0, .int xB, .int xC, .ref qP, .int xP, .ref qN, .int (nI (16 * b)), .ref qY, .ref qD, .int xA, .ref qR, .ref qM, .ref qT, .int y0_13_3, .int y0_14_3, .int y0_15_3, .int y0_16_3])), (qY, .inl (g.2.1.1, 1024, .inl gb))]) [0, 1] (by decide) rfl
            refine lv_if_ne (tgt := 50) hx hb dX6_verify_45 (by decide) (fun c_4 => ?_) (fun c_4 => ?_)
            · skip
              refine lv_iload_n hx hb dX6_verify_50 rfl (lv_at hl 2 rfl) ?_
              refine lv_iconst (v := 4) hx hb dX6_verify_51 (by decide) ?_
              refine lv_iadd hx hb dX6_verify_52 ?_
              refine lv_topi (fun y9 e9 => ?_)
              rw [show ((nI (4 * j)) + 4 : Int32) = nI ((4 * j) + 4) from nI_add _ _] at e9
              subst e9
              refine lv_istore_n (lv' := [(2, .int (nI ((4 * j) + 4))), (0, .ref hO), (1, .int (nI b))]) hx hb dX6_verify_53 rfl hl (by decide) rfl (fun ls hl => ?_)
              refine lv_goto (tgt := 32) hx hb dX6_verify_54 (by decide) ?_
              rw [show (nI ((4 * j) + 4) : Int32) = nI (4 * (j + 1)) from (congrArg nI (by omega))] at hl
              exact ih (j + 1) y0_13_3 y0_14_3 y0_15_3 y0_16_3 (by omega) (by rw [hq, fv_s (by omega), if_neg c_4]) (by omega) _ _ _ hP hD hS (lv_sub hl [1, 2, 0] rfl)
            · skip
              refine lv_iload_n hx hb dX6_verify_48 rfl (lv_at hl 2 rfl) ?_
              exact k_iret hx hb hr hlocks ⟨hK, hP, hD, hS, hA, hE, hN⟩ rfl dX6_verify_49 (Nat.le_of_ble_eq_true rfl) (Nat.le_of_ble_eq_true rfl) ⟨by rw [hq, fv_s (by omega), if_pos c_4], (y0_13_3), (y0_14_3), (y0_15_3), (y0_16_3), rfl⟩
      exact loop_32 (4 * b - 0 + 1) 0 xw xa xb xc (Nat.zero_le _) (by unfold fun_vf; rw [if_neg c_0, if_pos c_1]; rfl) (Nat.lt_succ_self _) _ _ _ hP hD hS (lv_sub hl [2, 1, 0] rfl)
    · skip
      refine lv_aload_n hx hb dX6_verify_25 rfl (lv_at hl 1 rfl) ?_
      refine va_get (D := g.1) (ci := 4) (v := .int (nI (16 * b))) (C := RX6) (T := TX6) (N := 17) hx hb hts iX6 hown hK hP 0 rfl rfl 6 (by decide) (hts (.fieldLink RX6 109 "FaultIsolationModel" "size" "I") (by decide +kernel)) (fun _ h9 => h9) rfl dX6_verify_26 ?_
      exact k_iret hx hb hr hlocks ⟨hK, hP, hD, hS, hA, hE, hN⟩ rfl dX6_verify_29 (Nat.le_of_ble_eq_true rfl) (Nat.le_of_ble_eq_true rfl) ⟨by unfold fun_vf; rw [if_neg c_0, if_neg c_1], (xw), (xa), (xb), (xc), rfl⟩
