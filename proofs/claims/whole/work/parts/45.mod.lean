def sp_X6_isTaken (gb : Nat → Int32) (xB : Int32) (b : Nat) (k : Nat) : Int32 := if 18 ≤ (gb (4 * k)) then 0 else (if (sp_X6_areRegisters (gb (4 * k)) (gb ((4 * k) + 1)) (gb ((4 * k) + 2)) (gb ((4 * k) + 3))) = 0 then 0 else (if (gb (4 * k)) = 12 then (if (((256 * (gb ((4 * k) + 2))) + (gb ((4 * k) + 3))) - ((256 * (gb ((4 * k) + 2))) + (gb ((4 * k) + 3))) / 16 * 16) = 0 then (if (nI (16 * b)) ≤ ((256 * (gb ((4 * k) + 2))) + (gb ((4 * k) + 3))) then 0 else (if (gb (4 * k)) = 15 then (if (nI (4 * k % 16)) = 12 then 1 else 0) else 1)) else 0) else (if (gb (4 * k)) = 13 then (if (((256 * (gb ((4 * k) + 2))) + (gb ((4 * k) + 3))) - ((256 * (gb ((4 * k) + 2))) + (gb ((4 * k) + 3))) / 16 * 16) = 0 then (if (nI (16 * b)) ≤ ((256 * (gb ((4 * k) + 2))) + (gb ((4 * k) + 3))) then 0 else (if (gb (4 * k)) = 15 then (if (nI (4 * k % 16)) = 12 then 1 else 0) else 1)) else 0) else (if (gb (4 * k)) = 15 then (if (((256 * (gb ((4 * k) + 2))) + (gb ((4 * k) + 3))) - ((256 * (gb ((4 * k) + 2))) + (gb ((4 * k) + 3))) / 16 * 16) = 0 then (if (nI (16 * b)) ≤ ((256 * (gb ((4 * k) + 2))) + (gb ((4 * k) + 3))) then 0 else (if (nI (4 * k % 16)) = 12 then 1 else 0)) else 0) else (if (gb (4 * k)) = 10 then (if (gb ((4 * k) + 2)) = 6 then (if (gb ((4 * k) + 3)) = 0 then (if (nI (4 * k % 16)) < 8 then 0 else (if (sp_X6_isThere gb ((4 * k) - 8) 16 1023) = 0 then 0 else (if (sp_X6_isThere gb ((4 * k) - 4) 17 xB) = 0 then 0 else 1))) else 0) else 0) else (if (gb (4 * k)) = 11 then (if (gb ((4 * k) + 2)) = 6 then (if (gb ((4 * k) + 3)) = 0 then (if (nI (4 * k % 16)) < 8 then 0 else (if (sp_X6_isThere gb ((4 * k) - 8) 16 1023) = 0 then 0 else (if (sp_X6_isThere gb ((4 * k) - 4) 17 xB) = 0 then 0 else 1))) else 0) else 0) else (if (gb (4 * k)) = 14 then (if (gb ((4 * k) + 1)) = 6 then (if (nI (4 * k % 16)) < 4 then 0 else (if (sp_X6_isThere gb ((4 * k) - 4) 16 (nI ((16 * b) - 16))) = 0 then 0 else 1)) else 0) else 1)))))))
theorem sp_X6_isTaken_b (gb : Nat → Int32) (xB : Int32) (b : Nat) (k : Nat) : sp_X6_isTaken gb xB b k = 0 ∨ sp_X6_isTaken gb xB b k = 1 := by
  unfold sp_X6_isTaken
  exact k_if01 (Or.inl rfl) (k_if01 (Or.inl rfl) (k_if01 (k_if01 (k_if01 (Or.inl rfl) (k_if01 (k_if01 (Or.inr rfl) (Or.inl rfl)) (Or.inr rfl))) (Or.inl rfl)) (k_if01 (k_if01 (k_if01 (Or.inl rfl) (k_if01 (k_if01 (Or.inr rfl) (Or.inl rfl)) (Or.inr rfl))) (Or.inl rfl)) (k_if01 (k_if01 (k_if01 (Or.inl rfl) (k_if01 (Or.inr rfl) (Or.inl rfl))) (Or.inl rfl)) (k_if01 (k_if01 (k_if01 (k_if01 (Or.inl rfl) (k_if01 (Or.inl rfl) (k_if01 (Or.inl rfl) (Or.inr rfl)))) (Or.inl rfl)) (Or.inl rfl)) (k_if01 (k_if01 (k_if01 (k_if01 (Or.inl rfl) (k_if01 (Or.inl rfl) (k_if01 (Or.inl rfl) (Or.inr rfl)))) (Or.inl rfl)) (Or.inl rfl)) (k_if01 (k_if01 (k_if01 (Or.inl rfl) (k_if01 (Or.inl rfl) (Or.inr rfl))) (Or.inl rfl)) (Or.inr rfl))))))))
set_option maxHeartbeats 4000000 in
set_option maxRecDepth 100000 in
theorem c_X6_isTaken (l : Launch) (g : KG) (hO : Nat) (qP : Nat) (qN : Nat) (qY : Nat) (qD : Nat) (qR : Nat) (qM : Nat) (qT : Nat) (gb : Nat → Int32) (xT : Int32) (xB : Int32) (xC : Int32) (xP : Int32) (b : Nat) (xA : Int32) (xw : Int32) (xa : Int32) (xb : Int32) (xc : Int32) (k : Nat) (hbb : b ≤ 64) (hk : k < 4 * b) : Ci l g yX6_isTaken wsX6_isTaken ({ frames := 2, cells := 0, slots := 0, locals := 40 }) [.ref hO, .int (nI (4 * k))] [(hO, .inr (4, [.int xT, .int xB, .int xC, .ref qP, .int xP, .ref qN, .int (nI (16 * b)), .ref qY, .ref qD, .int xA, .ref qR, .ref qM, .ref qT, .int xw, .int xa, .int xb, .int xc])), (qY, .inl (g.2.1.1, 1024, .inl gb))] (fun r u => r = sp_X6_isTaken gb xB b k ∧ ∃ (y0_13 : Int32) (y0_14 : Int32) (y0_15 : Int32) (y0_16 : Int32), u = [(hO, .inr (4, [.int xT, .int xB, .int xC, .ref qP, .int xP, .ref qN, .int (nI (16 * b)), .ref qY, .ref qD, .int xA, .ref qR, .ref qM, .ref qT, .int y0_13, .int y0_14, .int y0_15, .int y0_16])), (qY, .inl (g.2.1.1, 1024, .inl gb))]) 0 0 := by
  intro sz
  refine Met.ofW (cc := cX6_isTaken) (maxL := 5) (ret := (some .boolean)) (by decide) rfl ?_
  intro p e s m args below meth c s₁ B hml hv
  obtain ⟨rfl, hsz, hP, hK, hD0, hE, hN⟩ := hv
  have hx := B.exec
  have hb := B.bytes
  have hr := B.returns
  have hts := atoms_spec (ws := wsX6_isTaken) B.pre
  have hown : s.vm.findClass RX6 = some m.cls := findClass_of_methodNamed B.named
  have hlocks := B.notSynchronized
  have iX6 : ∀ w ∈ u_ws RX6 TX6 17, w ∈ wsX6_isTaken := by decide +kernel
  subst hsz
  have hD := hD0.self (sz := s.heap.size)
  generalize hAe : va_A [(hO, .inr (4, [.int xT, .int xB, .int xC, .ref qP, .int xP, .ref qN, .int (nI (16 * b)), .ref qY, .ref qD, .int xA, .ref qR, .ref qM, .ref qT, .int xw, .int xa, .int xb, .int xc])), (qY, .inl (g.2.1.1, 1024, .inl gb))] s.heap.size = A at hD hE ⊢
  have hA : ∀ q : Nat, s.heap.size ≤ q → A q := fun q h => by rw [← hAe]; exact Or.inr h
  have hS : va_S A s.heap s.heap [] := va_S.rf
  have hl := lv_entry ([.ref hO, .int (nI (4 * k))]) (n := 5) (Nat.le_of_ble_eq_true rfl)
  rw [lg_entry_eq]
  generalize (lg_sl ([.ref hO, .int (nI (4 * k))]) ++ List.replicate (5 - (lg_sl ([.ref hO, .int (nI (4 * k))])).length) Slot.unset).toArray = ls at hl ⊢
  have hl : lv_has ls 5 [(0, .ref hO), (1, .int (nI (4 * k)))] := hl
  refine lv_aload_n hx hb dX6_isTaken_0 rfl (lv_at hl 0 rfl) ?_
  refine lv_aload_n hx hb dX6_isTaken_1 rfl (lv_at hl 0 rfl) ?_
  refine va_get (D := g.1) (ci := 4) (v := .ref qY) (C := RX6) (T := TX6) (N := 17) hx hb hts iX6 hown hK hP 0 rfl rfl 7 (by decide) (hts (.fieldLink RX6 16 "FaultIsolationModel" "bytes" "[I") (by decide +kernel)) (fun _ h9 => h9) rfl dX6_isTaken_2 ?_
  refine lv_iload_n hx hb dX6_isTaken_5 rfl (lv_at hl 1 rfl) ?_
  refine kvV (As := [.ref qY, .int (nI (4 * k))]) (rest := []) (wc := [(hO, .inr (4, [.int xT, .int xB, .int xC, .ref qP, .int xP, .ref qN, .int (nI (16 * b)), .ref qY, .ref qD, .int xA, .ref qR, .ref qM, .ref qT, .int xw, .int xa, .int xb, .int xc])), (qY, .inl (g.2.1.1, 1024, .inl gb))]) (wr := []) ⟨hx, hb, hml, hown, hts⟩ (c_X6_look l g hO qP qN qY qD qR qM qT xT xB xC xP (nI (16 * b)) xA xw xa xb xc qY 1024 gb (4 * k) (by decide) (by omega)) (cwV 2 hts gX6_isTaken_X6_look rfl rfl rfl (by decide +kernel) ⟨Nat.le_of_ble_eq_true rfl, Nat.le_of_ble_eq_true rfl⟩) ⟨hK, hP, hD, hS, hA, hE, hN⟩ [0, 1] [] ⟨rfl, rfl, by decide⟩ (q0 := 0) (ci := 4) rfl rfl rfl rfl hl.1 (Nat.le_of_ble_eq_true rfl) dX6_isTaken_6 ⟨Nat.le_of_ble_eq_true rfl, Nat.le_of_ble_eq_true rfl⟩ rfl (fun u H locs hw hP hD hS => ?_)
  subst hw
  have hP := hP.sub (ws' := [(hO, .inr (4, [.int xT, .int xB, .int xC, .ref qP, .int xP, .ref qN, .int (nI (16 * b)), .ref qY, .ref qD, .int xA, .ref qR, .ref qM, .ref qT, .int (gb (4 * k)), .int (gb ((4 * k) + 1)), .int (gb ((4 * k) + 2)), .int (gb ((4 * k) + 3))])), (qY, .inl (g.2.1.1, 1024, .inl gb))]) [0, 1] rfl
  have hD := hD.sub (ws' := [(hO, .inr (4, [.int xT, .int xB, .int xC, .ref qP, .int xP, .ref qN, .int (nI (16 * b)), .ref qY, .ref qD, .int xA, .ref qR, .ref qM, .ref qT, .int (gb (4 * k)), .int (gb ((4 * k) + 1)), .int (gb ((4 * k) + 2)), .int (gb ((4 * k) + 3))])), (qY, .inl (g.2.1.1, 1024, .inl gb))]) [0, 1] (by decide) rfl
  refine lv_iload_n hx hb dX6_isTaken_9 rfl (lv_at hl 1 rfl) ?_
  refine lv_bipush (v := 16) hx hb dX6_isTaken_10 (by decide) ?_
  refine lv_irem hx hb dX6_isTaken_12 (by decide) ?_
  refine lv_topi (fun y9 e9 => ?_)
  rw [show ((nI (4 * k)) - (nI (4 * k)) / 16 * 16 : Int32) = nI (4 * k % 16) from pk_rem (a := 4 * k) (d := 16) (by omega) (by decide) (by decide)] at e9
  subst e9
  refine lv_istore_n (lv' := [(2, .int (nI (4 * k % 16))), (0, .ref hO), (1, .int (nI (4 * k)))]) hx hb dX6_isTaken_13 rfl hl (by decide) rfl (fun ls hl => ?_)
  refine lv_sipush (v := 256) hx hb dX6_isTaken_14 (by decide) ?_
  refine lv_aload_n hx hb dX6_isTaken_17 rfl (lv_at hl 1 rfl) ?_
  refine va_get (D := g.1) (ci := 4) (v := .int (gb ((4 * k) + 2))) (C := RX6) (T := TX6) (N := 17) hx hb hts iX6 hown hK hP 0 rfl rfl 15 (by decide) (hts (.fieldLink RX6 59 "FaultIsolationModel" "b" "I") (by decide +kernel)) (fun _ h9 => h9) rfl dX6_isTaken_18 ?_
  refine lv_imul hx hb dX6_isTaken_21 ?_
  refine lv_aload_n hx hb dX6_isTaken_22 rfl (lv_at hl 1 rfl) ?_
  refine va_get (D := g.1) (ci := 4) (v := .int (gb ((4 * k) + 3))) (C := RX6) (T := TX6) (N := 17) hx hb hts iX6 hown hK hP 0 rfl rfl 16 (by decide) (hts (.fieldLink RX6 62 "FaultIsolationModel" "c" "I") (by decide +kernel)) (fun _ h9 => h9) rfl dX6_isTaken_23 ?_
  refine lv_iadd hx hb dX6_isTaken_26 ?_
  refine lv_istore_n (lv' := [(3, .int ((256 * (gb ((4 * k) + 2))) + (gb ((4 * k) + 3)))), (2, .int (nI (4 * k % 16))), (0, .ref hO), (1, .int (nI (4 * k)))]) hx hb dX6_isTaken_27 rfl hl (by decide) rfl (fun ls hl => ?_)
  refine lv_aload_n hx hb dX6_isTaken_28 rfl (lv_at hl 2 rfl) ?_
  refine va_get (D := g.1) (ci := 4) (v := .int (gb (4 * k))) (C := RX6) (T := TX6) (N := 17) hx hb hts iX6 hown hK hP 0 rfl rfl 13 (by decide) (hts (.fieldLink RX6 53 "FaultIsolationModel" "word" "I") (by decide +kernel)) (fun _ h9 => h9) rfl dX6_isTaken_29 ?_
  refine lv_bipush (v := 18) hx hb dX6_isTaken_32 (by decide) ?_
  refine lv_icmp_ge (tgt := 48) hx hb dX6_isTaken_34 (by decide) (fun c_0 => ?_) (fun c_0 => ?_)
  · skip
    refine lv_iconst (v := 0) hx hb dX6_isTaken_48 (by decide) ?_
    refine lv_istore (lv' := [(4, .int 0), (3, .int ((256 * (gb ((4 * k) + 2))) + (gb ((4 * k) + 3)))), (2, .int (nI (4 * k % 16))), (0, .ref hO), (1, .int (nI (4 * k)))]) hx hb dX6_isTaken_49 hl (by decide) rfl (fun ls hl => ?_)
    refine lv_aload_n hx hb dX6_isTaken_51 rfl (lv_at hl 3 rfl) ?_
    refine va_get (D := g.1) (ci := 4) (v := .int (gb (4 * k))) (C := RX6) (T := TX6) (N := 17) hx hb hts iX6 hown hK hP 0 rfl rfl 13 (by decide) (hts (.fieldLink RX6 53 "FaultIsolationModel" "word" "I") (by decide +kernel)) (fun _ h9 => h9) rfl dX6_isTaken_52 ?_
    refine lv_bipush (v := 12) hx hb dX6_isTaken_55 (by decide) ?_
    refine lv_icmp_eq (tgt := 78) hx hb dX6_isTaken_57 (by decide) (fun c_1 => ?_) (fun c_1 => ?_)
    · skip
      refine lv_iload hx hb dX6_isTaken_78 (lv_at hl 0 rfl) ?_
      refine lv_if_eq (tgt := 117) hx hb dX6_isTaken_80 (by decide) (fun _ => ?_) (fun c_2 => absurd c_2 (by decide))
      refine lv_iconst (v := 0) hx hb dX6_isTaken_117 (by decide) ?_
      refine lv_istore (lv' := [(4, .int 0), (3, .int ((256 * (gb ((4 * k) + 2))) + (gb ((4 * k) + 3)))), (2, .int (nI (4 * k % 16))), (0, .ref hO), (1, .int (nI (4 * k)))]) hx hb dX6_isTaken_118 hl (by decide) rfl (fun ls hl => ?_)
      refine lv_goto (tgt := 264) hx hb dX6_isTaken_120 (by decide) ?_
      refine lv_iload hx hb dX6_isTaken_264 (lv_at hl 0 rfl) ?_
      exact k_iret hx hb hr hlocks ⟨hK, hP, hD, hS, hA, hE, hN⟩ rfl dX6_isTaken_266 (Nat.le_of_ble_eq_true rfl) (Nat.le_of_ble_eq_true rfl) ⟨(by simp only [sp_X6_isTaken, if_pos c_0, if_pos c_1]), (gb (4 * k)), (gb ((4 * k) + 1)), (gb ((4 * k) + 2)), (gb ((4 * k) + 3)), rfl⟩
    · skip
      refine lv_aload_n hx hb dX6_isTaken_60 rfl (lv_at hl 3 rfl) ?_
      refine va_get (D := g.1) (ci := 4) (v := .int (gb (4 * k))) (C := RX6) (T := TX6) (N := 17) hx hb hts iX6 hown hK hP 0 rfl rfl 13 (by decide) (hts (.fieldLink RX6 53 "FaultIsolationModel" "word" "I") (by decide +kernel)) (fun _ h9 => h9) rfl dX6_isTaken_61 ?_
      refine lv_bipush (v := 13) hx hb dX6_isTaken_64 (by decide) ?_
      refine lv_icmp_eq (tgt := 78) hx hb dX6_isTaken_66 (by decide) (fun c_3 => ?_) (fun c_3 => ?_)
      · skip
        refine lv_iload hx hb dX6_isTaken_78 (lv_at hl 0 rfl) ?_
        refine lv_if_eq (tgt := 117) hx hb dX6_isTaken_80 (by decide) (fun _ => ?_) (fun c_4 => absurd c_4 (by decide))
        refine lv_iconst (v := 0) hx hb dX6_isTaken_117 (by decide) ?_
        refine lv_istore (lv' := [(4, .int 0), (3, .int ((256 * (gb ((4 * k) + 2))) + (gb ((4 * k) + 3)))), (2, .int (nI (4 * k % 16))), (0, .ref hO), (1, .int (nI (4 * k)))]) hx hb dX6_isTaken_118 hl (by decide) rfl (fun ls hl => ?_)
        refine lv_goto (tgt := 264) hx hb dX6_isTaken_120 (by decide) ?_
        refine lv_iload hx hb dX6_isTaken_264 (lv_at hl 0 rfl) ?_
        exact k_iret hx hb hr hlocks ⟨hK, hP, hD, hS, hA, hE, hN⟩ rfl dX6_isTaken_266 (Nat.le_of_ble_eq_true rfl) (Nat.le_of_ble_eq_true rfl) ⟨(by simp only [sp_X6_isTaken, if_pos c_0, if_neg c_1, if_pos c_3]), (gb (4 * k)), (gb ((4 * k) + 1)), (gb ((4 * k) + 2)), (gb ((4 * k) + 3)), rfl⟩
      · skip
        refine lv_aload_n hx hb dX6_isTaken_69 rfl (lv_at hl 3 rfl) ?_
        refine va_get (D := g.1) (ci := 4) (v := .int (gb (4 * k))) (C := RX6) (T := TX6) (N := 17) hx hb hts iX6 hown hK hP 0 rfl rfl 13 (by decide) (hts (.fieldLink RX6 53 "FaultIsolationModel" "word" "I") (by decide +kernel)) (fun _ h9 => h9) rfl dX6_isTaken_70 ?_
        refine lv_bipush (v := 15) hx hb dX6_isTaken_73 (by decide) ?_
        refine lv_icmp_ne (tgt := 123) hx hb dX6_isTaken_75 (by decide) (fun c_5 => ?_) (fun c_5 => ?_)
        · skip
          refine lv_aload_n hx hb dX6_isTaken_123 rfl (lv_at hl 3 rfl) ?_
          refine va_get (D := g.1) (ci := 4) (v := .int (gb (4 * k))) (C := RX6) (T := TX6) (N := 17) hx hb hts iX6 hown hK hP 0 rfl rfl 13 (by decide) (hts (.fieldLink RX6 53 "FaultIsolationModel" "word" "I") (by decide +kernel)) (fun _ h9 => h9) rfl dX6_isTaken_124 ?_
          refine lv_bipush (v := 10) hx hb dX6_isTaken_127 (by decide) ?_
          refine lv_icmp_eq (tgt := 141) hx hb dX6_isTaken_129 (by decide) (fun c_6 => ?_) (fun c_6 => ?_)
          · skip
            refine lv_iload hx hb dX6_isTaken_141 (lv_at hl 0 rfl) ?_
            refine lv_if_eq (tgt := 204) hx hb dX6_isTaken_143 (by decide) (fun _ => ?_) (fun c_7 => absurd c_7 (by decide))
            refine lv_iconst (v := 0) hx hb dX6_isTaken_204 (by decide) ?_
            refine lv_istore (lv' := [(4, .int 0), (3, .int ((256 * (gb ((4 * k) + 2))) + (gb ((4 * k) + 3)))), (2, .int (nI (4 * k % 16))), (0, .ref hO), (1, .int (nI (4 * k)))]) hx hb dX6_isTaken_205 hl (by decide) rfl (fun ls hl => ?_)
            refine lv_goto (tgt := 264) hx hb dX6_isTaken_207 (by decide) ?_
            refine lv_iload hx hb dX6_isTaken_264 (lv_at hl 0 rfl) ?_
            exact k_iret hx hb hr hlocks ⟨hK, hP, hD, hS, hA, hE, hN⟩ rfl dX6_isTaken_266 (Nat.le_of_ble_eq_true rfl) (Nat.le_of_ble_eq_true rfl) ⟨(by simp only [sp_X6_isTaken, if_pos c_0, if_neg c_1, if_neg c_3, if_neg c_5, if_pos c_6]), (gb (4 * k)), (gb ((4 * k) + 1)), (gb ((4 * k) + 2)), (gb ((4 * k) + 3)), rfl⟩
          · skip
            refine lv_aload_n hx hb dX6_isTaken_132 rfl (lv_at hl 3 rfl) ?_
            refine va_get (D := g.1) (ci := 4) (v := .int (gb (4 * k))) (C := RX6) (T := TX6) (N := 17) hx hb hts iX6 hown hK hP 0 rfl rfl 13 (by decide) (hts (.fieldLink RX6 53 "FaultIsolationModel" "word" "I") (by decide +kernel)) (fun _ h9 => h9) rfl dX6_isTaken_133 ?_
            refine lv_bipush (v := 11) hx hb dX6_isTaken_136 (by decide) ?_
            refine lv_icmp_ne (tgt := 210) hx hb dX6_isTaken_138 (by decide) (fun c_8 => ?_) (fun c_8 => ?_)
            · skip
              refine lv_aload_n hx hb dX6_isTaken_210 rfl (lv_at hl 3 rfl) ?_
              refine va_get (D := g.1) (ci := 4) (v := .int (gb (4 * k))) (C := RX6) (T := TX6) (N := 17) hx hb hts iX6 hown hK hP 0 rfl rfl 13 (by decide) (hts (.fieldLink RX6 53 "FaultIsolationModel" "word" "I") (by decide +kernel)) (fun _ h9 => h9) rfl dX6_isTaken_211 ?_
              refine lv_bipush (v := 14) hx hb dX6_isTaken_214 (by decide) ?_
              refine lv_icmp_ne (tgt := 264) hx hb dX6_isTaken_216 (by decide) (fun c_9 => ?_) (fun c_9 => ?_)
              · skip
                refine lv_iload hx hb dX6_isTaken_264 (lv_at hl 0 rfl) ?_
                exact k_iret hx hb hr hlocks ⟨hK, hP, hD, hS, hA, hE, hN⟩ rfl dX6_isTaken_266 (Nat.le_of_ble_eq_true rfl) (Nat.le_of_ble_eq_true rfl) ⟨(by simp only [sp_X6_isTaken, if_pos c_0, if_neg c_1, if_neg c_3, if_neg c_5, if_neg c_6, if_neg c_8, if_neg c_9]), (gb (4 * k)), (gb ((4 * k) + 1)), (gb ((4 * k) + 2)), (gb ((4 * k) + 3)), rfl⟩
              · skip
                refine lv_iload hx hb dX6_isTaken_219 (lv_at hl 0 rfl) ?_
                refine lv_if_eq (tgt := 261) hx hb dX6_isTaken_221 (by decide) (fun _ => ?_) (fun c_10 => absurd c_10 (by decide))
                refine lv_iconst (v := 0) hx hb dX6_isTaken_261 (by decide) ?_
                refine lv_istore (lv' := [(4, .int 0), (3, .int ((256 * (gb ((4 * k) + 2))) + (gb ((4 * k) + 3)))), (2, .int (nI (4 * k % 16))), (0, .ref hO), (1, .int (nI (4 * k)))]) hx hb dX6_isTaken_262 hl (by decide) rfl (fun ls hl => ?_)
                refine lv_iload hx hb dX6_isTaken_264 (lv_at hl 0 rfl) ?_
                exact k_iret hx hb hr hlocks ⟨hK, hP, hD, hS, hA, hE, hN⟩ rfl dX6_isTaken_266 (Nat.le_of_ble_eq_true rfl) (Nat.le_of_ble_eq_true rfl) ⟨(by simp only [sp_X6_isTaken, if_pos c_0, if_neg c_1, if_neg c_3, if_neg c_5, if_neg c_6, if_neg c_8, if_pos c_9]), (gb (4 * k)), (gb ((4 * k) + 1)), (gb ((4 * k) + 2)), (gb ((4 * k) + 3)), rfl⟩
            · skip
              refine lv_iload hx hb dX6_isTaken_141 (lv_at hl 0 rfl) ?_
              refine lv_if_eq (tgt := 204) hx hb dX6_isTaken_143 (by decide) (fun _ => ?_) (fun c_11 => absurd c_11 (by decide))
              refine lv_iconst (v := 0) hx hb dX6_isTaken_204 (by decide) ?_
              refine lv_istore (lv' := [(4, .int 0), (3, .int ((256 * (gb ((4 * k) + 2))) + (gb ((4 * k) + 3)))), (2, .int (nI (4 * k % 16))), (0, .ref hO), (1, .int (nI (4 * k)))]) hx hb dX6_isTaken_205 hl (by decide) rfl (fun ls hl => ?_)
              refine lv_goto (tgt := 264) hx hb dX6_isTaken_207 (by decide) ?_
              refine lv_iload hx hb dX6_isTaken_264 (lv_at hl 0 rfl) ?_
              exact k_iret hx hb hr hlocks ⟨hK, hP, hD, hS, hA, hE, hN⟩ rfl dX6_isTaken_266 (Nat.le_of_ble_eq_true rfl) (Nat.le_of_ble_eq_true rfl) ⟨(by simp only [sp_X6_isTaken, if_pos c_0, if_neg c_1, if_neg c_3, if_neg c_5, if_neg c_6, if_pos c_8]), (gb (4 * k)), (gb ((4 * k) + 1)), (gb ((4 * k) + 2)), (gb ((4 * k) + 3)), rfl⟩
        · skip
          refine lv_iload hx hb dX6_isTaken_78 (lv_at hl 0 rfl) ?_
          refine lv_if_eq (tgt := 117) hx hb dX6_isTaken_80 (by decide) (fun _ => ?_) (fun c_12 => absurd c_12 (by decide))
          refine lv_iconst (v := 0) hx hb dX6_isTaken_117 (by decide) ?_
          refine lv_istore (lv' := [(4, .int 0), (3, .int ((256 * (gb ((4 * k) + 2))) + (gb ((4 * k) + 3)))), (2, .int (nI (4 * k % 16))), (0, .ref hO), (1, .int (nI (4 * k)))]) hx hb dX6_isTaken_118 hl (by decide) rfl (fun ls hl => ?_)
          refine lv_goto (tgt := 264) hx hb dX6_isTaken_120 (by decide) ?_
          refine lv_iload hx hb dX6_isTaken_264 (lv_at hl 0 rfl) ?_
          exact k_iret hx hb hr hlocks ⟨hK, hP, hD, hS, hA, hE, hN⟩ rfl dX6_isTaken_266 (Nat.le_of_ble_eq_true rfl) (Nat.le_of_ble_eq_true rfl) ⟨(by simp only [sp_X6_isTaken, if_pos c_0, if_neg c_1, if_neg c_3, if_pos c_5]), (gb (4 * k)), (gb ((4 * k) + 1)), (gb ((4 * k) + 2)), (gb ((4 * k) + 3)), rfl⟩
  · skip
    refine lv_aload_n hx hb dX6_isTaken_37 rfl (lv_at hl 2 rfl) ?_
    refine kiV (As := []) (rest := []) (wc := [(hO, .inr (4, [.int xT, .int xB, .int xC, .ref qP, .int xP, .ref qN, .int (nI (16 * b)), .ref qY, .ref qD, .int xA, .ref qR, .ref qM, .ref qT, .int (gb (4 * k)), .int (gb ((4 * k) + 1)), .int (gb ((4 * k) + 2)), .int (gb ((4 * k) + 3))]))]) (wr := [(qY, .inl (g.2.1.1, 1024, .inl gb))]) ⟨hx, hb, hml, hown, hts⟩ (c_X6_areRegisters l g hO qP qN qY qD qR qM qT xT xB xC xP (nI (16 * b)) xA (gb (4 * k)) (gb ((4 * k) + 1)) (gb ((4 * k) + 2)) (gb ((4 * k) + 3))) (cwV 0 hts gX6_isTaken_X6_areRegisters rfl rfl rfl (by decide +kernel) ⟨Nat.le_of_ble_eq_true rfl, Nat.le_of_ble_eq_true rfl⟩) ⟨hK, hP, hD, hS, hA, hE, hN⟩ [0] [1] ⟨rfl, rfl, by decide⟩ (q0 := 0) (ci := 4) rfl rfl rfl rfl hl.1 (Nat.le_of_ble_eq_true rfl) dX6_isTaken_38 ⟨Nat.le_of_ble_eq_true rfl, Nat.le_of_ble_eq_true rfl⟩ rfl (fun r u H locs hw hP hD hS => ?_)
    obtain ⟨hq, hw⟩ := hw
    subst r
    subst hw
    have hP := hP.sub (ws' := [(hO, .inr (4, [.int xT, .int xB, .int xC, .ref qP, .int xP, .ref qN, .int (nI (16 * b)), .ref qY, .ref qD, .int xA, .ref qR, .ref qM, .ref qT, .int (gb (4 * k)), .int (gb ((4 * k) + 1)), .int (gb ((4 * k) + 2)), .int (gb ((4 * k) + 3))])), (qY, .inl (g.2.1.1, 1024, .inl gb))]) [1, 0] rfl
    have hD := hD.sub (ws' := [(hO, .inr (4, [.int xT, .int xB, .int xC, .ref qP, .int xP, .ref qN, .int (nI (16 * b)), .ref qY, .ref qD, .int xA, .ref qR, .ref qM, .ref qT, .int (gb (4 * k)), .int (gb ((4 * k) + 1)), .int (gb ((4 * k) + 2)), .int (gb ((4 * k) + 3))])), (qY, .inl (g.2.1.1, 1024, .inl gb))]) [1, 0] (by decide) rfl
    refine lv_if_eq (tgt := 48) hx hb dX6_isTaken_41 (by decide) (fun c_13 => ?_) (fun c_13 => ?_)
    · skip
      refine lv_iconst (v := 0) hx hb dX6_isTaken_48 (by decide) ?_
      refine lv_istore (lv' := [(4, .int 0), (3, .int ((256 * (gb ((4 * k) + 2))) + (gb ((4 * k) + 3)))), (2, .int (nI (4 * k % 16))), (0, .ref hO), (1, .int (nI (4 * k)))]) hx hb dX6_isTaken_49 hl (by decide) rfl (fun ls hl => ?_)
      refine lv_aload_n hx hb dX6_isTaken_51 rfl (lv_at hl 3 rfl) ?_
      refine va_get (D := g.1) (ci := 4) (v := .int (gb (4 * k))) (C := RX6) (T := TX6) (N := 17) hx hb hts iX6 hown hK hP 0 rfl rfl 13 (by decide) (hts (.fieldLink RX6 53 "FaultIsolationModel" "word" "I") (by decide +kernel)) (fun _ h9 => h9) rfl dX6_isTaken_52 ?_
      refine lv_bipush (v := 12) hx hb dX6_isTaken_55 (by decide) ?_
      refine lv_icmp_eq (tgt := 78) hx hb dX6_isTaken_57 (by decide) (fun c_14 => ?_) (fun c_14 => ?_)
      · skip
        refine lv_iload hx hb dX6_isTaken_78 (lv_at hl 0 rfl) ?_
        refine lv_if_eq (tgt := 117) hx hb dX6_isTaken_80 (by decide) (fun _ => ?_) (fun c_15 => absurd c_15 (by decide))
        refine lv_iconst (v := 0) hx hb dX6_isTaken_117 (by decide) ?_
        refine lv_istore (lv' := [(4, .int 0), (3, .int ((256 * (gb ((4 * k) + 2))) + (gb ((4 * k) + 3)))), (2, .int (nI (4 * k % 16))), (0, .ref hO), (1, .int (nI (4 * k)))]) hx hb dX6_isTaken_118 hl (by decide) rfl (fun ls hl => ?_)
        refine lv_goto (tgt := 264) hx hb dX6_isTaken_120 (by decide) ?_
        refine lv_iload hx hb dX6_isTaken_264 (lv_at hl 0 rfl) ?_
        exact k_iret hx hb hr hlocks ⟨hK, hP, hD, hS, hA, hE, hN⟩ rfl dX6_isTaken_266 (Nat.le_of_ble_eq_true rfl) (Nat.le_of_ble_eq_true rfl) ⟨(by simp only [sp_X6_isTaken, if_neg c_0, if_pos c_13, if_pos c_14]), (gb (4 * k)), (gb ((4 * k) + 1)), (gb ((4 * k) + 2)), (gb ((4 * k) + 3)), rfl⟩
      · skip
        refine lv_aload_n hx hb dX6_isTaken_60 rfl (lv_at hl 3 rfl) ?_
        refine va_get (D := g.1) (ci := 4) (v := .int (gb (4 * k))) (C := RX6) (T := TX6) (N := 17) hx hb hts iX6 hown hK hP 0 rfl rfl 13 (by decide) (hts (.fieldLink RX6 53 "FaultIsolationModel" "word" "I") (by decide +kernel)) (fun _ h9 => h9) rfl dX6_isTaken_61 ?_
        refine lv_bipush (v := 13) hx hb dX6_isTaken_64 (by decide) ?_
        refine lv_icmp_eq (tgt := 78) hx hb dX6_isTaken_66 (by decide) (fun c_16 => ?_) (fun c_16 => ?_)
        · skip
          refine lv_iload hx hb dX6_isTaken_78 (lv_at hl 0 rfl) ?_
          refine lv_if_eq (tgt := 117) hx hb dX6_isTaken_80 (by decide) (fun _ => ?_) (fun c_17 => absurd c_17 (by decide))
          refine lv_iconst (v := 0) hx hb dX6_isTaken_117 (by decide) ?_
          refine lv_istore (lv' := [(4, .int 0), (3, .int ((256 * (gb ((4 * k) + 2))) + (gb ((4 * k) + 3)))), (2, .int (nI (4 * k % 16))), (0, .ref hO), (1, .int (nI (4 * k)))]) hx hb dX6_isTaken_118 hl (by decide) rfl (fun ls hl => ?_)
          refine lv_goto (tgt := 264) hx hb dX6_isTaken_120 (by decide) ?_
          refine lv_iload hx hb dX6_isTaken_264 (lv_at hl 0 rfl) ?_
          exact k_iret hx hb hr hlocks ⟨hK, hP, hD, hS, hA, hE, hN⟩ rfl dX6_isTaken_266 (Nat.le_of_ble_eq_true rfl) (Nat.le_of_ble_eq_true rfl) ⟨(by simp only [sp_X6_isTaken, if_neg c_0, if_pos c_13, if_neg c_14, if_pos c_16]), (gb (4 * k)), (gb ((4 * k) + 1)), (gb ((4 * k) + 2)), (gb ((4 * k) + 3)), rfl⟩
        · skip
          refine lv_aload_n hx hb dX6_isTaken_69 rfl (lv_at hl 3 rfl) ?_
          refine va_get (D := g.1) (ci := 4) (v := .int (gb (4 * k))) (C := RX6) (T := TX6) (N := 17) hx hb hts iX6 hown hK hP 0 rfl rfl 13 (by decide) (hts (.fieldLink RX6 53 "FaultIsolationModel" "word" "I") (by decide +kernel)) (fun _ h9 => h9) rfl dX6_isTaken_70 ?_
          refine lv_bipush (v := 15) hx hb dX6_isTaken_73 (by decide) ?_
          refine lv_icmp_ne (tgt := 123) hx hb dX6_isTaken_75 (by decide) (fun c_18 => ?_) (fun c_18 => ?_)
          · skip
            refine lv_aload_n hx hb dX6_isTaken_123 rfl (lv_at hl 3 rfl) ?_
            refine va_get (D := g.1) (ci := 4) (v := .int (gb (4 * k))) (C := RX6) (T := TX6) (N := 17) hx hb hts iX6 hown hK hP 0 rfl rfl 13 (by decide) (hts (.fieldLink RX6 53 "FaultIsolationModel" "word" "I") (by decide +kernel)) (fun _ h9 => h9) rfl dX6_isTaken_124 ?_
            refine lv_bipush (v := 10) hx hb dX6_isTaken_127 (by decide) ?_
            refine lv_icmp_eq (tgt := 141) hx hb dX6_isTaken_129 (by decide) (fun c_19 => ?_) (fun c_19 => ?_)
            · skip
              refine lv_iload hx hb dX6_isTaken_141 (lv_at hl 0 rfl) ?_
              refine lv_if_eq (tgt := 204) hx hb dX6_isTaken_143 (by decide) (fun _ => ?_) (fun c_20 => absurd c_20 (by decide))
              refine lv_iconst (v := 0) hx hb dX6_isTaken_204 (by decide) ?_
              refine lv_istore (lv' := [(4, .int 0), (3, .int ((256 * (gb ((4 * k) + 2))) + (gb ((4 * k) + 3)))), (2, .int (nI (4 * k % 16))), (0, .ref hO), (1, .int (nI (4 * k)))]) hx hb dX6_isTaken_205 hl (by decide) rfl (fun ls hl => ?_)
              refine lv_goto (tgt := 264) hx hb dX6_isTaken_207 (by decide) ?_
              refine lv_iload hx hb dX6_isTaken_264 (lv_at hl 0 rfl) ?_
              exact k_iret hx hb hr hlocks ⟨hK, hP, hD, hS, hA, hE, hN⟩ rfl dX6_isTaken_266 (Nat.le_of_ble_eq_true rfl) (Nat.le_of_ble_eq_true rfl) ⟨(by simp only [sp_X6_isTaken, if_neg c_0, if_pos c_13, if_neg c_14, if_neg c_16, if_neg c_18, if_pos c_19]), (gb (4 * k)), (gb ((4 * k) + 1)), (gb ((4 * k) + 2)), (gb ((4 * k) + 3)), rfl⟩
            · skip
              refine lv_aload_n hx hb dX6_isTaken_132 rfl (lv_at hl 3 rfl) ?_
              refine va_get (D := g.1) (ci := 4) (v := .int (gb (4 * k))) (C := RX6) (T := TX6) (N := 17) hx hb hts iX6 hown hK hP 0 rfl rfl 13 (by decide) (hts (.fieldLink RX6 53 "FaultIsolationModel" "word" "I") (by decide +kernel)) (fun _ h9 => h9) rfl dX6_isTaken_133 ?_
              refine lv_bipush (v := 11) hx hb dX6_isTaken_136 (by decide) ?_
              refine lv_icmp_ne (tgt := 210) hx hb dX6_isTaken_138 (by decide) (fun c_21 => ?_) (fun c_21 => ?_)
              · skip
                refine lv_aload_n hx hb dX6_isTaken_210 rfl (lv_at hl 3 rfl) ?_
                refine va_get (D := g.1) (ci := 4) (v := .int (gb (4 * k))) (C := RX6) (T := TX6) (N := 17) hx hb hts iX6 hown hK hP 0 rfl rfl 13 (by decide) (hts (.fieldLink RX6 53 "FaultIsolationModel" "word" "I") (by decide +kernel)) (fun _ h9 => h9) rfl dX6_isTaken_211 ?_
                refine lv_bipush (v := 14) hx hb dX6_isTaken_214 (by decide) ?_
                refine lv_icmp_ne (tgt := 264) hx hb dX6_isTaken_216 (by decide) (fun c_22 => ?_) (fun c_22 => ?_)
                · skip
                  refine lv_iload hx hb dX6_isTaken_264 (lv_at hl 0 rfl) ?_
                  exact k_iret hx hb hr hlocks ⟨hK, hP, hD, hS, hA, hE, hN⟩ rfl dX6_isTaken_266 (Nat.le_of_ble_eq_true rfl) (Nat.le_of_ble_eq_true rfl) ⟨(by simp only [sp_X6_isTaken, if_neg c_0, if_pos c_13, if_neg c_14, if_neg c_16, if_neg c_18, if_neg c_19, if_neg c_21, if_neg c_22]), (gb (4 * k)), (gb ((4 * k) + 1)), (gb ((4 * k) + 2)), (gb ((4 * k) + 3)), rfl⟩
                · skip
                  refine lv_iload hx hb dX6_isTaken_219 (lv_at hl 0 rfl) ?_
                  refine lv_if_eq (tgt := 261) hx hb dX6_isTaken_221 (by decide) (fun _ => ?_) (fun c_23 => absurd c_23 (by decide))
                  refine lv_iconst (v := 0) hx hb dX6_isTaken_261 (by decide) ?_
                  refine lv_istore (lv' := [(4, .int 0), (3, .int ((256 * (gb ((4 * k) + 2))) + (gb ((4 * k) + 3)))), (2, .int (nI (4 * k % 16))), (0, .ref hO), (1, .int (nI (4 * k)))]) hx hb dX6_isTaken_262 hl (by decide) rfl (fun ls hl => ?_)
                  refine lv_iload hx hb dX6_isTaken_264 (lv_at hl 0 rfl) ?_
                  exact k_iret hx hb hr hlocks ⟨hK, hP, hD, hS, hA, hE, hN⟩ rfl dX6_isTaken_266 (Nat.le_of_ble_eq_true rfl) (Nat.le_of_ble_eq_true rfl) ⟨(by simp only [sp_X6_isTaken, if_neg c_0, if_pos c_13, if_neg c_14, if_neg c_16, if_neg c_18, if_neg c_19, if_neg c_21, if_pos c_22]), (gb (4 * k)), (gb ((4 * k) + 1)), (gb ((4 * k) + 2)), (gb ((4 * k) + 3)), rfl⟩
              · skip
                refine lv_iload hx hb dX6_isTaken_141 (lv_at hl 0 rfl) ?_
                refine lv_if_eq (tgt := 204) hx hb dX6_isTaken_143 (by decide) (fun _ => ?_) (fun c_24 => absurd c_24 (by decide))
                refine lv_iconst (v := 0) hx hb dX6_isTaken_204 (by decide) ?_
                refine lv_istore (lv' := [(4, .int 0), (3, .int ((256 * (gb ((4 * k) + 2))) + (gb ((4 * k) + 3)))), (2, .int (nI (4 * k % 16))), (0, .ref hO), (1, .int (nI (4 * k)))]) hx hb dX6_isTaken_205 hl (by decide) rfl (fun ls hl => ?_)
                refine lv_goto (tgt := 264) hx hb dX6_isTaken_207 (by decide) ?_
                refine lv_iload hx hb dX6_isTaken_264 (lv_at hl 0 rfl) ?_
                exact k_iret hx hb hr hlocks ⟨hK, hP, hD, hS, hA, hE, hN⟩ rfl dX6_isTaken_266 (Nat.le_of_ble_eq_true rfl) (Nat.le_of_ble_eq_true rfl) ⟨(by simp only [sp_X6_isTaken, if_neg c_0, if_pos c_13, if_neg c_14, if_neg c_16, if_neg c_18, if_neg c_19, if_pos c_21]), (gb (4 * k)), (gb ((4 * k) + 1)), (gb ((4 * k) + 2)), (gb ((4 * k) + 3)), rfl⟩
          · skip
            refine lv_iload hx hb dX6_isTaken_78 (lv_at hl 0 rfl) ?_
            refine lv_if_eq (tgt := 117) hx hb dX6_isTaken_80 (by decide) (fun _ => ?_) (fun c_25 => absurd c_25 (by decide))
            refine lv_iconst (v := 0) hx hb dX6_isTaken_117 (by decide) ?_
            refine lv_istore (lv' := [(4, .int 0), (3, .int ((256 * (gb ((4 * k) + 2))) + (gb ((4 * k) + 3)))), (2, .int (nI (4 * k % 16))), (0, .ref hO), (1, .int (nI (4 * k)))]) hx hb dX6_isTaken_118 hl (by decide) rfl (fun ls hl => ?_)
            refine lv_goto (tgt := 264) hx hb dX6_isTaken_120 (by decide) ?_
            refine lv_iload hx hb dX6_isTaken_264 (lv_at hl 0 rfl) ?_
            exact k_iret hx hb hr hlocks ⟨hK, hP, hD, hS, hA, hE, hN⟩ rfl dX6_isTaken_266 (Nat.le_of_ble_eq_true rfl) (Nat.le_of_ble_eq_true rfl) ⟨(by simp only [sp_X6_isTaken, if_neg c_0, if_pos c_13, if_neg c_14, if_neg c_16, if_pos c_18]), (gb (4 * k)), (gb ((4 * k) + 1)), (gb ((4 * k) + 2)), (gb ((4 * k) + 3)), rfl⟩
    · skip
      refine lv_iconst (v := 1) hx hb dX6_isTaken_44 (by decide) ?_
      refine lv_goto (tgt := 49) hx hb dX6_isTaken_45 (by decide) ?_
      refine lv_istore (lv' := [(4, .int 1), (3, .int ((256 * (gb ((4 * k) + 2))) + (gb ((4 * k) + 3)))), (2, .int (nI (4 * k % 16))), (0, .ref hO), (1, .int (nI (4 * k)))]) hx hb dX6_isTaken_49 hl (by decide) rfl (fun ls hl => ?_)
      refine lv_aload_n hx hb dX6_isTaken_51 rfl (lv_at hl 3 rfl) ?_
      refine va_get (D := g.1) (ci := 4) (v := .int (gb (4 * k))) (C := RX6) (T := TX6) (N := 17) hx hb hts iX6 hown hK hP 0 rfl rfl 13 (by decide) (hts (.fieldLink RX6 53 "FaultIsolationModel" "word" "I") (by decide +kernel)) (fun _ h9 => h9) rfl dX6_isTaken_52 ?_
      refine lv_bipush (v := 12) hx hb dX6_isTaken_55 (by decide) ?_
      refine lv_icmp_eq (tgt := 78) hx hb dX6_isTaken_57 (by decide) (fun c_26 => ?_) (fun c_26 => ?_)
      · skip
        refine lv_iload hx hb dX6_isTaken_78 (lv_at hl 0 rfl) ?_
        refine lv_if_eq (tgt := 117) hx hb dX6_isTaken_80 (by decide) (fun c_27 => absurd c_27 (by decide)) (fun _ => ?_)
        refine lv_iload_n hx hb dX6_isTaken_83 rfl (lv_at hl 1 rfl) ?_
        refine lv_bipush (v := 16) hx hb dX6_isTaken_84 (by decide) ?_
        refine lv_irem hx hb dX6_isTaken_86 (by decide) ?_
        refine lv_if_ne (tgt := 117) hx hb dX6_isTaken_87 (by decide) (fun c_28 => ?_) (fun c_28 => ?_)
        · skip
          refine lv_iconst (v := 0) hx hb dX6_isTaken_117 (by decide) ?_
          refine lv_istore (lv' := [(4, .int 0), (3, .int ((256 * (gb ((4 * k) + 2))) + (gb ((4 * k) + 3)))), (2, .int (nI (4 * k % 16))), (0, .ref hO), (1, .int (nI (4 * k)))]) hx hb dX6_isTaken_118 hl (by decide) rfl (fun ls hl => ?_)
          refine lv_goto (tgt := 264) hx hb dX6_isTaken_120 (by decide) ?_
          refine lv_iload hx hb dX6_isTaken_264 (lv_at hl 0 rfl) ?_
          exact k_iret hx hb hr hlocks ⟨hK, hP, hD, hS, hA, hE, hN⟩ rfl dX6_isTaken_266 (Nat.le_of_ble_eq_true rfl) (Nat.le_of_ble_eq_true rfl) ⟨(by simp only [sp_X6_isTaken, if_neg c_0, if_neg c_13, if_pos c_26, if_neg c_28]), (gb (4 * k)), (gb ((4 * k) + 1)), (gb ((4 * k) + 2)), (gb ((4 * k) + 3)), rfl⟩
        · skip
          refine lv_iload_n hx hb dX6_isTaken_90 rfl (lv_at hl 1 rfl) ?_
          refine lv_aload_n hx hb dX6_isTaken_91 rfl (lv_at hl 3 rfl) ?_
          refine va_get (D := g.1) (ci := 4) (v := .int (nI (16 * b))) (C := RX6) (T := TX6) (N := 17) hx hb hts iX6 hown hK hP 0 rfl rfl 6 (by decide) (hts (.fieldLink RX6 109 "FaultIsolationModel" "size" "I") (by decide +kernel)) (fun _ h9 => h9) rfl dX6_isTaken_92 ?_
          refine lv_icmp_ge (tgt := 117) hx hb dX6_isTaken_95 (by decide) (fun c_29 => ?_) (fun c_29 => ?_)
          · skip
            refine lv_iconst (v := 0) hx hb dX6_isTaken_117 (by decide) ?_
            refine lv_istore (lv' := [(4, .int 0), (3, .int ((256 * (gb ((4 * k) + 2))) + (gb ((4 * k) + 3)))), (2, .int (nI (4 * k % 16))), (0, .ref hO), (1, .int (nI (4 * k)))]) hx hb dX6_isTaken_118 hl (by decide) rfl (fun ls hl => ?_)
            refine lv_goto (tgt := 264) hx hb dX6_isTaken_120 (by decide) ?_
            refine lv_iload hx hb dX6_isTaken_264 (lv_at hl 0 rfl) ?_
            exact k_iret hx hb hr hlocks ⟨hK, hP, hD, hS, hA, hE, hN⟩ rfl dX6_isTaken_266 (Nat.le_of_ble_eq_true rfl) (Nat.le_of_ble_eq_true rfl) ⟨(by simp only [sp_X6_isTaken, if_neg c_0, if_neg c_13, if_pos c_26, if_pos c_28, if_pos c_29]), (gb (4 * k)), (gb ((4 * k) + 1)), (gb ((4 * k) + 2)), (gb ((4 * k) + 3)), rfl⟩
          · skip
            refine lv_aload_n hx hb dX6_isTaken_98 rfl (lv_at hl 3 rfl) ?_
            refine va_get (D := g.1) (ci := 4) (v := .int (gb (4 * k))) (C := RX6) (T := TX6) (N := 17) hx hb hts iX6 hown hK hP 0 rfl rfl 13 (by decide) (hts (.fieldLink RX6 53 "FaultIsolationModel" "word" "I") (by decide +kernel)) (fun _ h9 => h9) rfl dX6_isTaken_99 ?_
            refine lv_bipush (v := 15) hx hb dX6_isTaken_102 (by decide) ?_
            refine lv_icmp_ne (tgt := 113) hx hb dX6_isTaken_104 (by decide) (fun c_30 => ?_) (fun c_30 => ?_)
            · skip
              refine lv_iconst (v := 1) hx hb dX6_isTaken_113 (by decide) ?_
              refine lv_goto (tgt := 118) hx hb dX6_isTaken_114 (by decide) ?_
              refine lv_istore (lv' := [(4, .int 1), (3, .int ((256 * (gb ((4 * k) + 2))) + (gb ((4 * k) + 3)))), (2, .int (nI (4 * k % 16))), (0, .ref hO), (1, .int (nI (4 * k)))]) hx hb dX6_isTaken_118 hl (by decide) rfl (fun ls hl => ?_)
              refine lv_goto (tgt := 264) hx hb dX6_isTaken_120 (by decide) ?_
              refine lv_iload hx hb dX6_isTaken_264 (lv_at hl 0 rfl) ?_
              exact k_iret hx hb hr hlocks ⟨hK, hP, hD, hS, hA, hE, hN⟩ rfl dX6_isTaken_266 (Nat.le_of_ble_eq_true rfl) (Nat.le_of_ble_eq_true rfl) ⟨(by simp only [sp_X6_isTaken, if_neg c_0, if_neg c_13, if_pos c_26, if_pos c_28, if_neg c_29, if_neg c_30]), (gb (4 * k)), (gb ((4 * k) + 1)), (gb ((4 * k) + 2)), (gb ((4 * k) + 3)), rfl⟩
            · skip
              refine lv_iload_n hx hb dX6_isTaken_107 rfl (lv_at hl 2 rfl) ?_
              refine lv_bipush (v := 12) hx hb dX6_isTaken_108 (by decide) ?_
              refine lv_icmp_ne (tgt := 117) hx hb dX6_isTaken_110 (by decide) (fun c_31 => ?_) (fun c_31 => ?_)
              · skip
                have z_31 := k_eqF (a := 4 * k % 16) (b := 12) c_31 (by omega) (by omega)
                refine lv_iconst (v := 0) hx hb dX6_isTaken_117 (by decide) ?_
                refine lv_istore (lv' := [(4, .int 0), (3, .int ((256 * (gb ((4 * k) + 2))) + (gb ((4 * k) + 3)))), (2, .int (nI (4 * k % 16))), (0, .ref hO), (1, .int (nI (4 * k)))]) hx hb dX6_isTaken_118 hl (by decide) rfl (fun ls hl => ?_)
                refine lv_goto (tgt := 264) hx hb dX6_isTaken_120 (by decide) ?_
                refine lv_iload hx hb dX6_isTaken_264 (lv_at hl 0 rfl) ?_
                exact k_iret hx hb hr hlocks ⟨hK, hP, hD, hS, hA, hE, hN⟩ rfl dX6_isTaken_266 (Nat.le_of_ble_eq_true rfl) (Nat.le_of_ble_eq_true rfl) ⟨(by simp only [sp_X6_isTaken, if_neg c_0, if_neg c_13, if_pos c_26, if_pos c_28, if_neg c_29, if_pos c_30, if_neg c_31]), (gb (4 * k)), (gb ((4 * k) + 1)), (gb ((4 * k) + 2)), (gb ((4 * k) + 3)), rfl⟩
              · skip
                have z_31 := k_eqT (a := 4 * k % 16) (b := 12) c_31 (by omega) (by omega)
                refine lv_iconst (v := 1) hx hb dX6_isTaken_113 (by decide) ?_
                refine lv_goto (tgt := 118) hx hb dX6_isTaken_114 (by decide) ?_
                refine lv_istore (lv' := [(4, .int 1), (3, .int ((256 * (gb ((4 * k) + 2))) + (gb ((4 * k) + 3)))), (2, .int (nI (4 * k % 16))), (0, .ref hO), (1, .int (nI (4 * k)))]) hx hb dX6_isTaken_118 hl (by decide) rfl (fun ls hl => ?_)
                refine lv_goto (tgt := 264) hx hb dX6_isTaken_120 (by decide) ?_
                refine lv_iload hx hb dX6_isTaken_264 (lv_at hl 0 rfl) ?_
                exact k_iret hx hb hr hlocks ⟨hK, hP, hD, hS, hA, hE, hN⟩ rfl dX6_isTaken_266 (Nat.le_of_ble_eq_true rfl) (Nat.le_of_ble_eq_true rfl) ⟨(by simp only [sp_X6_isTaken, if_neg c_0, if_neg c_13, if_pos c_26, if_pos c_28, if_neg c_29, if_pos c_30, if_pos c_31]), (gb (4 * k)), (gb ((4 * k) + 1)), (gb ((4 * k) + 2)), (gb ((4 * k) + 3)), rfl⟩
      · skip
        refine lv_aload_n hx hb dX6_isTaken_60 rfl (lv_at hl 3 rfl) ?_
        refine va_get (D := g.1) (ci := 4) (v := .int (gb (4 * k))) (C := RX6) (T := TX6) (N := 17) hx hb hts iX6 hown hK hP 0 rfl rfl 13 (by decide) (hts (.fieldLink RX6 53 "FaultIsolationModel" "word" "I") (by decide +kernel)) (fun _ h9 => h9) rfl dX6_isTaken_61 ?_
        refine lv_bipush (v := 13) hx hb dX6_isTaken_64 (by decide) ?_
        refine lv_icmp_eq (tgt := 78) hx hb dX6_isTaken_66 (by decide) (fun c_32 => ?_) (fun c_32 => ?_)
        · skip
          refine lv_iload hx hb dX6_isTaken_78 (lv_at hl 0 rfl) ?_
          refine lv_if_eq (tgt := 117) hx hb dX6_isTaken_80 (by decide) (fun c_33 => absurd c_33 (by decide)) (fun _ => ?_)
          refine lv_iload_n hx hb dX6_isTaken_83 rfl (lv_at hl 1 rfl) ?_
          refine lv_bipush (v := 16) hx hb dX6_isTaken_84 (by decide) ?_
          refine lv_irem hx hb dX6_isTaken_86 (by decide) ?_
          refine lv_if_ne (tgt := 117) hx hb dX6_isTaken_87 (by decide) (fun c_34 => ?_) (fun c_34 => ?_)
          · skip
            refine lv_iconst (v := 0) hx hb dX6_isTaken_117 (by decide) ?_
            refine lv_istore (lv' := [(4, .int 0), (3, .int ((256 * (gb ((4 * k) + 2))) + (gb ((4 * k) + 3)))), (2, .int (nI (4 * k % 16))), (0, .ref hO), (1, .int (nI (4 * k)))]) hx hb dX6_isTaken_118 hl (by decide) rfl (fun ls hl => ?_)
            refine lv_goto (tgt := 264) hx hb dX6_isTaken_120 (by decide) ?_
            refine lv_iload hx hb dX6_isTaken_264 (lv_at hl 0 rfl) ?_
            exact k_iret hx hb hr hlocks ⟨hK, hP, hD, hS, hA, hE, hN⟩ rfl dX6_isTaken_266 (Nat.le_of_ble_eq_true rfl) (Nat.le_of_ble_eq_true rfl) ⟨(by simp only [sp_X6_isTaken, if_neg c_0, if_neg c_13, if_neg c_26, if_pos c_32, if_neg c_34]), (gb (4 * k)), (gb ((4 * k) + 1)), (gb ((4 * k) + 2)), (gb ((4 * k) + 3)), rfl⟩
          · skip
            refine lv_iload_n hx hb dX6_isTaken_90 rfl (lv_at hl 1 rfl) ?_
            refine lv_aload_n hx hb dX6_isTaken_91 rfl (lv_at hl 3 rfl) ?_
            refine va_get (D := g.1) (ci := 4) (v := .int (nI (16 * b))) (C := RX6) (T := TX6) (N := 17) hx hb hts iX6 hown hK hP 0 rfl rfl 6 (by decide) (hts (.fieldLink RX6 109 "FaultIsolationModel" "size" "I") (by decide +kernel)) (fun _ h9 => h9) rfl dX6_isTaken_92 ?_
            refine lv_icmp_ge (tgt := 117) hx hb dX6_isTaken_95 (by decide) (fun c_35 => ?_) (fun c_35 => ?_)
            · skip
              refine lv_iconst (v := 0) hx hb dX6_isTaken_117 (by decide) ?_
              refine lv_istore (lv' := [(4, .int 0), (3, .int ((256 * (gb ((4 * k) + 2))) + (gb ((4 * k) + 3)))), (2, .int (nI (4 * k % 16))), (0, .ref hO), (1, .int (nI (4 * k)))]) hx hb dX6_isTaken_118 hl (by decide) rfl (fun ls hl => ?_)
              refine lv_goto (tgt := 264) hx hb dX6_isTaken_120 (by decide) ?_
              refine lv_iload hx hb dX6_isTaken_264 (lv_at hl 0 rfl) ?_
              exact k_iret hx hb hr hlocks ⟨hK, hP, hD, hS, hA, hE, hN⟩ rfl dX6_isTaken_266 (Nat.le_of_ble_eq_true rfl) (Nat.le_of_ble_eq_true rfl) ⟨(by simp only [sp_X6_isTaken, if_neg c_0, if_neg c_13, if_neg c_26, if_pos c_32, if_pos c_34, if_pos c_35]), (gb (4 * k)), (gb ((4 * k) + 1)), (gb ((4 * k) + 2)), (gb ((4 * k) + 3)), rfl⟩
            · skip
              refine lv_aload_n hx hb dX6_isTaken_98 rfl (lv_at hl 3 rfl) ?_
              refine va_get (D := g.1) (ci := 4) (v := .int (gb (4 * k))) (C := RX6) (T := TX6) (N := 17) hx hb hts iX6 hown hK hP 0 rfl rfl 13 (by decide) (hts (.fieldLink RX6 53 "FaultIsolationModel" "word" "I") (by decide +kernel)) (fun _ h9 => h9) rfl dX6_isTaken_99 ?_
              refine lv_bipush (v := 15) hx hb dX6_isTaken_102 (by decide) ?_
              refine lv_icmp_ne (tgt := 113) hx hb dX6_isTaken_104 (by decide) (fun c_36 => ?_) (fun c_36 => ?_)
              · skip
                refine lv_iconst (v := 1) hx hb dX6_isTaken_113 (by decide) ?_
                refine lv_goto (tgt := 118) hx hb dX6_isTaken_114 (by decide) ?_
                refine lv_istore (lv' := [(4, .int 1), (3, .int ((256 * (gb ((4 * k) + 2))) + (gb ((4 * k) + 3)))), (2, .int (nI (4 * k % 16))), (0, .ref hO), (1, .int (nI (4 * k)))]) hx hb dX6_isTaken_118 hl (by decide) rfl (fun ls hl => ?_)
                refine lv_goto (tgt := 264) hx hb dX6_isTaken_120 (by decide) ?_
                refine lv_iload hx hb dX6_isTaken_264 (lv_at hl 0 rfl) ?_
                exact k_iret hx hb hr hlocks ⟨hK, hP, hD, hS, hA, hE, hN⟩ rfl dX6_isTaken_266 (Nat.le_of_ble_eq_true rfl) (Nat.le_of_ble_eq_true rfl) ⟨(by simp only [sp_X6_isTaken, if_neg c_0, if_neg c_13, if_neg c_26, if_pos c_32, if_pos c_34, if_neg c_35, if_neg c_36]), (gb (4 * k)), (gb ((4 * k) + 1)), (gb ((4 * k) + 2)), (gb ((4 * k) + 3)), rfl⟩
              · skip
                refine lv_iload_n hx hb dX6_isTaken_107 rfl (lv_at hl 2 rfl) ?_
                refine lv_bipush (v := 12) hx hb dX6_isTaken_108 (by decide) ?_
                refine lv_icmp_ne (tgt := 117) hx hb dX6_isTaken_110 (by decide) (fun c_37 => ?_) (fun c_37 => ?_)
                · skip
                  have z_37 := k_eqF (a := 4 * k % 16) (b := 12) c_37 (by omega) (by omega)
                  refine lv_iconst (v := 0) hx hb dX6_isTaken_117 (by decide) ?_
                  refine lv_istore (lv' := [(4, .int 0), (3, .int ((256 * (gb ((4 * k) + 2))) + (gb ((4 * k) + 3)))), (2, .int (nI (4 * k % 16))), (0, .ref hO), (1, .int (nI (4 * k)))]) hx hb dX6_isTaken_118 hl (by decide) rfl (fun ls hl => ?_)
                  refine lv_goto (tgt := 264) hx hb dX6_isTaken_120 (by decide) ?_
                  refine lv_iload hx hb dX6_isTaken_264 (lv_at hl 0 rfl) ?_
                  exact k_iret hx hb hr hlocks ⟨hK, hP, hD, hS, hA, hE, hN⟩ rfl dX6_isTaken_266 (Nat.le_of_ble_eq_true rfl) (Nat.le_of_ble_eq_true rfl) ⟨(by simp only [sp_X6_isTaken, if_neg c_0, if_neg c_13, if_neg c_26, if_pos c_32, if_pos c_34, if_neg c_35, if_pos c_36, if_neg c_37]), (gb (4 * k)), (gb ((4 * k) + 1)), (gb ((4 * k) + 2)), (gb ((4 * k) + 3)), rfl⟩
                · skip
                  have z_37 := k_eqT (a := 4 * k % 16) (b := 12) c_37 (by omega) (by omega)
                  refine lv_iconst (v := 1) hx hb dX6_isTaken_113 (by decide) ?_
                  refine lv_goto (tgt := 118) hx hb dX6_isTaken_114 (by decide) ?_
                  refine lv_istore (lv' := [(4, .int 1), (3, .int ((256 * (gb ((4 * k) + 2))) + (gb ((4 * k) + 3)))), (2, .int (nI (4 * k % 16))), (0, .ref hO), (1, .int (nI (4 * k)))]) hx hb dX6_isTaken_118 hl (by decide) rfl (fun ls hl => ?_)
                  refine lv_goto (tgt := 264) hx hb dX6_isTaken_120 (by decide) ?_
                  refine lv_iload hx hb dX6_isTaken_264 (lv_at hl 0 rfl) ?_
                  exact k_iret hx hb hr hlocks ⟨hK, hP, hD, hS, hA, hE, hN⟩ rfl dX6_isTaken_266 (Nat.le_of_ble_eq_true rfl) (Nat.le_of_ble_eq_true rfl) ⟨(by simp only [sp_X6_isTaken, if_neg c_0, if_neg c_13, if_neg c_26, if_pos c_32, if_pos c_34, if_neg c_35, if_pos c_36, if_pos c_37]), (gb (4 * k)), (gb ((4 * k) + 1)), (gb ((4 * k) + 2)), (gb ((4 * k) + 3)), rfl⟩
        · skip
          refine lv_aload_n hx hb dX6_isTaken_69 rfl (lv_at hl 3 rfl) ?_
          refine va_get (D := g.1) (ci := 4) (v := .int (gb (4 * k))) (C := RX6) (T := TX6) (N := 17) hx hb hts iX6 hown hK hP 0 rfl rfl 13 (by decide) (hts (.fieldLink RX6 53 "FaultIsolationModel" "word" "I") (by decide +kernel)) (fun _ h9 => h9) rfl dX6_isTaken_70 ?_
          refine lv_bipush (v := 15) hx hb dX6_isTaken_73 (by decide) ?_
          refine lv_icmp_ne (tgt := 123) hx hb dX6_isTaken_75 (by decide) (fun c_38 => ?_) (fun c_38 => ?_)
          · skip
            refine lv_aload_n hx hb dX6_isTaken_123 rfl (lv_at hl 3 rfl) ?_
            refine va_get (D := g.1) (ci := 4) (v := .int (gb (4 * k))) (C := RX6) (T := TX6) (N := 17) hx hb hts iX6 hown hK hP 0 rfl rfl 13 (by decide) (hts (.fieldLink RX6 53 "FaultIsolationModel" "word" "I") (by decide +kernel)) (fun _ h9 => h9) rfl dX6_isTaken_124 ?_
            refine lv_bipush (v := 10) hx hb dX6_isTaken_127 (by decide) ?_
            refine lv_icmp_eq (tgt := 141) hx hb dX6_isTaken_129 (by decide) (fun c_39 => ?_) (fun c_39 => ?_)
            · skip
              refine lv_iload hx hb dX6_isTaken_141 (lv_at hl 0 rfl) ?_
              refine lv_if_eq (tgt := 204) hx hb dX6_isTaken_143 (by decide) (fun c_40 => absurd c_40 (by decide)) (fun _ => ?_)
              refine lv_aload_n hx hb dX6_isTaken_146 rfl (lv_at hl 3 rfl) ?_
              refine va_get (D := g.1) (ci := 4) (v := .int (gb ((4 * k) + 2))) (C := RX6) (T := TX6) (N := 17) hx hb hts iX6 hown hK hP 0 rfl rfl 15 (by decide) (hts (.fieldLink RX6 59 "FaultIsolationModel" "b" "I") (by decide +kernel)) (fun _ h9 => h9) rfl dX6_isTaken_147 ?_
              refine lv_bipush (v := 6) hx hb dX6_isTaken_150 (by decide) ?_
              refine lv_icmp_ne (tgt := 204) hx hb dX6_isTaken_152 (by decide) (fun c_41 => ?_) (fun c_41 => ?_)
              · skip
                refine lv_iconst (v := 0) hx hb dX6_isTaken_204 (by decide) ?_
                refine lv_istore (lv' := [(4, .int 0), (3, .int ((256 * (gb ((4 * k) + 2))) + (gb ((4 * k) + 3)))), (2, .int (nI (4 * k % 16))), (0, .ref hO), (1, .int (nI (4 * k)))]) hx hb dX6_isTaken_205 hl (by decide) rfl (fun ls hl => ?_)
                refine lv_goto (tgt := 264) hx hb dX6_isTaken_207 (by decide) ?_
                refine lv_iload hx hb dX6_isTaken_264 (lv_at hl 0 rfl) ?_
                exact k_iret hx hb hr hlocks ⟨hK, hP, hD, hS, hA, hE, hN⟩ rfl dX6_isTaken_266 (Nat.le_of_ble_eq_true rfl) (Nat.le_of_ble_eq_true rfl) ⟨(by simp only [sp_X6_isTaken, if_neg c_0, if_neg c_13, if_neg c_26, if_neg c_32, if_neg c_38, if_pos c_39, if_neg c_41]), (gb (4 * k)), (gb ((4 * k) + 1)), (gb ((4 * k) + 2)), (gb ((4 * k) + 3)), rfl⟩
              · skip
                refine lv_aload_n hx hb dX6_isTaken_155 rfl (lv_at hl 3 rfl) ?_
                refine va_get (D := g.1) (ci := 4) (v := .int (gb ((4 * k) + 3))) (C := RX6) (T := TX6) (N := 17) hx hb hts iX6 hown hK hP 0 rfl rfl 16 (by decide) (hts (.fieldLink RX6 62 "FaultIsolationModel" "c" "I") (by decide +kernel)) (fun _ h9 => h9) rfl dX6_isTaken_156 ?_
                refine lv_if_ne (tgt := 204) hx hb dX6_isTaken_159 (by decide) (fun c_42 => ?_) (fun c_42 => ?_)
                · skip
                  refine lv_iconst (v := 0) hx hb dX6_isTaken_204 (by decide) ?_
                  refine lv_istore (lv' := [(4, .int 0), (3, .int ((256 * (gb ((4 * k) + 2))) + (gb ((4 * k) + 3)))), (2, .int (nI (4 * k % 16))), (0, .ref hO), (1, .int (nI (4 * k)))]) hx hb dX6_isTaken_205 hl (by decide) rfl (fun ls hl => ?_)
                  refine lv_goto (tgt := 264) hx hb dX6_isTaken_207 (by decide) ?_
                  refine lv_iload hx hb dX6_isTaken_264 (lv_at hl 0 rfl) ?_
                  exact k_iret hx hb hr hlocks ⟨hK, hP, hD, hS, hA, hE, hN⟩ rfl dX6_isTaken_266 (Nat.le_of_ble_eq_true rfl) (Nat.le_of_ble_eq_true rfl) ⟨(by simp only [sp_X6_isTaken, if_neg c_0, if_neg c_13, if_neg c_26, if_neg c_32, if_neg c_38, if_pos c_39, if_pos c_41, if_neg c_42]), (gb (4 * k)), (gb ((4 * k) + 1)), (gb ((4 * k) + 2)), (gb ((4 * k) + 3)), rfl⟩
                · skip
                  refine lv_iload_n hx hb dX6_isTaken_162 rfl (lv_at hl 2 rfl) ?_
                  refine lv_bipush (v := 8) hx hb dX6_isTaken_163 (by decide) ?_
                  refine lv_icmp_lt (tgt := 204) hx hb dX6_isTaken_165 (by decide) (fun c_43 => ?_) (fun c_43 => ?_)
                  · skip
                    have z_43 := k_ltT (a := 4 * k % 16) (b := 8) c_43 (by omega) (by omega)
                    refine lv_iconst (v := 0) hx hb dX6_isTaken_204 (by decide) ?_
                    refine lv_istore (lv' := [(4, .int 0), (3, .int ((256 * (gb ((4 * k) + 2))) + (gb ((4 * k) + 3)))), (2, .int (nI (4 * k % 16))), (0, .ref hO), (1, .int (nI (4 * k)))]) hx hb dX6_isTaken_205 hl (by decide) rfl (fun ls hl => ?_)
                    refine lv_goto (tgt := 264) hx hb dX6_isTaken_207 (by decide) ?_
                    refine lv_iload hx hb dX6_isTaken_264 (lv_at hl 0 rfl) ?_
                    exact k_iret hx hb hr hlocks ⟨hK, hP, hD, hS, hA, hE, hN⟩ rfl dX6_isTaken_266 (Nat.le_of_ble_eq_true rfl) (Nat.le_of_ble_eq_true rfl) ⟨(by simp only [sp_X6_isTaken, if_neg c_0, if_neg c_13, if_neg c_26, if_neg c_32, if_neg c_38, if_pos c_39, if_pos c_41, if_pos c_42, if_pos c_43]), (gb (4 * k)), (gb ((4 * k) + 1)), (gb ((4 * k) + 2)), (gb ((4 * k) + 3)), rfl⟩
                  · skip
                    have z_43 := k_ltF (a := 4 * k % 16) (b := 8) c_43 (by omega) (by omega)
                    refine lv_aload_n hx hb dX6_isTaken_168 rfl (lv_at hl 3 rfl) ?_
                    refine lv_iload_n hx hb dX6_isTaken_169 rfl (lv_at hl 4 rfl) ?_
                    refine lv_bipush (v := 8) hx hb dX6_isTaken_170 (by decide) ?_
                    refine lv_isub hx hb dX6_isTaken_172 ?_
                    refine lv_topi (fun y9 e9 => ?_)
                    rw [show ((nI (4 * k)) - 8 : Int32) = nI ((4 * k) - 8) from pk_sub (a := (4 * k)) (b := 8) (by omega)] at e9
                    subst e9
                    refine lv_bipush (v := 16) hx hb dX6_isTaken_173 (by decide) ?_
                    refine lv_sipush (v := 1023) hx hb dX6_isTaken_175 (by decide) ?_
                    refine kiV (As := [.int (nI ((4 * k) - 8)), .int 16, .int 1023]) (rest := []) (wc := [(hO, .inr (4, [.int xT, .int xB, .int xC, .ref qP, .int xP, .ref qN, .int (nI (16 * b)), .ref qY, .ref qD, .int xA, .ref qR, .ref qM, .ref qT, .int (gb (4 * k)), .int (gb ((4 * k) + 1)), .int (gb ((4 * k) + 2)), .int (gb ((4 * k) + 3))])), (qY, .inl (g.2.1.1, 1024, .inl gb))]) (wr := []) ⟨hx, hb, hml, hown, hts⟩ (c_X6_isThere l g hO qP qN qY qD qR qM qT gb xT xB xC xP (nI (16 * b)) xA (gb (4 * k)) (gb ((4 * k) + 1)) (gb ((4 * k) + 2)) (gb ((4 * k) + 3)) ((4 * k) - 8) 16 1023 (by omega)) (cwV 3 hts gX6_isTaken_X6_isThere rfl rfl rfl (by decide +kernel) ⟨Nat.le_of_ble_eq_true rfl, Nat.le_of_ble_eq_true rfl⟩) ⟨hK, hP, hD, hS, hA, hE, hN⟩ [0, 1] [] ⟨rfl, rfl, by decide⟩ (q0 := 0) (ci := 4) rfl rfl rfl rfl hl.1 (Nat.le_of_ble_eq_true rfl) dX6_isTaken_178 ⟨Nat.le_of_ble_eq_true rfl, Nat.le_of_ble_eq_true rfl⟩ rfl (fun r u H locs hw hP hD hS => ?_)
                    obtain ⟨hq, hw⟩ := hw
                    subst r
                    subst hw
                    have hP := hP.sub (ws' := [(hO, .inr (4, [.int xT, .int xB, .int xC, .ref qP, .int xP, .ref qN, .int (nI (16 * b)), .ref qY, .ref qD, .int xA, .ref qR, .ref qM, .ref qT, .int (gb (4 * k)), .int (gb ((4 * k) + 1)), .int (gb ((4 * k) + 2)), .int (gb ((4 * k) + 3))])), (qY, .inl (g.2.1.1, 1024, .inl gb))]) [0, 1] rfl
                    have hD := hD.sub (ws' := [(hO, .inr (4, [.int xT, .int xB, .int xC, .ref qP, .int xP, .ref qN, .int (nI (16 * b)), .ref qY, .ref qD, .int xA, .ref qR, .ref qM, .ref qT, .int (gb (4 * k)), .int (gb ((4 * k) + 1)), .int (gb ((4 * k) + 2)), .int (gb ((4 * k) + 3))])), (qY, .inl (g.2.1.1, 1024, .inl gb))]) [0, 1] (by decide) rfl
                    refine lv_if_eq (tgt := 204) hx hb dX6_isTaken_181 (by decide) (fun c_44 => ?_) (fun c_44 => ?_)
                    · skip
                      refine lv_iconst (v := 0) hx hb dX6_isTaken_204 (by decide) ?_
                      refine lv_istore (lv' := [(4, .int 0), (3, .int ((256 * (gb ((4 * k) + 2))) + (gb ((4 * k) + 3)))), (2, .int (nI (4 * k % 16))), (0, .ref hO), (1, .int (nI (4 * k)))]) hx hb dX6_isTaken_205 hl (by decide) rfl (fun ls hl => ?_)
                      refine lv_goto (tgt := 264) hx hb dX6_isTaken_207 (by decide) ?_
                      refine lv_iload hx hb dX6_isTaken_264 (lv_at hl 0 rfl) ?_
                      exact k_iret hx hb hr hlocks ⟨hK, hP, hD, hS, hA, hE, hN⟩ rfl dX6_isTaken_266 (Nat.le_of_ble_eq_true rfl) (Nat.le_of_ble_eq_true rfl) ⟨(by simp only [sp_X6_isTaken, if_neg c_0, if_neg c_13, if_neg c_26, if_neg c_32, if_neg c_38, if_pos c_39, if_pos c_41, if_pos c_42, if_neg c_43, if_pos c_44]), (gb (4 * k)), (gb ((4 * k) + 1)), (gb ((4 * k) + 2)), (gb ((4 * k) + 3)), rfl⟩
                    · skip
                      refine lv_aload_n hx hb dX6_isTaken_184 rfl (lv_at hl 3 rfl) ?_
                      refine lv_iload_n hx hb dX6_isTaken_185 rfl (lv_at hl 4 rfl) ?_
                      refine lv_iconst (v := 4) hx hb dX6_isTaken_186 (by decide) ?_
                      refine lv_isub hx hb dX6_isTaken_187 ?_
                      refine lv_topi (fun y9 e9 => ?_)
                      rw [show ((nI (4 * k)) - 4 : Int32) = nI ((4 * k) - 4) from pk_sub (a := (4 * k)) (b := 4) (by omega)] at e9
                      subst e9
                      refine lv_bipush (v := 17) hx hb dX6_isTaken_188 (by decide) ?_
                      refine lv_aload_n hx hb dX6_isTaken_190 rfl (lv_at hl 3 rfl) ?_
                      refine va_get (D := g.1) (ci := 4) (v := .int xB) (C := RX6) (T := TX6) (N := 17) hx hb hts iX6 hown hK hP 0 rfl rfl 1 (by decide) (hts (.fieldLink RX6 31 "FaultIsolationModel" "base" "I") (by decide +kernel)) (fun _ h9 => h9) rfl dX6_isTaken_191 ?_
                      refine kiV (As := [.int (nI ((4 * k) - 4)), .int 17, .int xB]) (rest := []) (wc := [(hO, .inr (4, [.int xT, .int xB, .int xC, .ref qP, .int xP, .ref qN, .int (nI (16 * b)), .ref qY, .ref qD, .int xA, .ref qR, .ref qM, .ref qT, .int (gb (4 * k)), .int (gb ((4 * k) + 1)), .int (gb ((4 * k) + 2)), .int (gb ((4 * k) + 3))])), (qY, .inl (g.2.1.1, 1024, .inl gb))]) (wr := []) ⟨hx, hb, hml, hown, hts⟩ (c_X6_isThere l g hO qP qN qY qD qR qM qT gb xT xB xC xP (nI (16 * b)) xA (gb (4 * k)) (gb ((4 * k) + 1)) (gb ((4 * k) + 2)) (gb ((4 * k) + 3)) ((4 * k) - 4) 17 xB (by omega)) (cwV 3 hts gX6_isTaken_X6_isThere rfl rfl rfl (by decide +kernel) ⟨Nat.le_of_ble_eq_true rfl, Nat.le_of_ble_eq_true rfl⟩) ⟨hK, hP, hD, hS, hA, hE, hN⟩ [0, 1] [] ⟨rfl, rfl, by decide⟩ (q0 := 0) (ci := 4) rfl rfl rfl rfl hl.1 (Nat.le_of_ble_eq_true rfl) dX6_isTaken_194 ⟨Nat.le_of_ble_eq_true rfl, Nat.le_of_ble_eq_true rfl⟩ rfl (fun r u H locs hw hP hD hS => ?_)
                      obtain ⟨hq, hw⟩ := hw
                      subst r
                      subst hw
                      have hP := hP.sub (ws' := [(hO, .inr (4, [.int xT, .int xB, .int xC, .ref qP, .int xP, .ref qN, .int (nI (16 * b)), .ref qY, .ref qD, .int xA, .ref qR, .ref qM, .ref qT, .int (gb (4 * k)), .int (gb ((4 * k) + 1)), .int (gb ((4 * k) + 2)), .int (gb ((4 * k) + 3))])), (qY, .inl (g.2.1.1, 1024, .inl gb))]) [0, 1] rfl
                      have hD := hD.sub (ws' := [(hO, .inr (4, [.int xT, .int xB, .int xC, .ref qP, .int xP, .ref qN, .int (nI (16 * b)), .ref qY, .ref qD, .int xA, .ref qR, .ref qM, .ref qT, .int (gb (4 * k)), .int (gb ((4 * k) + 1)), .int (gb ((4 * k) + 2)), .int (gb ((4 * k) + 3))])), (qY, .inl (g.2.1.1, 1024, .inl gb))]) [0, 1] (by decide) rfl
                      refine lv_if_eq (tgt := 204) hx hb dX6_isTaken_197 (by decide) (fun c_45 => ?_) (fun c_45 => ?_)
                      · skip
                        refine lv_iconst (v := 0) hx hb dX6_isTaken_204 (by decide) ?_
                        refine lv_istore (lv' := [(4, .int 0), (3, .int ((256 * (gb ((4 * k) + 2))) + (gb ((4 * k) + 3)))), (2, .int (nI (4 * k % 16))), (0, .ref hO), (1, .int (nI (4 * k)))]) hx hb dX6_isTaken_205 hl (by decide) rfl (fun ls hl => ?_)
                        refine lv_goto (tgt := 264) hx hb dX6_isTaken_207 (by decide) ?_
                        refine lv_iload hx hb dX6_isTaken_264 (lv_at hl 0 rfl) ?_
                        exact k_iret hx hb hr hlocks ⟨hK, hP, hD, hS, hA, hE, hN⟩ rfl dX6_isTaken_266 (Nat.le_of_ble_eq_true rfl) (Nat.le_of_ble_eq_true rfl) ⟨(by simp only [sp_X6_isTaken, if_neg c_0, if_neg c_13, if_neg c_26, if_neg c_32, if_neg c_38, if_pos c_39, if_pos c_41, if_pos c_42, if_neg c_43, if_neg c_44, if_pos c_45]), (gb (4 * k)), (gb ((4 * k) + 1)), (gb ((4 * k) + 2)), (gb ((4 * k) + 3)), rfl⟩
                      · skip
                        refine lv_iconst (v := 1) hx hb dX6_isTaken_200 (by decide) ?_
                        refine lv_goto (tgt := 205) hx hb dX6_isTaken_201 (by decide) ?_
                        refine lv_istore (lv' := [(4, .int 1), (3, .int ((256 * (gb ((4 * k) + 2))) + (gb ((4 * k) + 3)))), (2, .int (nI (4 * k % 16))), (0, .ref hO), (1, .int (nI (4 * k)))]) hx hb dX6_isTaken_205 hl (by decide) rfl (fun ls hl => ?_)
                        refine lv_goto (tgt := 264) hx hb dX6_isTaken_207 (by decide) ?_
                        refine lv_iload hx hb dX6_isTaken_264 (lv_at hl 0 rfl) ?_
                        exact k_iret hx hb hr hlocks ⟨hK, hP, hD, hS, hA, hE, hN⟩ rfl dX6_isTaken_266 (Nat.le_of_ble_eq_true rfl) (Nat.le_of_ble_eq_true rfl) ⟨(by simp only [sp_X6_isTaken, if_neg c_0, if_neg c_13, if_neg c_26, if_neg c_32, if_neg c_38, if_pos c_39, if_pos c_41, if_pos c_42, if_neg c_43, if_neg c_44, if_neg c_45]), (gb (4 * k)), (gb ((4 * k) + 1)), (gb ((4 * k) + 2)), (gb ((4 * k) + 3)), rfl⟩
            · skip
              refine lv_aload_n hx hb dX6_isTaken_132 rfl (lv_at hl 3 rfl) ?_
              refine va_get (D := g.1) (ci := 4) (v := .int (gb (4 * k))) (C := RX6) (T := TX6) (N := 17) hx hb hts iX6 hown hK hP 0 rfl rfl 13 (by decide) (hts (.fieldLink RX6 53 "FaultIsolationModel" "word" "I") (by decide +kernel)) (fun _ h9 => h9) rfl dX6_isTaken_133 ?_
              refine lv_bipush (v := 11) hx hb dX6_isTaken_136 (by decide) ?_
              refine lv_icmp_ne (tgt := 210) hx hb dX6_isTaken_138 (by decide) (fun c_46 => ?_) (fun c_46 => ?_)
              · skip
                refine lv_aload_n hx hb dX6_isTaken_210 rfl (lv_at hl 3 rfl) ?_
                refine va_get (D := g.1) (ci := 4) (v := .int (gb (4 * k))) (C := RX6) (T := TX6) (N := 17) hx hb hts iX6 hown hK hP 0 rfl rfl 13 (by decide) (hts (.fieldLink RX6 53 "FaultIsolationModel" "word" "I") (by decide +kernel)) (fun _ h9 => h9) rfl dX6_isTaken_211 ?_
                refine lv_bipush (v := 14) hx hb dX6_isTaken_214 (by decide) ?_
                refine lv_icmp_ne (tgt := 264) hx hb dX6_isTaken_216 (by decide) (fun c_47 => ?_) (fun c_47 => ?_)
                · skip
                  refine lv_iload hx hb dX6_isTaken_264 (lv_at hl 0 rfl) ?_
                  exact k_iret hx hb hr hlocks ⟨hK, hP, hD, hS, hA, hE, hN⟩ rfl dX6_isTaken_266 (Nat.le_of_ble_eq_true rfl) (Nat.le_of_ble_eq_true rfl) ⟨(by simp only [sp_X6_isTaken, if_neg c_0, if_neg c_13, if_neg c_26, if_neg c_32, if_neg c_38, if_neg c_39, if_neg c_46, if_neg c_47]), (gb (4 * k)), (gb ((4 * k) + 1)), (gb ((4 * k) + 2)), (gb ((4 * k) + 3)), rfl⟩
                · skip
                  refine lv_iload hx hb dX6_isTaken_219 (lv_at hl 0 rfl) ?_
                  refine lv_if_eq (tgt := 261) hx hb dX6_isTaken_221 (by decide) (fun c_48 => absurd c_48 (by decide)) (fun _ => ?_)
                  refine lv_aload_n hx hb dX6_isTaken_224 rfl (lv_at hl 3 rfl) ?_
                  refine va_get (D := g.1) (ci := 4) (v := .int (gb ((4 * k) + 1))) (C := RX6) (T := TX6) (N := 17) hx hb hts iX6 hown hK hP 0 rfl rfl 14 (by decide) (hts (.fieldLink RX6 56 "FaultIsolationModel" "a" "I") (by decide +kernel)) (fun _ h9 => h9) rfl dX6_isTaken_225 ?_
                  refine lv_bipush (v := 6) hx hb dX6_isTaken_228 (by decide) ?_
                  refine lv_icmp_ne (tgt := 261) hx hb dX6_isTaken_230 (by decide) (fun c_49 => ?_) (fun c_49 => ?_)
                  · skip
                    refine lv_iconst (v := 0) hx hb dX6_isTaken_261 (by decide) ?_
                    refine lv_istore (lv' := [(4, .int 0), (3, .int ((256 * (gb ((4 * k) + 2))) + (gb ((4 * k) + 3)))), (2, .int (nI (4 * k % 16))), (0, .ref hO), (1, .int (nI (4 * k)))]) hx hb dX6_isTaken_262 hl (by decide) rfl (fun ls hl => ?_)
                    refine lv_iload hx hb dX6_isTaken_264 (lv_at hl 0 rfl) ?_
                    exact k_iret hx hb hr hlocks ⟨hK, hP, hD, hS, hA, hE, hN⟩ rfl dX6_isTaken_266 (Nat.le_of_ble_eq_true rfl) (Nat.le_of_ble_eq_true rfl) ⟨(by simp only [sp_X6_isTaken, if_neg c_0, if_neg c_13, if_neg c_26, if_neg c_32, if_neg c_38, if_neg c_39, if_neg c_46, if_pos c_47, if_neg c_49]), (gb (4 * k)), (gb ((4 * k) + 1)), (gb ((4 * k) + 2)), (gb ((4 * k) + 3)), rfl⟩
                  · skip
                    refine lv_iload_n hx hb dX6_isTaken_233 rfl (lv_at hl 2 rfl) ?_
                    refine lv_iconst (v := 4) hx hb dX6_isTaken_234 (by decide) ?_
                    refine lv_icmp_lt (tgt := 261) hx hb dX6_isTaken_235 (by decide) (fun c_50 => ?_) (fun c_50 => ?_)
                    · skip
                      have z_50 := k_ltT (a := 4 * k % 16) (b := 4) c_50 (by omega) (by omega)
                      refine lv_iconst (v := 0) hx hb dX6_isTaken_261 (by decide) ?_
                      refine lv_istore (lv' := [(4, .int 0), (3, .int ((256 * (gb ((4 * k) + 2))) + (gb ((4 * k) + 3)))), (2, .int (nI (4 * k % 16))), (0, .ref hO), (1, .int (nI (4 * k)))]) hx hb dX6_isTaken_262 hl (by decide) rfl (fun ls hl => ?_)
                      refine lv_iload hx hb dX6_isTaken_264 (lv_at hl 0 rfl) ?_
                      exact k_iret hx hb hr hlocks ⟨hK, hP, hD, hS, hA, hE, hN⟩ rfl dX6_isTaken_266 (Nat.le_of_ble_eq_true rfl) (Nat.le_of_ble_eq_true rfl) ⟨(by simp only [sp_X6_isTaken, if_neg c_0, if_neg c_13, if_neg c_26, if_neg c_32, if_neg c_38, if_neg c_39, if_neg c_46, if_pos c_47, if_pos c_49, if_pos c_50]), (gb (4 * k)), (gb ((4 * k) + 1)), (gb ((4 * k) + 2)), (gb ((4 * k) + 3)), rfl⟩
                    · skip
                      have z_50 := k_ltF (a := 4 * k % 16) (b := 4) c_50 (by omega) (by omega)
                      refine lv_aload_n hx hb dX6_isTaken_238 rfl (lv_at hl 3 rfl) ?_
                      refine lv_iload_n hx hb dX6_isTaken_239 rfl (lv_at hl 4 rfl) ?_
                      refine lv_iconst (v := 4) hx hb dX6_isTaken_240 (by decide) ?_
                      refine lv_isub hx hb dX6_isTaken_241 ?_
                      refine lv_topi (fun y9 e9 => ?_)
                      rw [show ((nI (4 * k)) - 4 : Int32) = nI ((4 * k) - 4) from pk_sub (a := (4 * k)) (b := 4) (by omega)] at e9
                      subst e9
                      refine lv_bipush (v := 16) hx hb dX6_isTaken_242 (by decide) ?_
                      refine lv_aload_n hx hb dX6_isTaken_244 rfl (lv_at hl 3 rfl) ?_
                      refine va_get (D := g.1) (ci := 4) (v := .int (nI (16 * b))) (C := RX6) (T := TX6) (N := 17) hx hb hts iX6 hown hK hP 0 rfl rfl 6 (by decide) (hts (.fieldLink RX6 109 "FaultIsolationModel" "size" "I") (by decide +kernel)) (fun _ h9 => h9) rfl dX6_isTaken_245 ?_
                      refine lv_bipush (v := 16) hx hb dX6_isTaken_248 (by decide) ?_
                      refine lv_isub hx hb dX6_isTaken_250 ?_
                      refine lv_topi (fun y9 e9 => ?_)
                      rw [show ((nI (16 * b)) - 16 : Int32) = nI ((16 * b) - 16) from pk_sub (a := (16 * b)) (b := 16) (by omega)] at e9
                      subst e9
                      refine kiV (As := [.int (nI ((4 * k) - 4)), .int 16, .int (nI ((16 * b) - 16))]) (rest := []) (wc := [(hO, .inr (4, [.int xT, .int xB, .int xC, .ref qP, .int xP, .ref qN, .int (nI (16 * b)), .ref qY, .ref qD, .int xA, .ref qR, .ref qM, .ref qT, .int (gb (4 * k)), .int (gb ((4 * k) + 1)), .int (gb ((4 * k) + 2)), .int (gb ((4 * k) + 3))])), (qY, .inl (g.2.1.1, 1024, .inl gb))]) (wr := []) ⟨hx, hb, hml, hown, hts⟩ (c_X6_isThere l g hO qP qN qY qD qR qM qT gb xT xB xC xP (nI (16 * b)) xA (gb (4 * k)) (gb ((4 * k) + 1)) (gb ((4 * k) + 2)) (gb ((4 * k) + 3)) ((4 * k) - 4) 16 (nI ((16 * b) - 16)) (by omega)) (cwV 3 hts gX6_isTaken_X6_isThere rfl rfl rfl (by decide +kernel) ⟨Nat.le_of_ble_eq_true rfl, Nat.le_of_ble_eq_true rfl⟩) ⟨hK, hP, hD, hS, hA, hE, hN⟩ [0, 1] [] ⟨rfl, rfl, by decide⟩ (q0 := 0) (ci := 4) rfl rfl rfl rfl hl.1 (Nat.le_of_ble_eq_true rfl) dX6_isTaken_251 ⟨Nat.le_of_ble_eq_true rfl, Nat.le_of_ble_eq_true rfl⟩ rfl (fun r u H locs hw hP hD hS => ?_)
                      obtain ⟨hq, hw⟩ := hw
                      subst r
                      subst hw
                      have hP := hP.sub (ws' := [(hO, .inr (4, [.int xT, .int xB, .int xC, .ref qP, .int xP, .ref qN, .int (nI (16 * b)), .ref qY, .ref qD, .int xA, .ref qR, .ref qM, .ref qT, .int (gb (4 * k)), .int (gb ((4 * k) + 1)), .int (gb ((4 * k) + 2)), .int (gb ((4 * k) + 3))])), (qY, .inl (g.2.1.1, 1024, .inl gb))]) [0, 1] rfl
                      have hD := hD.sub (ws' := [(hO, .inr (4, [.int xT, .int xB, .int xC, .ref qP, .int xP, .ref qN, .int (nI (16 * b)), .ref qY, .ref qD, .int xA, .ref qR, .ref qM, .ref qT, .int (gb (4 * k)), .int (gb ((4 * k) + 1)), .int (gb ((4 * k) + 2)), .int (gb ((4 * k) + 3))])), (qY, .inl (g.2.1.1, 1024, .inl gb))]) [0, 1] (by decide) rfl
                      refine lv_if_eq (tgt := 261) hx hb dX6_isTaken_254 (by decide) (fun c_51 => ?_) (fun c_51 => ?_)
                      · skip
                        refine lv_iconst (v := 0) hx hb dX6_isTaken_261 (by decide) ?_
                        refine lv_istore (lv' := [(4, .int 0), (3, .int ((256 * (gb ((4 * k) + 2))) + (gb ((4 * k) + 3)))), (2, .int (nI (4 * k % 16))), (0, .ref hO), (1, .int (nI (4 * k)))]) hx hb dX6_isTaken_262 hl (by decide) rfl (fun ls hl => ?_)
                        refine lv_iload hx hb dX6_isTaken_264 (lv_at hl 0 rfl) ?_
                        exact k_iret hx hb hr hlocks ⟨hK, hP, hD, hS, hA, hE, hN⟩ rfl dX6_isTaken_266 (Nat.le_of_ble_eq_true rfl) (Nat.le_of_ble_eq_true rfl) ⟨(by simp only [sp_X6_isTaken, if_neg c_0, if_neg c_13, if_neg c_26, if_neg c_32, if_neg c_38, if_neg c_39, if_neg c_46, if_pos c_47, if_pos c_49, if_neg c_50, if_pos c_51]), (gb (4 * k)), (gb ((4 * k) + 1)), (gb ((4 * k) + 2)), (gb ((4 * k) + 3)), rfl⟩
                      · skip
                        refine lv_iconst (v := 1) hx hb dX6_isTaken_257 (by decide) ?_
                        refine lv_goto (tgt := 262) hx hb dX6_isTaken_258 (by decide) ?_
                        refine lv_istore (lv' := [(4, .int 1), (3, .int ((256 * (gb ((4 * k) + 2))) + (gb ((4 * k) + 3)))), (2, .int (nI (4 * k % 16))), (0, .ref hO), (1, .int (nI (4 * k)))]) hx hb dX6_isTaken_262 hl (by decide) rfl (fun ls hl => ?_)
                        refine lv_iload hx hb dX6_isTaken_264 (lv_at hl 0 rfl) ?_
                        exact k_iret hx hb hr hlocks ⟨hK, hP, hD, hS, hA, hE, hN⟩ rfl dX6_isTaken_266 (Nat.le_of_ble_eq_true rfl) (Nat.le_of_ble_eq_true rfl) ⟨(by simp only [sp_X6_isTaken, if_neg c_0, if_neg c_13, if_neg c_26, if_neg c_32, if_neg c_38, if_neg c_39, if_neg c_46, if_pos c_47, if_pos c_49, if_neg c_50, if_neg c_51]), (gb (4 * k)), (gb ((4 * k) + 1)), (gb ((4 * k) + 2)), (gb ((4 * k) + 3)), rfl⟩
              · skip
                refine lv_iload hx hb dX6_isTaken_141 (lv_at hl 0 rfl) ?_
                refine lv_if_eq (tgt := 204) hx hb dX6_isTaken_143 (by decide) (fun c_52 => absurd c_52 (by decide)) (fun _ => ?_)
                refine lv_aload_n hx hb dX6_isTaken_146 rfl (lv_at hl 3 rfl) ?_
                refine va_get (D := g.1) (ci := 4) (v := .int (gb ((4 * k) + 2))) (C := RX6) (T := TX6) (N := 17) hx hb hts iX6 hown hK hP 0 rfl rfl 15 (by decide) (hts (.fieldLink RX6 59 "FaultIsolationModel" "b" "I") (by decide +kernel)) (fun _ h9 => h9) rfl dX6_isTaken_147 ?_
                refine lv_bipush (v := 6) hx hb dX6_isTaken_150 (by decide) ?_
                refine lv_icmp_ne (tgt := 204) hx hb dX6_isTaken_152 (by decide) (fun c_53 => ?_) (fun c_53 => ?_)
                · skip
                  refine lv_iconst (v := 0) hx hb dX6_isTaken_204 (by decide) ?_
                  refine lv_istore (lv' := [(4, .int 0), (3, .int ((256 * (gb ((4 * k) + 2))) + (gb ((4 * k) + 3)))), (2, .int (nI (4 * k % 16))), (0, .ref hO), (1, .int (nI (4 * k)))]) hx hb dX6_isTaken_205 hl (by decide) rfl (fun ls hl => ?_)
                  refine lv_goto (tgt := 264) hx hb dX6_isTaken_207 (by decide) ?_
                  refine lv_iload hx hb dX6_isTaken_264 (lv_at hl 0 rfl) ?_
                  exact k_iret hx hb hr hlocks ⟨hK, hP, hD, hS, hA, hE, hN⟩ rfl dX6_isTaken_266 (Nat.le_of_ble_eq_true rfl) (Nat.le_of_ble_eq_true rfl) ⟨(by simp only [sp_X6_isTaken, if_neg c_0, if_neg c_13, if_neg c_26, if_neg c_32, if_neg c_38, if_neg c_39, if_pos c_46, if_neg c_53]), (gb (4 * k)), (gb ((4 * k) + 1)), (gb ((4 * k) + 2)), (gb ((4 * k) + 3)), rfl⟩
                · skip
                  refine lv_aload_n hx hb dX6_isTaken_155 rfl (lv_at hl 3 rfl) ?_
                  refine va_get (D := g.1) (ci := 4) (v := .int (gb ((4 * k) + 3))) (C := RX6) (T := TX6) (N := 17) hx hb hts iX6 hown hK hP 0 rfl rfl 16 (by decide) (hts (.fieldLink RX6 62 "FaultIsolationModel" "c" "I") (by decide +kernel)) (fun _ h9 => h9) rfl dX6_isTaken_156 ?_
                  refine lv_if_ne (tgt := 204) hx hb dX6_isTaken_159 (by decide) (fun c_54 => ?_) (fun c_54 => ?_)
                  · skip
                    refine lv_iconst (v := 0) hx hb dX6_isTaken_204 (by decide) ?_
                    refine lv_istore (lv' := [(4, .int 0), (3, .int ((256 * (gb ((4 * k) + 2))) + (gb ((4 * k) + 3)))), (2, .int (nI (4 * k % 16))), (0, .ref hO), (1, .int (nI (4 * k)))]) hx hb dX6_isTaken_205 hl (by decide) rfl (fun ls hl => ?_)
                    refine lv_goto (tgt := 264) hx hb dX6_isTaken_207 (by decide) ?_
                    refine lv_iload hx hb dX6_isTaken_264 (lv_at hl 0 rfl) ?_
                    exact k_iret hx hb hr hlocks ⟨hK, hP, hD, hS, hA, hE, hN⟩ rfl dX6_isTaken_266 (Nat.le_of_ble_eq_true rfl) (Nat.le_of_ble_eq_true rfl) ⟨(by simp only [sp_X6_isTaken, if_neg c_0, if_neg c_13, if_neg c_26, if_neg c_32, if_neg c_38, if_neg c_39, if_pos c_46, if_pos c_53, if_neg c_54]), (gb (4 * k)), (gb ((4 * k) + 1)), (gb ((4 * k) + 2)), (gb ((4 * k) + 3)), rfl⟩
                  · skip
                    refine lv_iload_n hx hb dX6_isTaken_162 rfl (lv_at hl 2 rfl) ?_
                    refine lv_bipush (v := 8) hx hb dX6_isTaken_163 (by decide) ?_
                    refine lv_icmp_lt (tgt := 204) hx hb dX6_isTaken_165 (by decide) (fun c_55 => ?_) (fun c_55 => ?_)
                    · skip
                      have z_55 := k_ltT (a := 4 * k % 16) (b := 8) c_55 (by omega) (by omega)
                      refine lv_iconst (v := 0) hx hb dX6_isTaken_204 (by decide) ?_
                      refine lv_istore (lv' := [(4, .int 0), (3, .int ((256 * (gb ((4 * k) + 2))) + (gb ((4 * k) + 3)))), (2, .int (nI (4 * k % 16))), (0, .ref hO), (1, .int (nI (4 * k)))]) hx hb dX6_isTaken_205 hl (by decide) rfl (fun ls hl => ?_)
                      refine lv_goto (tgt := 264) hx hb dX6_isTaken_207 (by decide) ?_
                      refine lv_iload hx hb dX6_isTaken_264 (lv_at hl 0 rfl) ?_
                      exact k_iret hx hb hr hlocks ⟨hK, hP, hD, hS, hA, hE, hN⟩ rfl dX6_isTaken_266 (Nat.le_of_ble_eq_true rfl) (Nat.le_of_ble_eq_true rfl) ⟨(by simp only [sp_X6_isTaken, if_neg c_0, if_neg c_13, if_neg c_26, if_neg c_32, if_neg c_38, if_neg c_39, if_pos c_46, if_pos c_53, if_pos c_54, if_pos c_55]), (gb (4 * k)), (gb ((4 * k) + 1)), (gb ((4 * k) + 2)), (gb ((4 * k) + 3)), rfl⟩
                    · skip
                      have z_55 := k_ltF (a := 4 * k % 16) (b := 8) c_55 (by omega) (by omega)
                      refine lv_aload_n hx hb dX6_isTaken_168 rfl (lv_at hl 3 rfl) ?_
                      refine lv_iload_n hx hb dX6_isTaken_169 rfl (lv_at hl 4 rfl) ?_
                      refine lv_bipush (v := 8) hx hb dX6_isTaken_170 (by decide) ?_
                      refine lv_isub hx hb dX6_isTaken_172 ?_
                      refine lv_topi (fun y9 e9 => ?_)
                      rw [show ((nI (4 * k)) - 8 : Int32) = nI ((4 * k) - 8) from pk_sub (a := (4 * k)) (b := 8) (by omega)] at e9
                      subst e9
                      refine lv_bipush (v := 16) hx hb dX6_isTaken_173 (by decide) ?_
                      refine lv_sipush (v := 1023) hx hb dX6_isTaken_175 (by decide) ?_
                      refine kiV (As := [.int (nI ((4 * k) - 8)), .int 16, .int 1023]) (rest := []) (wc := [(hO, .inr (4, [.int xT, .int xB, .int xC, .ref qP, .int xP, .ref qN, .int (nI (16 * b)), .ref qY, .ref qD, .int xA, .ref qR, .ref qM, .ref qT, .int (gb (4 * k)), .int (gb ((4 * k) + 1)), .int (gb ((4 * k) + 2)), .int (gb ((4 * k) + 3))])), (qY, .inl (g.2.1.1, 1024, .inl gb))]) (wr := []) ⟨hx, hb, hml, hown, hts⟩ (c_X6_isThere l g hO qP qN qY qD qR qM qT gb xT xB xC xP (nI (16 * b)) xA (gb (4 * k)) (gb ((4 * k) + 1)) (gb ((4 * k) + 2)) (gb ((4 * k) + 3)) ((4 * k) - 8) 16 1023 (by omega)) (cwV 3 hts gX6_isTaken_X6_isThere rfl rfl rfl (by decide +kernel) ⟨Nat.le_of_ble_eq_true rfl, Nat.le_of_ble_eq_true rfl⟩) ⟨hK, hP, hD, hS, hA, hE, hN⟩ [0, 1] [] ⟨rfl, rfl, by decide⟩ (q0 := 0) (ci := 4) rfl rfl rfl rfl hl.1 (Nat.le_of_ble_eq_true rfl) dX6_isTaken_178 ⟨Nat.le_of_ble_eq_true rfl, Nat.le_of_ble_eq_true rfl⟩ rfl (fun r u H locs hw hP hD hS => ?_)
                      obtain ⟨hq, hw⟩ := hw
                      subst r
                      subst hw
                      have hP := hP.sub (ws' := [(hO, .inr (4, [.int xT, .int xB, .int xC, .ref qP, .int xP, .ref qN, .int (nI (16 * b)), .ref qY, .ref qD, .int xA, .ref qR, .ref qM, .ref qT, .int (gb (4 * k)), .int (gb ((4 * k) + 1)), .int (gb ((4 * k) + 2)), .int (gb ((4 * k) + 3))])), (qY, .inl (g.2.1.1, 1024, .inl gb))]) [0, 1] rfl
                      have hD := hD.sub (ws' := [(hO, .inr (4, [.int xT, .int xB, .int xC, .ref qP, .int xP, .ref qN, .int (nI (16 * b)), .ref qY, .ref qD, .int xA, .ref qR, .ref qM, .ref qT, .int (gb (4 * k)), .int (gb ((4 * k) + 1)), .int (gb ((4 * k) + 2)), .int (gb ((4 * k) + 3))])), (qY, .inl (g.2.1.1, 1024, .inl gb))]) [0, 1] (by decide) rfl
                      refine lv_if_eq (tgt := 204) hx hb dX6_isTaken_181 (by decide) (fun c_56 => ?_) (fun c_56 => ?_)
                      · skip
                        refine lv_iconst (v := 0) hx hb dX6_isTaken_204 (by decide) ?_
                        refine lv_istore (lv' := [(4, .int 0), (3, .int ((256 * (gb ((4 * k) + 2))) + (gb ((4 * k) + 3)))), (2, .int (nI (4 * k % 16))), (0, .ref hO), (1, .int (nI (4 * k)))]) hx hb dX6_isTaken_205 hl (by decide) rfl (fun ls hl => ?_)
                        refine lv_goto (tgt := 264) hx hb dX6_isTaken_207 (by decide) ?_
                        refine lv_iload hx hb dX6_isTaken_264 (lv_at hl 0 rfl) ?_
                        exact k_iret hx hb hr hlocks ⟨hK, hP, hD, hS, hA, hE, hN⟩ rfl dX6_isTaken_266 (Nat.le_of_ble_eq_true rfl) (Nat.le_of_ble_eq_true rfl) ⟨(by simp only [sp_X6_isTaken, if_neg c_0, if_neg c_13, if_neg c_26, if_neg c_32, if_neg c_38, if_neg c_39, if_pos c_46, if_pos c_53, if_pos c_54, if_neg c_55, if_pos c_56]), (gb (4 * k)), (gb ((4 * k) + 1)), (gb ((4 * k) + 2)), (gb ((4 * k) + 3)), rfl⟩
                      · skip
                        refine lv_aload_n hx hb dX6_isTaken_184 rfl (lv_at hl 3 rfl) ?_
                        refine lv_iload_n hx hb dX6_isTaken_185 rfl (lv_at hl 4 rfl) ?_
                        refine lv_iconst (v := 4) hx hb dX6_isTaken_186 (by decide) ?_
                        refine lv_isub hx hb dX6_isTaken_187 ?_
                        refine lv_topi (fun y9 e9 => ?_)
                        rw [show ((nI (4 * k)) - 4 : Int32) = nI ((4 * k) - 4) from pk_sub (a := (4 * k)) (b := 4) (by omega)] at e9
                        subst e9
                        refine lv_bipush (v := 17) hx hb dX6_isTaken_188 (by decide) ?_
                        refine lv_aload_n hx hb dX6_isTaken_190 rfl (lv_at hl 3 rfl) ?_
                        refine va_get (D := g.1) (ci := 4) (v := .int xB) (C := RX6) (T := TX6) (N := 17) hx hb hts iX6 hown hK hP 0 rfl rfl 1 (by decide) (hts (.fieldLink RX6 31 "FaultIsolationModel" "base" "I") (by decide +kernel)) (fun _ h9 => h9) rfl dX6_isTaken_191 ?_
                        refine kiV (As := [.int (nI ((4 * k) - 4)), .int 17, .int xB]) (rest := []) (wc := [(hO, .inr (4, [.int xT, .int xB, .int xC, .ref qP, .int xP, .ref qN, .int (nI (16 * b)), .ref qY, .ref qD, .int xA, .ref qR, .ref qM, .ref qT, .int (gb (4 * k)), .int (gb ((4 * k) + 1)), .int (gb ((4 * k) + 2)), .int (gb ((4 * k) + 3))])), (qY, .inl (g.2.1.1, 1024, .inl gb))]) (wr := []) ⟨hx, hb, hml, hown, hts⟩ (c_X6_isThere l g hO qP qN qY qD qR qM qT gb xT xB xC xP (nI (16 * b)) xA (gb (4 * k)) (gb ((4 * k) + 1)) (gb ((4 * k) + 2)) (gb ((4 * k) + 3)) ((4 * k) - 4) 17 xB (by omega)) (cwV 3 hts gX6_isTaken_X6_isThere rfl rfl rfl (by decide +kernel) ⟨Nat.le_of_ble_eq_true rfl, Nat.le_of_ble_eq_true rfl⟩) ⟨hK, hP, hD, hS, hA, hE, hN⟩ [0, 1] [] ⟨rfl, rfl, by decide⟩ (q0 := 0) (ci := 4) rfl rfl rfl rfl hl.1 (Nat.le_of_ble_eq_true rfl) dX6_isTaken_194 ⟨Nat.le_of_ble_eq_true rfl, Nat.le_of_ble_eq_true rfl⟩ rfl (fun r u H locs hw hP hD hS => ?_)
                        obtain ⟨hq, hw⟩ := hw
                        subst r
                        subst hw
                        have hP := hP.sub (ws' := [(hO, .inr (4, [.int xT, .int xB, .int xC, .ref qP, .int xP, .ref qN, .int (nI (16 * b)), .ref qY, .ref qD, .int xA, .ref qR, .ref qM, .ref qT, .int (gb (4 * k)), .int (gb ((4 * k) + 1)), .int (gb ((4 * k) + 2)), .int (gb ((4 * k) + 3))])), (qY, .inl (g.2.1.1, 1024, .inl gb))]) [0, 1] rfl
                        have hD := hD.sub (ws' := [(hO, .inr (4, [.int xT, .int xB, .int xC, .ref qP, .int xP, .ref qN, .int (nI (16 * b)), .ref qY, .ref qD, .int xA, .ref qR, .ref qM, .ref qT, .int (gb (4 * k)), .int (gb ((4 * k) + 1)), .int (gb ((4 * k) + 2)), .int (gb ((4 * k) + 3))])), (qY, .inl (g.2.1.1, 1024, .inl gb))]) [0, 1] (by decide) rfl
                        refine lv_if_eq (tgt := 204) hx hb dX6_isTaken_197 (by decide) (fun c_57 => ?_) (fun c_57 => ?_)
                        · skip
                          refine lv_iconst (v := 0) hx hb dX6_isTaken_204 (by decide) ?_
                          refine lv_istore (lv' := [(4, .int 0), (3, .int ((256 * (gb ((4 * k) + 2))) + (gb ((4 * k) + 3)))), (2, .int (nI (4 * k % 16))), (0, .ref hO), (1, .int (nI (4 * k)))]) hx hb dX6_isTaken_205 hl (by decide) rfl (fun ls hl => ?_)
                          refine lv_goto (tgt := 264) hx hb dX6_isTaken_207 (by decide) ?_
                          refine lv_iload hx hb dX6_isTaken_264 (lv_at hl 0 rfl) ?_
                          exact k_iret hx hb hr hlocks ⟨hK, hP, hD, hS, hA, hE, hN⟩ rfl dX6_isTaken_266 (Nat.le_of_ble_eq_true rfl) (Nat.le_of_ble_eq_true rfl) ⟨(by simp only [sp_X6_isTaken, if_neg c_0, if_neg c_13, if_neg c_26, if_neg c_32, if_neg c_38, if_neg c_39, if_pos c_46, if_pos c_53, if_pos c_54, if_neg c_55, if_neg c_56, if_pos c_57]), (gb (4 * k)), (gb ((4 * k) + 1)), (gb ((4 * k) + 2)), (gb ((4 * k) + 3)), rfl⟩
                        · skip
                          refine lv_iconst (v := 1) hx hb dX6_isTaken_200 (by decide) ?_
                          refine lv_goto (tgt := 205) hx hb dX6_isTaken_201 (by decide) ?_
                          refine lv_istore (lv' := [(4, .int 1), (3, .int ((256 * (gb ((4 * k) + 2))) + (gb ((4 * k) + 3)))), (2, .int (nI (4 * k % 16))), (0, .ref hO), (1, .int (nI (4 * k)))]) hx hb dX6_isTaken_205 hl (by decide) rfl (fun ls hl => ?_)
                          refine lv_goto (tgt := 264) hx hb dX6_isTaken_207 (by decide) ?_
                          refine lv_iload hx hb dX6_isTaken_264 (lv_at hl 0 rfl) ?_
                          exact k_iret hx hb hr hlocks ⟨hK, hP, hD, hS, hA, hE, hN⟩ rfl dX6_isTaken_266 (Nat.le_of_ble_eq_true rfl) (Nat.le_of_ble_eq_true rfl) ⟨(by simp only [sp_X6_isTaken, if_neg c_0, if_neg c_13, if_neg c_26, if_neg c_32, if_neg c_38, if_neg c_39, if_pos c_46, if_pos c_53, if_pos c_54, if_neg c_55, if_neg c_56, if_neg c_57]), (gb (4 * k)), (gb ((4 * k) + 1)), (gb ((4 * k) + 2)), (gb ((4 * k) + 3)), rfl⟩
          · skip
            refine lv_iload hx hb dX6_isTaken_78 (lv_at hl 0 rfl) ?_
            refine lv_if_eq (tgt := 117) hx hb dX6_isTaken_80 (by decide) (fun c_58 => absurd c_58 (by decide)) (fun _ => ?_)
            refine lv_iload_n hx hb dX6_isTaken_83 rfl (lv_at hl 1 rfl) ?_
            refine lv_bipush (v := 16) hx hb dX6_isTaken_84 (by decide) ?_
            refine lv_irem hx hb dX6_isTaken_86 (by decide) ?_
            refine lv_if_ne (tgt := 117) hx hb dX6_isTaken_87 (by decide) (fun c_59 => ?_) (fun c_59 => ?_)
            · skip
              refine lv_iconst (v := 0) hx hb dX6_isTaken_117 (by decide) ?_
              refine lv_istore (lv' := [(4, .int 0), (3, .int ((256 * (gb ((4 * k) + 2))) + (gb ((4 * k) + 3)))), (2, .int (nI (4 * k % 16))), (0, .ref hO), (1, .int (nI (4 * k)))]) hx hb dX6_isTaken_118 hl (by decide) rfl (fun ls hl => ?_)
              refine lv_goto (tgt := 264) hx hb dX6_isTaken_120 (by decide) ?_
              refine lv_iload hx hb dX6_isTaken_264 (lv_at hl 0 rfl) ?_
              exact k_iret hx hb hr hlocks ⟨hK, hP, hD, hS, hA, hE, hN⟩ rfl dX6_isTaken_266 (Nat.le_of_ble_eq_true rfl) (Nat.le_of_ble_eq_true rfl) ⟨(by simp only [sp_X6_isTaken, if_neg c_0, if_neg c_13, if_neg c_26, if_neg c_32, if_pos c_38, if_neg c_59]), (gb (4 * k)), (gb ((4 * k) + 1)), (gb ((4 * k) + 2)), (gb ((4 * k) + 3)), rfl⟩
            · skip
              refine lv_iload_n hx hb dX6_isTaken_90 rfl (lv_at hl 1 rfl) ?_
              refine lv_aload_n hx hb dX6_isTaken_91 rfl (lv_at hl 3 rfl) ?_
              refine va_get (D := g.1) (ci := 4) (v := .int (nI (16 * b))) (C := RX6) (T := TX6) (N := 17) hx hb hts iX6 hown hK hP 0 rfl rfl 6 (by decide) (hts (.fieldLink RX6 109 "FaultIsolationModel" "size" "I") (by decide +kernel)) (fun _ h9 => h9) rfl dX6_isTaken_92 ?_
              refine lv_icmp_ge (tgt := 117) hx hb dX6_isTaken_95 (by decide) (fun c_60 => ?_) (fun c_60 => ?_)
              · skip
                refine lv_iconst (v := 0) hx hb dX6_isTaken_117 (by decide) ?_
                refine lv_istore (lv' := [(4, .int 0), (3, .int ((256 * (gb ((4 * k) + 2))) + (gb ((4 * k) + 3)))), (2, .int (nI (4 * k % 16))), (0, .ref hO), (1, .int (nI (4 * k)))]) hx hb dX6_isTaken_118 hl (by decide) rfl (fun ls hl => ?_)
                refine lv_goto (tgt := 264) hx hb dX6_isTaken_120 (by decide) ?_
                refine lv_iload hx hb dX6_isTaken_264 (lv_at hl 0 rfl) ?_
                exact k_iret hx hb hr hlocks ⟨hK, hP, hD, hS, hA, hE, hN⟩ rfl dX6_isTaken_266 (Nat.le_of_ble_eq_true rfl) (Nat.le_of_ble_eq_true rfl) ⟨(by simp only [sp_X6_isTaken, if_neg c_0, if_neg c_13, if_neg c_26, if_neg c_32, if_pos c_38, if_pos c_59, if_pos c_60]), (gb (4 * k)), (gb ((4 * k) + 1)), (gb ((4 * k) + 2)), (gb ((4 * k) + 3)), rfl⟩
              · skip
                refine lv_aload_n hx hb dX6_isTaken_98 rfl (lv_at hl 3 rfl) ?_
                refine va_get (D := g.1) (ci := 4) (v := .int (gb (4 * k))) (C := RX6) (T := TX6) (N := 17) hx hb hts iX6 hown hK hP 0 rfl rfl 13 (by decide) (hts (.fieldLink RX6 53 "FaultIsolationModel" "word" "I") (by decide +kernel)) (fun _ h9 => h9) rfl dX6_isTaken_99 ?_
                refine lv_bipush (v := 15) hx hb dX6_isTaken_102 (by decide) ?_
                refine lv_icmp_ne (tgt := 113) hx hb dX6_isTaken_104 (by decide) (fun c_61 => absurd c_38 c_61) (fun _ => ?_)
                refine lv_iload_n hx hb dX6_isTaken_107 rfl (lv_at hl 2 rfl) ?_
                refine lv_bipush (v := 12) hx hb dX6_isTaken_108 (by decide) ?_
                refine lv_icmp_ne (tgt := 117) hx hb dX6_isTaken_110 (by decide) (fun c_62 => ?_) (fun c_62 => ?_)
                · skip
                  have z_62 := k_eqF (a := 4 * k % 16) (b := 12) c_62 (by omega) (by omega)
                  refine lv_iconst (v := 0) hx hb dX6_isTaken_117 (by decide) ?_
                  refine lv_istore (lv' := [(4, .int 0), (3, .int ((256 * (gb ((4 * k) + 2))) + (gb ((4 * k) + 3)))), (2, .int (nI (4 * k % 16))), (0, .ref hO), (1, .int (nI (4 * k)))]) hx hb dX6_isTaken_118 hl (by decide) rfl (fun ls hl => ?_)
                  refine lv_goto (tgt := 264) hx hb dX6_isTaken_120 (by decide) ?_
                  refine lv_iload hx hb dX6_isTaken_264 (lv_at hl 0 rfl) ?_
                  exact k_iret hx hb hr hlocks ⟨hK, hP, hD, hS, hA, hE, hN⟩ rfl dX6_isTaken_266 (Nat.le_of_ble_eq_true rfl) (Nat.le_of_ble_eq_true rfl) ⟨(by simp only [sp_X6_isTaken, if_neg c_0, if_neg c_13, if_neg c_26, if_neg c_32, if_pos c_38, if_pos c_59, if_neg c_60, if_neg c_62]), (gb (4 * k)), (gb ((4 * k) + 1)), (gb ((4 * k) + 2)), (gb ((4 * k) + 3)), rfl⟩
                · skip
                  have z_62 := k_eqT (a := 4 * k % 16) (b := 12) c_62 (by omega) (by omega)
                  refine lv_iconst (v := 1) hx hb dX6_isTaken_113 (by decide) ?_
                  refine lv_goto (tgt := 118) hx hb dX6_isTaken_114 (by decide) ?_
                  refine lv_istore (lv' := [(4, .int 1), (3, .int ((256 * (gb ((4 * k) + 2))) + (gb ((4 * k) + 3)))), (2, .int (nI (4 * k % 16))), (0, .ref hO), (1, .int (nI (4 * k)))]) hx hb dX6_isTaken_118 hl (by decide) rfl (fun ls hl => ?_)
                  refine lv_goto (tgt := 264) hx hb dX6_isTaken_120 (by decide) ?_
                  refine lv_iload hx hb dX6_isTaken_264 (lv_at hl 0 rfl) ?_
                  exact k_iret hx hb hr hlocks ⟨hK, hP, hD, hS, hA, hE, hN⟩ rfl dX6_isTaken_266 (Nat.le_of_ble_eq_true rfl) (Nat.le_of_ble_eq_true rfl) ⟨(by simp only [sp_X6_isTaken, if_neg c_0, if_neg c_13, if_neg c_26, if_neg c_32, if_pos c_38, if_pos c_59, if_neg c_60, if_pos c_62]), (gb (4 * k)), (gb ((4 * k) + 1)), (gb ((4 * k) + 2)), (gb ((4 * k) + 3)), rfl⟩
