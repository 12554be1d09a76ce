def sp_X6_isSound (gp : Nat → Int32) (n : Nat) (k : Nat) : Int32 := if (gp (4 * k)) < 16 then (if (sp_X6_areRegisters (gp (4 * k)) (gp ((4 * k) + 1)) (gp ((4 * k) + 2)) (gp ((4 * k) + 3))) = 0 then 0 else (if (sp_X6_hasA (gp (4 * k))) = 0 then (if (sp_X6_hasB (gp (4 * k))) = 0 then (if (sp_X6_hasC (gp (4 * k))) = 0 then (if (sp_X6_isPlace (gp (4 * k))) = 0 then 1 else (if (nI n) ≤ ((256 * (gp ((4 * k) + 2))) + (gp ((4 * k) + 3))) then 0 else 1)) else (if (gp ((4 * k) + 3)) = 6 then 0 else (if (sp_X6_isPlace (gp (4 * k))) = 0 then 1 else (if (nI n) ≤ ((256 * (gp ((4 * k) + 2))) + (gp ((4 * k) + 3))) then 0 else 1)))) else (if (gp ((4 * k) + 2)) = 6 then 0 else (if (sp_X6_hasC (gp (4 * k))) = 0 then (if (sp_X6_isPlace (gp (4 * k))) = 0 then 1 else (if (nI n) ≤ ((256 * (gp ((4 * k) + 2))) + (gp ((4 * k) + 3))) then 0 else 1)) else (if (gp ((4 * k) + 3)) = 6 then 0 else (if (sp_X6_isPlace (gp (4 * k))) = 0 then 1 else (if (nI n) ≤ ((256 * (gp ((4 * k) + 2))) + (gp ((4 * k) + 3))) then 0 else 1)))))) else (if (gp ((4 * k) + 1)) = 6 then 0 else (if (sp_X6_hasB (gp (4 * k))) = 0 then (if (sp_X6_hasC (gp (4 * k))) = 0 then (if (sp_X6_isPlace (gp (4 * k))) = 0 then 1 else (if (nI n) ≤ ((256 * (gp ((4 * k) + 2))) + (gp ((4 * k) + 3))) then 0 else 1)) else (if (gp ((4 * k) + 3)) = 6 then 0 else (if (sp_X6_isPlace (gp (4 * k))) = 0 then 1 else (if (nI n) ≤ ((256 * (gp ((4 * k) + 2))) + (gp ((4 * k) + 3))) then 0 else 1)))) else (if (gp ((4 * k) + 2)) = 6 then 0 else (if (sp_X6_hasC (gp (4 * k))) = 0 then (if (sp_X6_isPlace (gp (4 * k))) = 0 then 1 else (if (nI n) ≤ ((256 * (gp ((4 * k) + 2))) + (gp ((4 * k) + 3))) then 0 else 1)) else (if (gp ((4 * k) + 3)) = 6 then 0 else (if (sp_X6_isPlace (gp (4 * k))) = 0 then 1 else (if (nI n) ≤ ((256 * (gp ((4 * k) + 2))) + (gp ((4 * k) + 3))) then 0 else 1))))))))) else (if (gp (4 * k)) = 18 then (if (sp_X6_areRegisters (gp (4 * k)) (gp ((4 * k) + 1)) (gp ((4 * k) + 2)) (gp ((4 * k) + 3))) = 0 then 0 else (if (sp_X6_hasA (gp (4 * k))) = 0 then (if (sp_X6_hasB (gp (4 * k))) = 0 then (if (sp_X6_hasC (gp (4 * k))) = 0 then (if (sp_X6_isPlace (gp (4 * k))) = 0 then 1 else (if (nI n) ≤ ((256 * (gp ((4 * k) + 2))) + (gp ((4 * k) + 3))) then 0 else 1)) else (if (gp ((4 * k) + 3)) = 6 then 0 else (if (sp_X6_isPlace (gp (4 * k))) = 0 then 1 else (if (nI n) ≤ ((256 * (gp ((4 * k) + 2))) + (gp ((4 * k) + 3))) then 0 else 1)))) else (if (gp ((4 * k) + 2)) = 6 then 0 else (if (sp_X6_hasC (gp (4 * k))) = 0 then (if (sp_X6_isPlace (gp (4 * k))) = 0 then 1 else (if (nI n) ≤ ((256 * (gp ((4 * k) + 2))) + (gp ((4 * k) + 3))) then 0 else 1)) else (if (gp ((4 * k) + 3)) = 6 then 0 else (if (sp_X6_isPlace (gp (4 * k))) = 0 then 1 else (if (nI n) ≤ ((256 * (gp ((4 * k) + 2))) + (gp ((4 * k) + 3))) then 0 else 1)))))) else (if (gp ((4 * k) + 1)) = 6 then 0 else (if (sp_X6_hasB (gp (4 * k))) = 0 then (if (sp_X6_hasC (gp (4 * k))) = 0 then (if (sp_X6_isPlace (gp (4 * k))) = 0 then 1 else (if (nI n) ≤ ((256 * (gp ((4 * k) + 2))) + (gp ((4 * k) + 3))) then 0 else 1)) else (if (gp ((4 * k) + 3)) = 6 then 0 else (if (sp_X6_isPlace (gp (4 * k))) = 0 then 1 else (if (nI n) ≤ ((256 * (gp ((4 * k) + 2))) + (gp ((4 * k) + 3))) then 0 else 1)))) else (if (gp ((4 * k) + 2)) = 6 then 0 else (if (sp_X6_hasC (gp (4 * k))) = 0 then (if (sp_X6_isPlace (gp (4 * k))) = 0 then 1 else (if (nI n) ≤ ((256 * (gp ((4 * k) + 2))) + (gp ((4 * k) + 3))) then 0 else 1)) else (if (gp ((4 * k) + 3)) = 6 then 0 else (if (sp_X6_isPlace (gp (4 * k))) = 0 then 1 else (if (nI n) ≤ ((256 * (gp ((4 * k) + 2))) + (gp ((4 * k) + 3))) then 0 else 1))))))))) else 0)
theorem sp_X6_isSound_b (gp : Nat → Int32) (n : Nat) (k : Nat) : sp_X6_isSound gp n k = 0 ∨ sp_X6_isSound gp n k = 1 := by
  unfold sp_X6_isSound
  exact k_if01 (k_if01 (Or.inl rfl) (k_if01 (k_if01 (k_if01 (k_if01 (Or.inr rfl) (k_if01 (Or.inl rfl) (Or.inr rfl))) (k_if01 (Or.inl rfl) (k_if01 (Or.inr rfl) (k_if01 (Or.inl rfl) (Or.inr rfl))))) (k_if01 (Or.inl rfl) (k_if01 (k_if01 (Or.inr rfl) (k_if01 (Or.inl rfl) (Or.inr rfl))) (k_if01 (Or.inl rfl) (k_if01 (Or.inr rfl) (k_if01 (Or.inl rfl) (Or.inr rfl))))))) (k_if01 (Or.inl rfl) (k_if01 (k_if01 (k_if01 (Or.inr rfl) (k_if01 (Or.inl rfl) (Or.inr rfl))) (k_if01 (Or.inl rfl) (k_if01 (Or.inr rfl) (k_if01 (Or.inl rfl) (Or.inr rfl))))) (k_if01 (Or.inl rfl) (k_if01 (k_if01 (Or.inr rfl) (k_if01 (Or.inl rfl) (Or.inr rfl))) (k_if01 (Or.inl rfl) (k_if01 (Or.inr rfl) (k_if01 (Or.inl rfl) (Or.inr rfl)))))))))) (k_if01 (k_if01 (Or.inl rfl) (k_if01 (k_if01 (k_if01 (k_if01 (Or.inr rfl) (k_if01 (Or.inl rfl) (Or.inr rfl))) (k_if01 (Or.inl rfl) (k_if01 (Or.inr rfl) (k_if01 (Or.inl rfl) (Or.inr rfl))))) (k_if01 (Or.inl rfl) (k_if01 (k_if01 (Or.inr rfl) (k_if01 (Or.inl rfl) (Or.inr rfl))) (k_if01 (Or.inl rfl) (k_if01 (Or.inr rfl) (k_if01 (Or.inl rfl) (Or.inr rfl))))))) (k_if01 (Or.inl rfl) (k_if01 (k_if01 (k_if01 (Or.inr rfl) (k_if01 (Or.inl rfl) (Or.inr rfl))) (k_if01 (Or.inl rfl) (k_if01 (Or.inr rfl) (k_if01 (Or.inl rfl) (Or.inr rfl))))) (k_if01 (Or.inl rfl) (k_if01 (k_if01 (Or.inr rfl) (k_if01 (Or.inl rfl) (Or.inr rfl))) (k_if01 (Or.inl rfl) (k_if01 (Or.inr rfl) (k_if01 (Or.inl rfl) (Or.inr rfl)))))))))) (Or.inl rfl))
set_option maxHeartbeats 4000000 in
set_option maxRecDepth 100000 in
theorem c_X6_isSound (l : Launch) (g : KG) (hO : Nat) (qP : Nat) (qN : Nat) (qY : Nat) (qD : Nat) (qR : Nat) (qM : Nat) (qT : Nat) (gp : Nat → Int32) (xT : Int32) (xB : Int32) (n : Nat) (xP : Int32) (xS : Int32) (xA : Int32) (xw : Int32) (xa : Int32) (xb : Int32) (xc : Int32) (k : Nat) (hn : n ≤ 60) (hk : k < 60) : Ci l g yX6_isSound wsX6_isSound ({ frames := 2, cells := 0, slots := 0, locals := 40 }) [.ref hO, .int (nI k)] [(hO, .inr (4, [.int xT, .int xB, .int (nI n), .ref qP, .int xP, .ref qN, .int xS, .ref qY, .ref qD, .int xA, .ref qR, .ref qM, .ref qT, .int xw, .int xa, .int xb, .int xc])), (qP, .inl (g.2.1.1, 240, .inl gp))] (fun r u => r = sp_X6_isSound gp n k ∧ ∃ (y0_13 : Int32) (y0_14 : Int32) (y0_15 : Int32) (y0_16 : Int32), u = [(hO, .inr (4, [.int xT, .int xB, .int (nI n), .ref qP, .int xP, .ref qN, .int xS, .ref qY, .ref qD, .int xA, .ref qR, .ref qM, .ref qT, .int y0_13, .int y0_14, .int y0_15, .int y0_16])), (qP, .inl (g.2.1.1, 240, .inl gp))]) 0 0 := by
  intro sz
  refine Met.ofW (cc := cX6_isSound) (maxL := 3) (ret := (some .boolean)) (by decide) rfl ?_
  intro p e s m args below meth c s₁ B hml hv
  obtain ⟨rfl, hsz, hP, hK, hD0, hE, hN⟩ := hv
  have hx := B.exec
  have hb := B.bytes
  have hr := B.returns
  have hts := atoms_spec (ws := wsX6_isSound) B.pre
  have hown : s.vm.findClass RX6 = some m.cls := findClass_of_methodNamed B.named
  have hlocks := B.notSynchronized
  have iX6 : ∀ w ∈ u_ws RX6 TX6 17, w ∈ wsX6_isSound := by decide +kernel
  subst hsz
  have hD := hD0.self (sz := s.heap.size)
  generalize hAe : va_A [(hO, .inr (4, [.int xT, .int xB, .int (nI n), .ref qP, .int xP, .ref qN, .int xS, .ref qY, .ref qD, .int xA, .ref qR, .ref qM, .ref qT, .int xw, .int xa, .int xb, .int xc])), (qP, .inl (g.2.1.1, 240, .inl gp))] s.heap.size = A at hD hE ⊢
  have hA : ∀ q : Nat, s.heap.size ≤ q → A q := fun q h => by rw [← hAe]; exact Or.inr h
  have hS : va_S A s.heap s.heap [] := va_S.rf
  have hl := lv_entry ([.ref hO, .int (nI k)]) (n := 3) (Nat.le_of_ble_eq_true rfl)
  rw [lg_entry_eq]
  generalize (lg_sl ([.ref hO, .int (nI k)]) ++ List.replicate (3 - (lg_sl ([.ref hO, .int (nI k)])).length) Slot.unset).toArray = ls at hl ⊢
  have hl : lv_has ls 3 [(0, .ref hO), (1, .int (nI k))] := hl
  refine lv_aload_n hx hb dX6_isSound_0 rfl (lv_at hl 0 rfl) ?_
  refine lv_aload_n hx hb dX6_isSound_1 rfl (lv_at hl 0 rfl) ?_
  refine va_get (D := g.1) (ci := 4) (v := .ref qP) (C := RX6) (T := TX6) (N := 17) hx hb hts iX6 hown hK hP 0 rfl rfl 3 (by decide) (hts (.fieldLink RX6 7 "FaultIsolationModel" "program" "[I") (by decide +kernel)) (fun _ h9 => h9) rfl dX6_isSound_2 ?_
  refine lv_iconst (v := 4) hx hb dX6_isSound_5 (by decide) ?_
  refine lv_iload_n hx hb dX6_isSound_6 rfl (lv_at hl 1 rfl) ?_
  refine lv_imul hx hb dX6_isSound_7 ?_
  refine lv_topi (fun y9 e9 => ?_)
  rw [show (4 * (nI k) : Int32) = nI (4 * k) from pk_mul _ _] at e9
  subst e9
  refine kvV (As := [.ref qP, .int (nI (4 * k))]) (rest := []) (wc := [(hO, .inr (4, [.int xT, .int xB, .int (nI n), .ref qP, .int xP, .ref qN, .int xS, .ref qY, .ref qD, .int xA, .ref qR, .ref qM, .ref qT, .int xw, .int xa, .int xb, .int xc])), (qP, .inl (g.2.1.1, 240, .inl gp))]) (wr := []) ⟨hx, hb, hml, hown, hts⟩ (c_X6_look l g hO qP qN qY qD qR qM qT xT xB (nI n) xP xS xA xw xa xb xc qP 240 gp (4 * k) (by decide) (by omega)) (cwV 2 hts gX6_isSound_X6_look rfl rfl rfl (by decide +kernel) ⟨Nat.le_of_ble_eq_true rfl, Nat.le_of_ble_eq_true rfl⟩) ⟨hK, hP, hD, hS, hA, hE, hN⟩ [0, 1] [] ⟨rfl, rfl, by decide⟩ (q0 := 0) (ci := 4) rfl rfl rfl rfl hl.1 (Nat.le_of_ble_eq_true rfl) dX6_isSound_8 ⟨Nat.le_of_ble_eq_true rfl, Nat.le_of_ble_eq_true rfl⟩ rfl (fun u H locs hw hP hD hS => ?_)
  subst hw
  have hP := hP.sub (ws' := [(hO, .inr (4, [.int xT, .int xB, .int (nI n), .ref qP, .int xP, .ref qN, .int xS, .ref qY, .ref qD, .int xA, .ref qR, .ref qM, .ref qT, .int (gp (4 * k)), .int (gp ((4 * k) + 1)), .int (gp ((4 * k) + 2)), .int (gp ((4 * k) + 3))])), (qP, .inl (g.2.1.1, 240, .inl gp))]) [0, 1] rfl
  have hD := hD.sub (ws' := [(hO, .inr (4, [.int xT, .int xB, .int (nI n), .ref qP, .int xP, .ref qN, .int xS, .ref qY, .ref qD, .int xA, .ref qR, .ref qM, .ref qT, .int (gp (4 * k)), .int (gp ((4 * k) + 1)), .int (gp ((4 * k) + 2)), .int (gp ((4 * k) + 3))])), (qP, .inl (g.2.1.1, 240, .inl gp))]) [0, 1] (by decide) rfl
  refine lv_aload_n hx hb dX6_isSound_11 rfl (lv_at hl 0 rfl) ?_
  refine va_get (D := g.1) (ci := 4) (v := .int (gp (4 * k))) (C := RX6) (T := TX6) (N := 17) hx hb hts iX6 hown hK hP 0 rfl rfl 13 (by decide) (hts (.fieldLink RX6 53 "FaultIsolationModel" "word" "I") (by decide +kernel)) (fun _ h9 => h9) rfl dX6_isSound_12 ?_
  refine lv_bipush (v := 16) hx hb dX6_isSound_15 (by decide) ?_
  refine lv_icmp_lt (tgt := 29) hx hb dX6_isSound_17 (by decide) (fun c_0 => ?_) (fun c_0 => ?_)
  · skip
    refine lv_aload_n hx hb dX6_isSound_29 rfl (lv_at hl 0 rfl) ?_
    refine kiV (As := []) (rest := []) (wc := [(hO, .inr (4, [.int xT, .int xB, .int (nI n), .ref qP, .int xP, .ref qN, .int xS, .ref qY, .ref qD, .int xA, .ref qR, .ref qM, .ref qT, .int (gp (4 * k)), .int (gp ((4 * k) + 1)), .int (gp ((4 * k) + 2)), .int (gp ((4 * k) + 3))]))]) (wr := [(qP, .inl (g.2.1.1, 240, .inl gp))]) ⟨hx, hb, hml, hown, hts⟩ (c_X6_areRegisters l g hO qP qN qY qD qR qM qT xT xB (nI n) xP xS xA (gp (4 * k)) (gp ((4 * k) + 1)) (gp ((4 * k) + 2)) (gp ((4 * k) + 3))) (cwV 0 hts gX6_isSound_X6_areRegisters rfl rfl rfl (by decide +kernel) ⟨Nat.le_of_ble_eq_true rfl, Nat.le_of_ble_eq_true rfl⟩) ⟨hK, hP, hD, hS, hA, hE, hN⟩ [0] [1] ⟨rfl, rfl, by decide⟩ (q0 := 0) (ci := 4) rfl rfl rfl rfl hl.1 (Nat.le_of_ble_eq_true rfl) dX6_isSound_30 ⟨Nat.le_of_ble_eq_true rfl, Nat.le_of_ble_eq_true rfl⟩ rfl (fun r u H locs hw hP hD hS => ?_)
    obtain ⟨hq, hw⟩ := hw
    subst r
    subst hw
    have hP := hP.sub (ws' := [(hO, .inr (4, [.int xT, .int xB, .int (nI n), .ref qP, .int xP, .ref qN, .int xS, .ref qY, .ref qD, .int xA, .ref qR, .ref qM, .ref qT, .int (gp (4 * k)), .int (gp ((4 * k) + 1)), .int (gp ((4 * k) + 2)), .int (gp ((4 * k) + 3))])), (qP, .inl (g.2.1.1, 240, .inl gp))]) [1, 0] rfl
    have hD := hD.sub (ws' := [(hO, .inr (4, [.int xT, .int xB, .int (nI n), .ref qP, .int xP, .ref qN, .int xS, .ref qY, .ref qD, .int xA, .ref qR, .ref qM, .ref qT, .int (gp (4 * k)), .int (gp ((4 * k) + 1)), .int (gp ((4 * k) + 2)), .int (gp ((4 * k) + 3))])), (qP, .inl (g.2.1.1, 240, .inl gp))]) [1, 0] (by decide) rfl
    refine lv_if_eq (tgt := 40) hx hb dX6_isSound_33 (by decide) (fun c_1 => ?_) (fun c_1 => ?_)
    · skip
      refine lv_iconst (v := 0) hx hb dX6_isSound_40 (by decide) ?_
      refine lv_istore_n (lv' := [(2, .int 0), (0, .ref hO), (1, .int (nI k))]) hx hb dX6_isSound_41 rfl hl (by decide) rfl (fun ls hl => ?_)
      refine lv_iload_n hx hb dX6_isSound_42 rfl (lv_at hl 0 rfl) ?_
      refine lv_if_eq (tgt := 107) hx hb dX6_isSound_43 (by decide) (fun _ => ?_) (fun c_2 => absurd c_2 (by decide))
      refine lv_iconst (v := 0) hx hb dX6_isSound_107 (by decide) ?_
      refine lv_istore_n (lv' := [(2, .int 0), (0, .ref hO), (1, .int (nI k))]) hx hb dX6_isSound_108 rfl hl (by decide) rfl (fun ls hl => ?_)
      refine lv_iload_n hx hb dX6_isSound_109 rfl (lv_at hl 0 rfl) ?_
      refine lv_if_eq (tgt := 147) hx hb dX6_isSound_110 (by decide) (fun _ => ?_) (fun c_3 => absurd c_3 (by decide))
      refine lv_iconst (v := 0) hx hb dX6_isSound_147 (by decide) ?_
      exact k_iret hx hb hr hlocks ⟨hK, hP, hD, hS, hA, hE, hN⟩ rfl dX6_isSound_148 (Nat.le_of_ble_eq_true rfl) (Nat.le_of_ble_eq_true rfl) ⟨(by simp only [sp_X6_isSound, if_pos c_0, if_pos c_1]), (gp (4 * k)), (gp ((4 * k) + 1)), (gp ((4 * k) + 2)), (gp ((4 * k) + 3)), rfl⟩
    · skip
      refine lv_iconst (v := 1) hx hb dX6_isSound_36 (by decide) ?_
      refine lv_goto (tgt := 41) hx hb dX6_isSound_37 (by decide) ?_
      refine lv_istore_n (lv' := [(2, .int 1), (0, .ref hO), (1, .int (nI k))]) hx hb dX6_isSound_41 rfl hl (by decide) rfl (fun ls hl => ?_)
      refine lv_iload_n hx hb dX6_isSound_42 rfl (lv_at hl 0 rfl) ?_
      refine lv_if_eq (tgt := 107) hx hb dX6_isSound_43 (by decide) (fun c_4 => absurd c_4 (by decide)) (fun _ => ?_)
      refine lv_aload_n hx hb dX6_isSound_46 rfl (lv_at hl 1 rfl) ?_
      refine va_get (D := g.1) (ci := 4) (v := .int (gp (4 * k))) (C := RX6) (T := TX6) (N := 17) hx hb hts iX6 hown hK hP 0 rfl rfl 13 (by decide) (hts (.fieldLink RX6 53 "FaultIsolationModel" "word" "I") (by decide +kernel)) (fun _ h9 => h9) rfl dX6_isSound_47 ?_
      refine kiS (As := [.int (gp (4 * k))]) (rest := []) (wc := []) (wr := [(hO, .inr (4, [.int xT, .int xB, .int (nI n), .ref qP, .int xP, .ref qN, .int xS, .ref qY, .ref qD, .int xA, .ref qR, .ref qM, .ref qT, .int (gp (4 * k)), .int (gp ((4 * k) + 1)), .int (gp ((4 * k) + 2)), .int (gp ((4 * k) + 3))])), (qP, .inl (g.2.1.1, 240, .inl gp))]) ⟨hx, hb, hml, hown, hts⟩ (c_X6_hasA l g (gp (4 * k))) (va_cwS 1 hts gX6_isSound_X6_hasA rfl rfl rfl (by decide +kernel) ⟨Nat.le_of_ble_eq_true rfl, Nat.le_of_ble_eq_true rfl⟩) ⟨hK, hP, hD, hS, hA, hE, hN⟩ [] [0, 1] ⟨rfl, rfl, by decide⟩ rfl hl.1 (Nat.le_of_ble_eq_true rfl) dX6_isSound_50 ⟨Nat.le_of_ble_eq_true rfl, Nat.le_of_ble_eq_true rfl⟩ rfl (fun r u H locs hw hP hD hS => ?_)
      obtain ⟨hq, hw⟩ := hw
      subst r
      subst hw
      have hP := hP.sub (ws' := [(hO, .inr (4, [.int xT, .int xB, .int (nI n), .ref qP, .int xP, .ref qN, .int xS, .ref qY, .ref qD, .int xA, .ref qR, .ref qM, .ref qT, .int (gp (4 * k)), .int (gp ((4 * k) + 1)), .int (gp ((4 * k) + 2)), .int (gp ((4 * k) + 3))])), (qP, .inl (g.2.1.1, 240, .inl gp))]) [0, 1] rfl
      have hD := hD.sub (ws' := [(hO, .inr (4, [.int xT, .int xB, .int (nI n), .ref qP, .int xP, .ref qN, .int xS, .ref qY, .ref qD, .int xA, .ref qR, .ref qM, .ref qT, .int (gp (4 * k)), .int (gp ((4 * k) + 1)), .int (gp ((4 * k) + 2)), .int (gp ((4 * k) + 3))])), (qP, .inl (g.2.1.1, 240, .inl gp))]) [0, 1] (by decide) rfl
      refine lv_if_eq (tgt := 65) hx hb dX6_isSound_53 (by decide) (fun c_5 => ?_) (fun c_5 => ?_)
      · skip
        refine lv_aload_n hx hb dX6_isSound_65 rfl (lv_at hl 1 rfl) ?_
        refine va_get (D := g.1) (ci := 4) (v := .int (gp (4 * k))) (C := RX6) (T := TX6) (N := 17) hx hb hts iX6 hown hK hP 0 rfl rfl 13 (by decide) (hts (.fieldLink RX6 53 "FaultIsolationModel" "word" "I") (by decide +kernel)) (fun _ h9 => h9) rfl dX6_isSound_66 ?_
        refine kiS (As := [.int (gp (4 * k))]) (rest := []) (wc := []) (wr := [(hO, .inr (4, [.int xT, .int xB, .int (nI n), .ref qP, .int xP, .ref qN, .int xS, .ref qY, .ref qD, .int xA, .ref qR, .ref qM, .ref qT, .int (gp (4 * k)), .int (gp ((4 * k) + 1)), .int (gp ((4 * k) + 2)), .int (gp ((4 * k) + 3))])), (qP, .inl (g.2.1.1, 240, .inl gp))]) ⟨hx, hb, hml, hown, hts⟩ (c_X6_hasB l g (gp (4 * k))) (va_cwS 1 hts gX6_isSound_X6_hasB rfl rfl rfl (by decide +kernel) ⟨Nat.le_of_ble_eq_true rfl, Nat.le_of_ble_eq_true rfl⟩) ⟨hK, hP, hD, hS, hA, hE, hN⟩ [] [0, 1] ⟨rfl, rfl, by decide⟩ rfl hl.1 (Nat.le_of_ble_eq_true rfl) dX6_isSound_69 ⟨Nat.le_of_ble_eq_true rfl, Nat.le_of_ble_eq_true rfl⟩ rfl (fun r u H locs hw hP hD hS => ?_)
        obtain ⟨hq, hw⟩ := hw
        subst r
        subst hw
        have hP := hP.sub (ws' := [(hO, .inr (4, [.int xT, .int xB, .int (nI n), .ref qP, .int xP, .ref qN, .int xS, .ref qY, .ref qD, .int xA, .ref qR, .ref qM, .ref qT, .int (gp (4 * k)), .int (gp ((4 * k) + 1)), .int (gp ((4 * k) + 2)), .int (gp ((4 * k) + 3))])), (qP, .inl (g.2.1.1, 240, .inl gp))]) [0, 1] rfl
        have hD := hD.sub (ws' := [(hO, .inr (4, [.int xT, .int xB, .int (nI n), .ref qP, .int xP, .ref qN, .int xS, .ref qY, .ref qD, .int xA, .ref qR, .ref qM, .ref qT, .int (gp (4 * k)), .int (gp ((4 * k) + 1)), .int (gp ((4 * k) + 2)), .int (gp ((4 * k) + 3))])), (qP, .inl (g.2.1.1, 240, .inl gp))]) [0, 1] (by decide) rfl
        refine lv_if_eq (tgt := 84) hx hb dX6_isSound_72 (by decide) (fun c_6 => ?_) (fun c_6 => ?_)
        · skip
          refine lv_aload_n hx hb dX6_isSound_84 rfl (lv_at hl 1 rfl) ?_
          refine va_get (D := g.1) (ci := 4) (v := .int (gp (4 * k))) (C := RX6) (T := TX6) (N := 17) hx hb hts iX6 hown hK hP 0 rfl rfl 13 (by decide) (hts (.fieldLink RX6 53 "FaultIsolationModel" "word" "I") (by decide +kernel)) (fun _ h9 => h9) rfl dX6_isSound_85 ?_
          refine kiS (As := [.int (gp (4 * k))]) (rest := []) (wc := []) (wr := [(hO, .inr (4, [.int xT, .int xB, .int (nI n), .ref qP, .int xP, .ref qN, .int xS, .ref qY, .ref qD, .int xA, .ref qR, .ref qM, .ref qT, .int (gp (4 * k)), .int (gp ((4 * k) + 1)), .int (gp ((4 * k) + 2)), .int (gp ((4 * k) + 3))])), (qP, .inl (g.2.1.1, 240, .inl gp))]) ⟨hx, hb, hml, hown, hts⟩ (c_X6_hasC l g (gp (4 * k))) (va_cwS 1 hts gX6_isSound_X6_hasC rfl rfl rfl (by decide +kernel) ⟨Nat.le_of_ble_eq_true rfl, Nat.le_of_ble_eq_true rfl⟩) ⟨hK, hP, hD, hS, hA, hE, hN⟩ [] [0, 1] ⟨rfl, rfl, by decide⟩ rfl hl.1 (Nat.le_of_ble_eq_true rfl) dX6_isSound_88 ⟨Nat.le_of_ble_eq_true rfl, Nat.le_of_ble_eq_true rfl⟩ rfl (fun r u H locs hw hP hD hS => ?_)
          obtain ⟨hq, hw⟩ := hw
          subst r
          subst hw
          have hP := hP.sub (ws' := [(hO, .inr (4, [.int xT, .int xB, .int (nI n), .ref qP, .int xP, .ref qN, .int xS, .ref qY, .ref qD, .int xA, .ref qR, .ref qM, .ref qT, .int (gp (4 * k)), .int (gp ((4 * k) + 1)), .int (gp ((4 * k) + 2)), .int (gp ((4 * k) + 3))])), (qP, .inl (g.2.1.1, 240, .inl gp))]) [0, 1] rfl
          have hD := hD.sub (ws' := [(hO, .inr (4, [.int xT, .int xB, .int (nI n), .ref qP, .int xP, .ref qN, .int xS, .ref qY, .ref qD, .int xA, .ref qR, .ref qM, .ref qT, .int (gp (4 * k)), .int (gp ((4 * k) + 1)), .int (gp ((4 * k) + 2)), .int (gp ((4 * k) + 3))])), (qP, .inl (g.2.1.1, 240, .inl gp))]) [0, 1] (by decide) rfl
          refine lv_if_eq (tgt := 103) hx hb dX6_isSound_91 (by decide) (fun c_7 => ?_) (fun c_7 => ?_)
          · skip
            refine lv_iconst (v := 1) hx hb dX6_isSound_103 (by decide) ?_
            refine lv_goto (tgt := 108) hx hb dX6_isSound_104 (by decide) ?_
            refine lv_istore_n (lv' := [(2, .int 1), (0, .ref hO), (1, .int (nI k))]) hx hb dX6_isSound_108 rfl hl (by decide) rfl (fun ls hl => ?_)
            refine lv_iload_n hx hb dX6_isSound_109 rfl (lv_at hl 0 rfl) ?_
            refine lv_if_eq (tgt := 147) hx hb dX6_isSound_110 (by decide) (fun c_8 => absurd c_8 (by decide)) (fun _ => ?_)
            refine lv_aload_n hx hb dX6_isSound_113 rfl (lv_at hl 1 rfl) ?_
            refine va_get (D := g.1) (ci := 4) (v := .int (gp (4 * k))) (C := RX6) (T := TX6) (N := 17) hx hb hts iX6 hown hK hP 0 rfl rfl 13 (by decide) (hts (.fieldLink RX6 53 "FaultIsolationModel" "word" "I") (by decide +kernel)) (fun _ h9 => h9) rfl dX6_isSound_114 ?_
            refine kiS (As := [.int (gp (4 * k))]) (rest := []) (wc := []) (wr := [(hO, .inr (4, [.int xT, .int xB, .int (nI n), .ref qP, .int xP, .ref qN, .int xS, .ref qY, .ref qD, .int xA, .ref qR, .ref qM, .ref qT, .int (gp (4 * k)), .int (gp ((4 * k) + 1)), .int (gp ((4 * k) + 2)), .int (gp ((4 * k) + 3))])), (qP, .inl (g.2.1.1, 240, .inl gp))]) ⟨hx, hb, hml, hown, hts⟩ (c_X6_isPlace l g (gp (4 * k))) (va_cwS 1 hts gX6_isSound_X6_isPlace rfl rfl rfl (by decide +kernel) ⟨Nat.le_of_ble_eq_true rfl, Nat.le_of_ble_eq_true rfl⟩) ⟨hK, hP, hD, hS, hA, hE, hN⟩ [] [0, 1] ⟨rfl, rfl, by decide⟩ rfl hl.1 (Nat.le_of_ble_eq_true rfl) dX6_isSound_117 ⟨Nat.le_of_ble_eq_true rfl, Nat.le_of_ble_eq_true rfl⟩ rfl (fun r u H locs hw hP hD hS => ?_)
            obtain ⟨hq, hw⟩ := hw
            subst r
            subst hw
            have hP := hP.sub (ws' := [(hO, .inr (4, [.int xT, .int xB, .int (nI n), .ref qP, .int xP, .ref qN, .int xS, .ref qY, .ref qD, .int xA, .ref qR, .ref qM, .ref qT, .int (gp (4 * k)), .int (gp ((4 * k) + 1)), .int (gp ((4 * k) + 2)), .int (gp ((4 * k) + 3))])), (qP, .inl (g.2.1.1, 240, .inl gp))]) [0, 1] rfl
            have hD := hD.sub (ws' := [(hO, .inr (4, [.int xT, .int xB, .int (nI n), .ref qP, .int xP, .ref qN, .int xS, .ref qY, .ref qD, .int xA, .ref qR, .ref qM, .ref qT, .int (gp (4 * k)), .int (gp ((4 * k) + 1)), .int (gp ((4 * k) + 2)), .int (gp ((4 * k) + 3))])), (qP, .inl (g.2.1.1, 240, .inl gp))]) [0, 1] (by decide) rfl
            refine lv_if_eq (tgt := 143) hx hb dX6_isSound_120 (by decide) (fun c_9 => ?_) (fun c_9 => ?_)
            · skip
              refine lv_iconst (v := 1) hx hb dX6_isSound_143 (by decide) ?_
              refine lv_goto (tgt := 148) hx hb dX6_isSound_144 (by decide) ?_
              exact k_iret hx hb hr hlocks ⟨hK, hP, hD, hS, hA, hE, hN⟩ rfl dX6_isSound_148 (Nat.le_of_ble_eq_true rfl) (Nat.le_of_ble_eq_true rfl) ⟨(by simp only [sp_X6_isSound, if_pos c_0, if_neg c_1, if_pos c_5, if_pos c_6, if_pos c_7, if_pos c_9]), (gp (4 * k)), (gp ((4 * k) + 1)), (gp ((4 * k) + 2)), (gp ((4 * k) + 3)), rfl⟩
            · skip
              refine lv_sipush (v := 256) hx hb dX6_isSound_123 (by decide) ?_
              refine lv_aload_n hx hb dX6_isSound_126 rfl (lv_at hl 1 rfl) ?_
              refine va_get (D := g.1) (ci := 4) (v := .int (gp ((4 * k) + 2))) (C := RX6) (T := TX6) (N := 17) hx hb hts iX6 hown hK hP 0 rfl rfl 15 (by decide) (hts (.fieldLink RX6 59 "FaultIsolationModel" "b" "I") (by decide +kernel)) (fun _ h9 => h9) rfl dX6_isSound_127 ?_
              refine lv_imul hx hb dX6_isSound_130 ?_
              refine lv_aload_n hx hb dX6_isSound_131 rfl (lv_at hl 1 rfl) ?_
              refine va_get (D := g.1) (ci := 4) (v := .int (gp ((4 * k) + 3))) (C := RX6) (T := TX6) (N := 17) hx hb hts iX6 hown hK hP 0 rfl rfl 16 (by decide) (hts (.fieldLink RX6 62 "FaultIsolationModel" "c" "I") (by decide +kernel)) (fun _ h9 => h9) rfl dX6_isSound_132 ?_
              refine lv_iadd hx hb dX6_isSound_135 ?_
              refine lv_aload_n hx hb dX6_isSound_136 rfl (lv_at hl 1 rfl) ?_
              refine va_get (D := g.1) (ci := 4) (v := .int (nI n)) (C := RX6) (T := TX6) (N := 17) hx hb hts iX6 hown hK hP 0 rfl rfl 2 (by decide) (hts (.fieldLink RX6 46 "FaultIsolationModel" "count" "I") (by decide +kernel)) (fun _ h9 => h9) rfl dX6_isSound_137 ?_
              refine lv_icmp_ge (tgt := 147) hx hb dX6_isSound_140 (by decide) (fun c_10 => ?_) (fun c_10 => ?_)
              · skip
                refine lv_iconst (v := 0) hx hb dX6_isSound_147 (by decide) ?_
                exact k_iret hx hb hr hlocks ⟨hK, hP, hD, hS, hA, hE, hN⟩ rfl dX6_isSound_148 (Nat.le_of_ble_eq_true rfl) (Nat.le_of_ble_eq_true rfl) ⟨(by simp only [sp_X6_isSound, if_pos c_0, if_neg c_1, if_pos c_5, if_pos c_6, if_pos c_7, if_neg c_9, if_pos c_10]), (gp (4 * k)), (gp ((4 * k) + 1)), (gp ((4 * k) + 2)), (gp ((4 * k) + 3)), rfl⟩
              · skip
                refine lv_iconst (v := 1) hx hb dX6_isSound_143 (by decide) ?_
                refine lv_goto (tgt := 148) hx hb dX6_isSound_144 (by decide) ?_
                exact k_iret hx hb hr hlocks ⟨hK, hP, hD, hS, hA, hE, hN⟩ rfl dX6_isSound_148 (Nat.le_of_ble_eq_true rfl) (Nat.le_of_ble_eq_true rfl) ⟨(by simp only [sp_X6_isSound, if_pos c_0, if_neg c_1, if_pos c_5, if_pos c_6, if_pos c_7, if_neg c_9, if_neg c_10]), (gp (4 * k)), (gp ((4 * k) + 1)), (gp ((4 * k) + 2)), (gp ((4 * k) + 3)), rfl⟩
          · skip
            refine lv_aload_n hx hb dX6_isSound_94 rfl (lv_at hl 1 rfl) ?_
            refine va_get (D := g.1) (ci := 4) (v := .int (gp ((4 * k) + 3))) (C := RX6) (T := TX6) (N := 17) hx hb hts iX6 hown hK hP 0 rfl rfl 16 (by decide) (hts (.fieldLink RX6 62 "FaultIsolationModel" "c" "I") (by decide +kernel)) (fun _ h9 => h9) rfl dX6_isSound_95 ?_
            refine lv_bipush (v := 6) hx hb dX6_isSound_98 (by decide) ?_
            refine lv_icmp_eq (tgt := 107) hx hb dX6_isSound_100 (by decide) (fun c_11 => ?_) (fun c_11 => ?_)
            · skip
              refine lv_iconst (v := 0) hx hb dX6_isSound_107 (by decide) ?_
              refine lv_istore_n (lv' := [(2, .int 0), (0, .ref hO), (1, .int (nI k))]) hx hb dX6_isSound_108 rfl hl (by decide) rfl (fun ls hl => ?_)
              refine lv_iload_n hx hb dX6_isSound_109 rfl (lv_at hl 0 rfl) ?_
              refine lv_if_eq (tgt := 147) hx hb dX6_isSound_110 (by decide) (fun _ => ?_) (fun c_12 => absurd c_12 (by decide))
              refine lv_iconst (v := 0) hx hb dX6_isSound_147 (by decide) ?_
              exact k_iret hx hb hr hlocks ⟨hK, hP, hD, hS, hA, hE, hN⟩ rfl dX6_isSound_148 (Nat.le_of_ble_eq_true rfl) (Nat.le_of_ble_eq_true rfl) ⟨(by simp only [sp_X6_isSound, if_pos c_0, if_neg c_1, if_pos c_5, if_pos c_6, if_neg c_7, if_pos c_11]), (gp (4 * k)), (gp ((4 * k) + 1)), (gp ((4 * k) + 2)), (gp ((4 * k) + 3)), rfl⟩
            · skip
              refine lv_iconst (v := 1) hx hb dX6_isSound_103 (by decide) ?_
              refine lv_goto (tgt := 108) hx hb dX6_isSound_104 (by decide) ?_
              refine lv_istore_n (lv' := [(2, .int 1), (0, .ref hO), (1, .int (nI k))]) hx hb dX6_isSound_108 rfl hl (by decide) rfl (fun ls hl => ?_)
              refine lv_iload_n hx hb dX6_isSound_109 rfl (lv_at hl 0 rfl) ?_
              refine lv_if_eq (tgt := 147) hx hb dX6_isSound_110 (by decide) (fun c_13 => absurd c_13 (by decide)) (fun _ => ?_)
              refine lv_aload_n hx hb dX6_isSound_113 rfl (lv_at hl 1 rfl) ?_
              refine va_get (D := g.1) (ci := 4) (v := .int (gp (4 * k))) (C := RX6) (T := TX6) (N := 17) hx hb hts iX6 hown hK hP 0 rfl rfl 13 (by decide) (hts (.fieldLink RX6 53 "FaultIsolationModel" "word" "I") (by decide +kernel)) (fun _ h9 => h9) rfl dX6_isSound_114 ?_
              refine kiS (As := [.int (gp (4 * k))]) (rest := []) (wc := []) (wr := [(hO, .inr (4, [.int xT, .int xB, .int (nI n), .ref qP, .int xP, .ref qN, .int xS, .ref qY, .ref qD, .int xA, .ref qR, .ref qM, .ref qT, .int (gp (4 * k)), .int (gp ((4 * k) + 1)), .int (gp ((4 * k) + 2)), .int (gp ((4 * k) + 3))])), (qP, .inl (g.2.1.1, 240, .inl gp))]) ⟨hx, hb, hml, hown, hts⟩ (c_X6_isPlace l g (gp (4 * k))) (va_cwS 1 hts gX6_isSound_X6_isPlace rfl rfl rfl (by decide +kernel) ⟨Nat.le_of_ble_eq_true rfl, Nat.le_of_ble_eq_true rfl⟩) ⟨hK, hP, hD, hS, hA, hE, hN⟩ [] [0, 1] ⟨rfl, rfl, by decide⟩ rfl hl.1 (Nat.le_of_ble_eq_true rfl) dX6_isSound_117 ⟨Nat.le_of_ble_eq_true rfl, Nat.le_of_ble_eq_true rfl⟩ rfl (fun r u H locs hw hP hD hS => ?_)
              obtain ⟨hq, hw⟩ := hw
              subst r
              subst hw
              have hP := hP.sub (ws' := [(hO, .inr (4, [.int xT, .int xB, .int (nI n), .ref qP, .int xP, .ref qN, .int xS, .ref qY, .ref qD, .int xA, .ref qR, .ref qM, .ref qT, .int (gp (4 * k)), .int (gp ((4 * k) + 1)), .int (gp ((4 * k) + 2)), .int (gp ((4 * k) + 3))])), (qP, .inl (g.2.1.1, 240, .inl gp))]) [0, 1] rfl
              have hD := hD.sub (ws' := [(hO, .inr (4, [.int xT, .int xB, .int (nI n), .ref qP, .int xP, .ref qN, .int xS, .ref qY, .ref qD, .int xA, .ref qR, .ref qM, .ref qT, .int (gp (4 * k)), .int (gp ((4 * k) + 1)), .int (gp ((4 * k) + 2)), .int (gp ((4 * k) + 3))])), (qP, .inl (g.2.1.1, 240, .inl gp))]) [0, 1] (by decide) rfl
              refine lv_if_eq (tgt := 143) hx hb dX6_isSound_120 (by decide) (fun c_14 => ?_) (fun c_14 => ?_)
              · skip
                refine lv_iconst (v := 1) hx hb dX6_isSound_143 (by decide) ?_
                refine lv_goto (tgt := 148) hx hb dX6_isSound_144 (by decide) ?_
                exact k_iret hx hb hr hlocks ⟨hK, hP, hD, hS, hA, hE, hN⟩ rfl dX6_isSound_148 (Nat.le_of_ble_eq_true rfl) (Nat.le_of_ble_eq_true rfl) ⟨(by simp only [sp_X6_isSound, if_pos c_0, if_neg c_1, if_pos c_5, if_pos c_6, if_neg c_7, if_neg c_11, if_pos c_14]), (gp (4 * k)), (gp ((4 * k) + 1)), (gp ((4 * k) + 2)), (gp ((4 * k) + 3)), rfl⟩
              · skip
                refine lv_sipush (v := 256) hx hb dX6_isSound_123 (by decide) ?_
                refine lv_aload_n hx hb dX6_isSound_126 rfl (lv_at hl 1 rfl) ?_
                refine va_get (D := g.1) (ci := 4) (v := .int (gp ((4 * k) + 2))) (C := RX6) (T := TX6) (N := 17) hx hb hts iX6 hown hK hP 0 rfl rfl 15 (by decide) (hts (.fieldLink RX6 59 "FaultIsolationModel" "b" "I") (by decide +kernel)) (fun _ h9 => h9) rfl dX6_isSound_127 ?_
                refine lv_imul hx hb dX6_isSound_130 ?_
                refine lv_aload_n hx hb dX6_isSound_131 rfl (lv_at hl 1 rfl) ?_
                refine va_get (D := g.1) (ci := 4) (v := .int (gp ((4 * k) + 3))) (C := RX6) (T := TX6) (N := 17) hx hb hts iX6 hown hK hP 0 rfl rfl 16 (by decide) (hts (.fieldLink RX6 62 "FaultIsolationModel" "c" "I") (by decide +kernel)) (fun _ h9 => h9) rfl dX6_isSound_132 ?_
                refine lv_iadd hx hb dX6_isSound_135 ?_
                refine lv_aload_n hx hb dX6_isSound_136 rfl (lv_at hl 1 rfl) ?_
                refine va_get (D := g.1) (ci := 4) (v := .int (nI n)) (C := RX6) (T := TX6) (N := 17) hx hb hts iX6 hown hK hP 0 rfl rfl 2 (by decide) (hts (.fieldLink RX6 46 "FaultIsolationModel" "count" "I") (by decide +kernel)) (fun _ h9 => h9) rfl dX6_isSound_137 ?_
                refine lv_icmp_ge (tgt := 147) hx hb dX6_isSound_140 (by decide) (fun c_15 => ?_) (fun c_15 => ?_)
                · skip
                  refine lv_iconst (v := 0) hx hb dX6_isSound_147 (by decide) ?_
                  exact k_iret hx hb hr hlocks ⟨hK, hP, hD, hS, hA, hE, hN⟩ rfl dX6_isSound_148 (Nat.le_of_ble_eq_true rfl) (Nat.le_of_ble_eq_true rfl) ⟨(by simp only [sp_X6_isSound, if_pos c_0, if_neg c_1, if_pos c_5, if_pos c_6, if_neg c_7, if_neg c_11, if_neg c_14, if_pos c_15]), (gp (4 * k)), (gp ((4 * k) + 1)), (gp ((4 * k) + 2)), (gp ((4 * k) + 3)), rfl⟩
                · skip
                  refine lv_iconst (v := 1) hx hb dX6_isSound_143 (by decide) ?_
                  refine lv_goto (tgt := 148) hx hb dX6_isSound_144 (by decide) ?_
                  exact k_iret hx hb hr hlocks ⟨hK, hP, hD, hS, hA, hE, hN⟩ rfl dX6_isSound_148 (Nat.le_of_ble_eq_true rfl) (Nat.le_of_ble_eq_true rfl) ⟨(by simp only [sp_X6_isSound, if_pos c_0, if_neg c_1, if_pos c_5, if_pos c_6, if_neg c_7, if_neg c_11, if_neg c_14, if_neg c_15]), (gp (4 * k)), (gp ((4 * k) + 1)), (gp ((4 * k) + 2)), (gp ((4 * k) + 3)), rfl⟩
        · skip
          refine lv_aload_n hx hb dX6_isSound_75 rfl (lv_at hl 1 rfl) ?_
          refine va_get (D := g.1) (ci := 4) (v := .int (gp ((4 * k) + 2))) (C := RX6) (T := TX6) (N := 17) hx hb hts iX6 hown hK hP 0 rfl rfl 15 (by decide) (hts (.fieldLink RX6 59 "FaultIsolationModel" "b" "I") (by decide +kernel)) (fun _ h9 => h9) rfl dX6_isSound_76 ?_
          refine lv_bipush (v := 6) hx hb dX6_isSound_79 (by decide) ?_
          refine lv_icmp_eq (tgt := 107) hx hb dX6_isSound_81 (by decide) (fun c_16 => ?_) (fun c_16 => ?_)
          · skip
            refine lv_iconst (v := 0) hx hb dX6_isSound_107 (by decide) ?_
            refine lv_istore_n (lv' := [(2, .int 0), (0, .ref hO), (1, .int (nI k))]) hx hb dX6_isSound_108 rfl hl (by decide) rfl (fun ls hl => ?_)
            refine lv_iload_n hx hb dX6_isSound_109 rfl (lv_at hl 0 rfl) ?_
            refine lv_if_eq (tgt := 147) hx hb dX6_isSound_110 (by decide) (fun _ => ?_) (fun c_17 => absurd c_17 (by decide))
            refine lv_iconst (v := 0) hx hb dX6_isSound_147 (by decide) ?_
            exact k_iret hx hb hr hlocks ⟨hK, hP, hD, hS, hA, hE, hN⟩ rfl dX6_isSound_148 (Nat.le_of_ble_eq_true rfl) (Nat.le_of_ble_eq_true rfl) ⟨(by simp only [sp_X6_isSound, if_pos c_0, if_neg c_1, if_pos c_5, if_neg c_6, if_pos c_16]), (gp (4 * k)), (gp ((4 * k) + 1)), (gp ((4 * k) + 2)), (gp ((4 * k) + 3)), rfl⟩
          · skip
            refine lv_aload_n hx hb dX6_isSound_84 rfl (lv_at hl 1 rfl) ?_
            refine va_get (D := g.1) (ci := 4) (v := .int (gp (4 * k))) (C := RX6) (T := TX6) (N := 17) hx hb hts iX6 hown hK hP 0 rfl rfl 13 (by decide) (hts (.fieldLink RX6 53 "FaultIsolationModel" "word" "I") (by decide +kernel)) (fun _ h9 => h9) rfl dX6_isSound_85 ?_
            refine kiS (As := [.int (gp (4 * k))]) (rest := []) (wc := []) (wr := [(hO, .inr (4, [.int xT, .int xB, .int (nI n), .ref qP, .int xP, .ref qN, .int xS, .ref qY, .ref qD, .int xA, .ref qR, .ref qM, .ref qT, .int (gp (4 * k)), .int (gp ((4 * k) + 1)), .int (gp ((4 * k) + 2)), .int (gp ((4 * k) + 3))])), (qP, .inl (g.2.1.1, 240, .inl gp))]) ⟨hx, hb, hml, hown, hts⟩ (c_X6_hasC l g (gp (4 * k))) (va_cwS 1 hts gX6_isSound_X6_hasC rfl rfl rfl (by decide +kernel) ⟨Nat.le_of_ble_eq_true rfl, Nat.le_of_ble_eq_true rfl⟩) ⟨hK, hP, hD, hS, hA, hE, hN⟩ [] [0, 1] ⟨rfl, rfl, by decide⟩ rfl hl.1 (Nat.le_of_ble_eq_true rfl) dX6_isSound_88 ⟨Nat.le_of_ble_eq_true rfl, Nat.le_of_ble_eq_true rfl⟩ rfl (fun r u H locs hw hP hD hS => ?_)
            obtain ⟨hq, hw⟩ := hw
            subst r
            subst hw
            have hP := hP.sub (ws' := [(hO, .inr (4, [.int xT, .int xB, .int (nI n), .ref qP, .int xP, .ref qN, .int xS, .ref qY, .ref qD, .int xA, .ref qR, .ref qM, .ref qT, .int (gp (4 * k)), .int (gp ((4 * k) + 1)), .int (gp ((4 * k) + 2)), .int (gp ((4 * k) + 3))])), (qP, .inl (g.2.1.1, 240, .inl gp))]) [0, 1] rfl
            have hD := hD.sub (ws' := [(hO, .inr (4, [.int xT, .int xB, .int (nI n), .ref qP, .int xP, .ref qN, .int xS, .ref qY, .ref qD, .int xA, .ref qR, .ref qM, .ref qT, .int (gp (4 * k)), .int (gp ((4 * k) + 1)), .int (gp ((4 * k) + 2)), .int (gp ((4 * k) + 3))])), (qP, .inl (g.2.1.1, 240, .inl gp))]) [0, 1] (by decide) rfl
            refine lv_if_eq (tgt := 103) hx hb dX6_isSound_91 (by decide) (fun c_18 => ?_) (fun c_18 => ?_)
            · skip
              refine lv_iconst (v := 1) hx hb dX6_isSound_103 (by decide) ?_
              refine lv_goto (tgt := 108) hx hb dX6_isSound_104 (by decide) ?_
              refine lv_istore_n (lv' := [(2, .int 1), (0, .ref hO), (1, .int (nI k))]) hx hb dX6_isSound_108 rfl hl (by decide) rfl (fun ls hl => ?_)
              refine lv_iload_n hx hb dX6_isSound_109 rfl (lv_at hl 0 rfl) ?_
              refine lv_if_eq (tgt := 147) hx hb dX6_isSound_110 (by decide) (fun c_19 => absurd c_19 (by decide)) (fun _ => ?_)
              refine lv_aload_n hx hb dX6_isSound_113 rfl (lv_at hl 1 rfl) ?_
              refine va_get (D := g.1) (ci := 4) (v := .int (gp (4 * k))) (C := RX6) (T := TX6) (N := 17) hx hb hts iX6 hown hK hP 0 rfl rfl 13 (by decide) (hts (.fieldLink RX6 53 "FaultIsolationModel" "word" "I") (by decide +kernel)) (fun _ h9 => h9) rfl dX6_isSound_114 ?_
              refine kiS (As := [.int (gp (4 * k))]) (rest := []) (wc := []) (wr := [(hO, .inr (4, [.int xT, .int xB, .int (nI n), .ref qP, .int xP, .ref qN, .int xS, .ref qY, .ref qD, .int xA, .ref qR, .ref qM, .ref qT, .int (gp (4 * k)), .int (gp ((4 * k) + 1)), .int (gp ((4 * k) + 2)), .int (gp ((4 * k) + 3))])), (qP, .inl (g.2.1.1, 240, .inl gp))]) ⟨hx, hb, hml, hown, hts⟩ (c_X6_isPlace l g (gp (4 * k))) (va_cwS 1 hts gX6_isSound_X6_isPlace rfl rfl rfl (by decide +kernel) ⟨Nat.le_of_ble_eq_true rfl, Nat.le_of_ble_eq_true rfl⟩) ⟨hK, hP, hD, hS, hA, hE, hN⟩ [] [0, 1] ⟨rfl, rfl, by decide⟩ rfl hl.1 (Nat.le_of_ble_eq_true rfl) dX6_isSound_117 ⟨Nat.le_of_ble_eq_true rfl, Nat.le_of_ble_eq_true rfl⟩ rfl (fun r u H locs hw hP hD hS => ?_)
              obtain ⟨hq, hw⟩ := hw
              subst r
              subst hw
              have hP := hP.sub (ws' := [(hO, .inr (4, [.int xT, .int xB, .int (nI n), .ref qP, .int xP, .ref qN, .int xS, .ref qY, .ref qD, .int xA, .ref qR, .ref qM, .ref qT, .int (gp (4 * k)), .int (gp ((4 * k) + 1)), .int (gp ((4 * k) + 2)), .int (gp ((4 * k) + 3))])), (qP, .inl (g.2.1.1, 240, .inl gp))]) [0, 1] rfl
              have hD := hD.sub (ws' := [(hO, .inr (4, [.int xT, .int xB, .int (nI n), .ref qP, .int xP, .ref qN, .int xS, .ref qY, .ref qD, .int xA, .ref qR, .ref qM, .ref qT, .int (gp (4 * k)), .int (gp ((4 * k) + 1)), .int (gp ((4 * k) + 2)), .int (gp ((4 * k) + 3))])), (qP, .inl (g.2.1.1, 240, .inl gp))]) [0, 1] (by decide) rfl
              refine lv_if_eq (tgt := 143) hx hb dX6_isSound_120 (by decide) (fun c_20 => ?_) (fun c_20 => ?_)
              · skip
                refine lv_iconst (v := 1) hx hb dX6_isSound_143 (by decide) ?_
                refine lv_goto (tgt := 148) hx hb dX6_isSound_144 (by decide) ?_
                exact k_iret hx hb hr hlocks ⟨hK, hP, hD, hS, hA, hE, hN⟩ rfl dX6_isSound_148 (Nat.le_of_ble_eq_true rfl) (Nat.le_of_ble_eq_true rfl) ⟨(by simp only [sp_X6_isSound, if_pos c_0, if_neg c_1, if_pos c_5, if_neg c_6, if_neg c_16, if_pos c_18, if_pos c_20]), (gp (4 * k)), (gp ((4 * k) + 1)), (gp ((4 * k) + 2)), (gp ((4 * k) + 3)), rfl⟩
              · skip
                refine lv_sipush (v := 256) hx hb dX6_isSound_123 (by decide) ?_
                refine lv_aload_n hx hb dX6_isSound_126 rfl (lv_at hl 1 rfl) ?_
                refine va_get (D := g.1) (ci := 4) (v := .int (gp ((4 * k) + 2))) (C := RX6) (T := TX6) (N := 17) hx hb hts iX6 hown hK hP 0 rfl rfl 15 (by decide) (hts (.fieldLink RX6 59 "FaultIsolationModel" "b" "I") (by decide +kernel)) (fun _ h9 => h9) rfl dX6_isSound_127 ?_
                refine lv_imul hx hb dX6_isSound_130 ?_
                refine lv_aload_n hx hb dX6_isSound_131 rfl (lv_at hl 1 rfl) ?_
                refine va_get (D := g.1) (ci := 4) (v := .int (gp ((4 * k) + 3))) (C := RX6) (T := TX6) (N := 17) hx hb hts iX6 hown hK hP 0 rfl rfl 16 (by decide) (hts (.fieldLink RX6 62 "FaultIsolationModel" "c" "I") (by decide +kernel)) (fun _ h9 => h9) rfl dX6_isSound_132 ?_
                refine lv_iadd hx hb dX6_isSound_135 ?_
                refine lv_aload_n hx hb dX6_isSound_136 rfl (lv_at hl 1 rfl) ?_
                refine va_get (D := g.1) (ci := 4) (v := .int (nI n)) (C := RX6) (T := TX6) (N := 17) hx hb hts iX6 hown hK hP 0 rfl rfl 2 (by decide) (hts (.fieldLink RX6 46 "FaultIsolationModel" "count" "I") (by decide +kernel)) (fun _ h9 => h9) rfl dX6_isSound_137 ?_
                refine lv_icmp_ge (tgt := 147) hx hb dX6_isSound_140 (by decide) (fun c_21 => ?_) (fun c_21 => ?_)
                · skip
                  refine lv_iconst (v := 0) hx hb dX6_isSound_147 (by decide) ?_
                  exact k_iret hx hb hr hlocks ⟨hK, hP, hD, hS, hA, hE, hN⟩ rfl dX6_isSound_148 (Nat.le_of_ble_eq_true rfl) (Nat.le_of_ble_eq_true rfl) ⟨(by simp only [sp_X6_isSound, if_pos c_0, if_neg c_1, if_pos c_5, if_neg c_6, if_neg c_16, if_pos c_18, if_neg c_20, if_pos c_21]), (gp (4 * k)), (gp ((4 * k) + 1)), (gp ((4 * k) + 2)), (gp ((4 * k) + 3)), rfl⟩
                · skip
                  refine lv_iconst (v := 1) hx hb dX6_isSound_143 (by decide) ?_
                  refine lv_goto (tgt := 148) hx hb dX6_isSound_144 (by decide) ?_
                  exact k_iret hx hb hr hlocks ⟨hK, hP, hD, hS, hA, hE, hN⟩ rfl dX6_isSound_148 (Nat.le_of_ble_eq_true rfl) (Nat.le_of_ble_eq_true rfl) ⟨(by simp only [sp_X6_isSound, if_pos c_0, if_neg c_1, if_pos c_5, if_neg c_6, if_neg c_16, if_pos c_18, if_neg c_20, if_neg c_21]), (gp (4 * k)), (gp ((4 * k) + 1)), (gp ((4 * k) + 2)), (gp ((4 * k) + 3)), rfl⟩
            · skip
              refine lv_aload_n hx hb dX6_isSound_94 rfl (lv_at hl 1 rfl) ?_
              refine va_get (D := g.1) (ci := 4) (v := .int (gp ((4 * k) + 3))) (C := RX6) (T := TX6) (N := 17) hx hb hts iX6 hown hK hP 0 rfl rfl 16 (by decide) (hts (.fieldLink RX6 62 "FaultIsolationModel" "c" "I") (by decide +kernel)) (fun _ h9 => h9) rfl dX6_isSound_95 ?_
              refine lv_bipush (v := 6) hx hb dX6_isSound_98 (by decide) ?_
              refine lv_icmp_eq (tgt := 107) hx hb dX6_isSound_100 (by decide) (fun c_22 => ?_) (fun c_22 => ?_)
              · skip
                refine lv_iconst (v := 0) hx hb dX6_isSound_107 (by decide) ?_
                refine lv_istore_n (lv' := [(2, .int 0), (0, .ref hO), (1, .int (nI k))]) hx hb dX6_isSound_108 rfl hl (by decide) rfl (fun ls hl => ?_)
                refine lv_iload_n hx hb dX6_isSound_109 rfl (lv_at hl 0 rfl) ?_
                refine lv_if_eq (tgt := 147) hx hb dX6_isSound_110 (by decide) (fun _ => ?_) (fun c_23 => absurd c_23 (by decide))
                refine lv_iconst (v := 0) hx hb dX6_isSound_147 (by decide) ?_
                exact k_iret hx hb hr hlocks ⟨hK, hP, hD, hS, hA, hE, hN⟩ rfl dX6_isSound_148 (Nat.le_of_ble_eq_true rfl) (Nat.le_of_ble_eq_true rfl) ⟨(by simp only [sp_X6_isSound, if_pos c_0, if_neg c_1, if_pos c_5, if_neg c_6, if_neg c_16, if_neg c_18, if_pos c_22]), (gp (4 * k)), (gp ((4 * k) + 1)), (gp ((4 * k) + 2)), (gp ((4 * k) + 3)), rfl⟩
              · skip
                refine lv_iconst (v := 1) hx hb dX6_isSound_103 (by decide) ?_
                refine lv_goto (tgt := 108) hx hb dX6_isSound_104 (by decide) ?_
                refine lv_istore_n (lv' := [(2, .int 1), (0, .ref hO), (1, .int (nI k))]) hx hb dX6_isSound_108 rfl hl (by decide) rfl (fun ls hl => ?_)
                refine lv_iload_n hx hb dX6_isSound_109 rfl (lv_at hl 0 rfl) ?_
                refine lv_if_eq (tgt := 147) hx hb dX6_isSound_110 (by decide) (fun c_24 => absurd c_24 (by decide)) (fun _ => ?_)
                refine lv_aload_n hx hb dX6_isSound_113 rfl (lv_at hl 1 rfl) ?_
                refine va_get (D := g.1) (ci := 4) (v := .int (gp (4 * k))) (C := RX6) (T := TX6) (N := 17) hx hb hts iX6 hown hK hP 0 rfl rfl 13 (by decide) (hts (.fieldLink RX6 53 "FaultIsolationModel" "word" "I") (by decide +kernel)) (fun _ h9 => h9) rfl dX6_isSound_114 ?_
                refine kiS (As := [.int (gp (4 * k))]) (rest := []) (wc := []) (wr := [(hO, .inr (4, [.int xT, .int xB, .int (nI n), .ref qP, .int xP, .ref qN, .int xS, .ref qY, .ref qD, .int xA, .ref qR, .ref qM, .ref qT, .int (gp (4 * k)), .int (gp ((4 * k) + 1)), .int (gp ((4 * k) + 2)), .int (gp ((4 * k) + 3))])), (qP, .inl (g.2.1.1, 240, .inl gp))]) ⟨hx, hb, hml, hown, hts⟩ (c_X6_isPlace l g (gp (4 * k))) (va_cwS 1 hts gX6_isSound_X6_isPlace rfl rfl rfl (by decide +kernel) ⟨Nat.le_of_ble_eq_true rfl, Nat.le_of_ble_eq_true rfl⟩) ⟨hK, hP, hD, hS, hA, hE, hN⟩ [] [0, 1] ⟨rfl, rfl, by decide⟩ rfl hl.1 (Nat.le_of_ble_eq_true rfl) dX6_isSound_117 ⟨Nat.le_of_ble_eq_true rfl, Nat.le_of_ble_eq_true rfl⟩ rfl (fun r u H locs hw hP hD hS => ?_)
                obtain ⟨hq, hw⟩ := hw
                subst r
                subst hw
                have hP := hP.sub (ws' := [(hO, .inr (4, [.int xT, .int xB, .int (nI n), .ref qP, .int xP, .ref qN, .int xS, .ref qY, .ref qD, .int xA, .ref qR, .ref qM, .ref qT, .int (gp (4 * k)), .int (gp ((4 * k) + 1)), .int (gp ((4 * k) + 2)), .int (gp ((4 * k) + 3))])), (qP, .inl (g.2.1.1, 240, .inl gp))]) [0, 1] rfl
                have hD := hD.sub (ws' := [(hO, .inr (4, [.int xT, .int xB, .int (nI n), .ref qP, .int xP, .ref qN, .int xS, .ref qY, .ref qD, .int xA, .ref qR, .ref qM, .ref qT, .int (gp (4 * k)), .int (gp ((4 * k) + 1)), .int (gp ((4 * k) + 2)), .int (gp ((4 * k) + 3))])), (qP, .inl (g.2.1.1, 240, .inl gp))]) [0, 1] (by decide) rfl
                refine lv_if_eq (tgt := 143) hx hb dX6_isSound_120 (by decide) (fun c_25 => ?_) (fun c_25 => ?_)
                · skip
                  refine lv_iconst (v := 1) hx hb dX6_isSound_143 (by decide) ?_
                  refine lv_goto (tgt := 148) hx hb dX6_isSound_144 (by decide) ?_
                  exact k_iret hx hb hr hlocks ⟨hK, hP, hD, hS, hA, hE, hN⟩ rfl dX6_isSound_148 (Nat.le_of_ble_eq_true rfl) (Nat.le_of_ble_eq_true rfl) ⟨(by simp only [sp_X6_isSound, if_pos c_0, if_neg c_1, if_pos c_5, if_neg c_6, if_neg c_16, if_neg c_18, if_neg c_22, if_pos c_25]), (gp (4 * k)), (gp ((4 * k) + 1)), (gp ((4 * k) + 2)), (gp ((4 * k) + 3)), rfl⟩
                · skip
                  refine lv_sipush (v := 256) hx hb dX6_isSound_123 (by decide) ?_
                  refine lv_aload_n hx hb dX6_isSound_126 rfl (lv_at hl 1 rfl) ?_
                  refine va_get (D := g.1) (ci := 4) (v := .int (gp ((4 * k) + 2))) (C := RX6) (T := TX6) (N := 17) hx hb hts iX6 hown hK hP 0 rfl rfl 15 (by decide) (hts (.fieldLink RX6 59 "FaultIsolationModel" "b" "I") (by decide +kernel)) (fun _ h9 => h9) rfl dX6_isSound_127 ?_
                  refine lv_imul hx hb dX6_isSound_130 ?_
                  refine lv_aload_n hx hb dX6_isSound_131 rfl (lv_at hl 1 rfl) ?_
                  refine va_get (D := g.1) (ci := 4) (v := .int (gp ((4 * k) + 3))) (C := RX6) (T := TX6) (N := 17) hx hb hts iX6 hown hK hP 0 rfl rfl 16 (by decide) (hts (.fieldLink RX6 62 "FaultIsolationModel" "c" "I") (by decide +kernel)) (fun _ h9 => h9) rfl dX6_isSound_132 ?_
                  refine lv_iadd hx hb dX6_isSound_135 ?_
                  refine lv_aload_n hx hb dX6_isSound_136 rfl (lv_at hl 1 rfl) ?_
                  refine va_get (D := g.1) (ci := 4) (v := .int (nI n)) (C := RX6) (T := TX6) (N := 17) hx hb hts iX6 hown hK hP 0 rfl rfl 2 (by decide) (hts (.fieldLink RX6 46 "FaultIsolationModel" "count" "I") (by decide +kernel)) (fun _ h9 => h9) rfl dX6_isSound_137 ?_
                  refine lv_icmp_ge (tgt := 147) hx hb dX6_isSound_140 (by decide) (fun c_26 => ?_) (fun c_26 => ?_)
                  · skip
                    refine lv_iconst (v := 0) hx hb dX6_isSound_147 (by decide) ?_
                    exact k_iret hx hb hr hlocks ⟨hK, hP, hD, hS, hA, hE, hN⟩ rfl dX6_isSound_148 (Nat.le_of_ble_eq_true rfl) (Nat.le_of_ble_eq_true rfl) ⟨(by simp only [sp_X6_isSound, if_pos c_0, if_neg c_1, if_pos c_5, if_neg c_6, if_neg c_16, if_neg c_18, if_neg c_22, if_neg c_25, if_pos c_26]), (gp (4 * k)), (gp ((4 * k) + 1)), (gp ((4 * k) + 2)), (gp ((4 * k) + 3)), rfl⟩
                  · skip
                    refine lv_iconst (v := 1) hx hb dX6_isSound_143 (by decide) ?_
                    refine lv_goto (tgt := 148) hx hb dX6_isSound_144 (by decide) ?_
                    exact k_iret hx hb hr hlocks ⟨hK, hP, hD, hS, hA, hE, hN⟩ rfl dX6_isSound_148 (Nat.le_of_ble_eq_true rfl) (Nat.le_of_ble_eq_true rfl) ⟨(by simp only [sp_X6_isSound, if_pos c_0, if_neg c_1, if_pos c_5, if_neg c_6, if_neg c_16, if_neg c_18, if_neg c_22, if_neg c_25, if_neg c_26]), (gp (4 * k)), (gp ((4 * k) + 1)), (gp ((4 * k) + 2)), (gp ((4 * k) + 3)), rfl⟩
      · skip
        refine lv_aload_n hx hb dX6_isSound_56 rfl (lv_at hl 1 rfl) ?_
        refine va_get (D := g.1) (ci := 4) (v := .int (gp ((4 * k) + 1))) (C := RX6) (T := TX6) (N := 17) hx hb hts iX6 hown hK hP 0 rfl rfl 14 (by decide) (hts (.fieldLink RX6 56 "FaultIsolationModel" "a" "I") (by decide +kernel)) (fun _ h9 => h9) rfl dX6_isSound_57 ?_
        refine lv_bipush (v := 6) hx hb dX6_isSound_60 (by decide) ?_
        refine lv_icmp_eq (tgt := 107) hx hb dX6_isSound_62 (by decide) (fun c_27 => ?_) (fun c_27 => ?_)
        · skip
          refine lv_iconst (v := 0) hx hb dX6_isSound_107 (by decide) ?_
          refine lv_istore_n (lv' := [(2, .int 0), (0, .ref hO), (1, .int (nI k))]) hx hb dX6_isSound_108 rfl hl (by decide) rfl (fun ls hl => ?_)
          refine lv_iload_n hx hb dX6_isSound_109 rfl (lv_at hl 0 rfl) ?_
          refine lv_if_eq (tgt := 147) hx hb dX6_isSound_110 (by decide) (fun _ => ?_) (fun c_28 => absurd c_28 (by decide))
          refine lv_iconst (v := 0) hx hb dX6_isSound_147 (by decide) ?_
          exact k_iret hx hb hr hlocks ⟨hK, hP, hD, hS, hA, hE, hN⟩ rfl dX6_isSound_148 (Nat.le_of_ble_eq_true rfl) (Nat.le_of_ble_eq_true rfl) ⟨(by simp only [sp_X6_isSound, if_pos c_0, if_neg c_1, if_neg c_5, if_pos c_27]), (gp (4 * k)), (gp ((4 * k) + 1)), (gp ((4 * k) + 2)), (gp ((4 * k) + 3)), rfl⟩
        · skip
          refine lv_aload_n hx hb dX6_isSound_65 rfl (lv_at hl 1 rfl) ?_
          refine va_get (D := g.1) (ci := 4) (v := .int (gp (4 * k))) (C := RX6) (T := TX6) (N := 17) hx hb hts iX6 hown hK hP 0 rfl rfl 13 (by decide) (hts (.fieldLink RX6 53 "FaultIsolationModel" "word" "I") (by decide +kernel)) (fun _ h9 => h9) rfl dX6_isSound_66 ?_
          refine kiS (As := [.int (gp (4 * k))]) (rest := []) (wc := []) (wr := [(hO, .inr (4, [.int xT, .int xB, .int (nI n), .ref qP, .int xP, .ref qN, .int xS, .ref qY, .ref qD, .int xA, .ref qR, .ref qM, .ref qT, .int (gp (4 * k)), .int (gp ((4 * k) + 1)), .int (gp ((4 * k) + 2)), .int (gp ((4 * k) + 3))])), (qP, .inl (g.2.1.1, 240, .inl gp))]) ⟨hx, hb, hml, hown, hts⟩ (c_X6_hasB l g (gp (4 * k))) (va_cwS 1 hts gX6_isSound_X6_hasB rfl rfl rfl (by decide +kernel) ⟨Nat.le_of_ble_eq_true rfl, Nat.le_of_ble_eq_true rfl⟩) ⟨hK, hP, hD, hS, hA, hE, hN⟩ [] [0, 1] ⟨rfl, rfl, by decide⟩ rfl hl.1 (Nat.le_of_ble_eq_true rfl) dX6_isSound_69 ⟨Nat.le_of_ble_eq_true rfl, Nat.le_of_ble_eq_true rfl⟩ rfl (fun r u H locs hw hP hD hS => ?_)
          obtain ⟨hq, hw⟩ := hw
          subst r
          subst hw
          have hP := hP.sub (ws' := [(hO, .inr (4, [.int xT, .int xB, .int (nI n), .ref qP, .int xP, .ref qN, .int xS, .ref qY, .ref qD, .int xA, .ref qR, .ref qM, .ref qT, .int (gp (4 * k)), .int (gp ((4 * k) + 1)), .int (gp ((4 * k) + 2)), .int (gp ((4 * k) + 3))])), (qP, .inl (g.2.1.1, 240, .inl gp))]) [0, 1] rfl
          have hD := hD.sub (ws' := [(hO, .inr (4, [.int xT, .int xB, .int (nI n), .ref qP, .int xP, .ref qN, .int xS, .ref qY, .ref qD, .int xA, .ref qR, .ref qM, .ref qT, .int (gp (4 * k)), .int (gp ((4 * k) + 1)), .int (gp ((4 * k) + 2)), .int (gp ((4 * k) + 3))])), (qP, .inl (g.2.1.1, 240, .inl gp))]) [0, 1] (by decide) rfl
          refine lv_if_eq (tgt := 84) hx hb dX6_isSound_72 (by decide) (fun c_29 => ?_) (fun c_29 => ?_)
          · skip
            refine lv_aload_n hx hb dX6_isSound_84 rfl (lv_at hl 1 rfl) ?_
            refine va_get (D := g.1) (ci := 4) (v := .int (gp (4 * k))) (C := RX6) (T := TX6) (N := 17) hx hb hts iX6 hown hK hP 0 rfl rfl 13 (by decide) (hts (.fieldLink RX6 53 "FaultIsolationModel" "word" "I") (by decide +kernel)) (fun _ h9 => h9) rfl dX6_isSound_85 ?_
            refine kiS (As := [.int (gp (4 * k))]) (rest := []) (wc := []) (wr := [(hO, .inr (4, [.int xT, .int xB, .int (nI n), .ref qP, .int xP, .ref qN, .int xS, .ref qY, .ref qD, .int xA, .ref qR, .ref qM, .ref qT, .int (gp (4 * k)), .int (gp ((4 * k) + 1)), .int (gp ((4 * k) + 2)), .int (gp ((4 * k) + 3))])), (qP, .inl (g.2.1.1, 240, .inl gp))]) ⟨hx, hb, hml, hown, hts⟩ (c_X6_hasC l g (gp (4 * k))) (va_cwS 1 hts gX6_isSound_X6_hasC rfl rfl rfl (by decide +kernel) ⟨Nat.le_of_ble_eq_true rfl, Nat.le_of_ble_eq_true rfl⟩) ⟨hK, hP, hD, hS, hA, hE, hN⟩ [] [0, 1] ⟨rfl, rfl, by decide⟩ rfl hl.1 (Nat.le_of_ble_eq_true rfl) dX6_isSound_88 ⟨Nat.le_of_ble_eq_true rfl, Nat.le_of_ble_eq_true rfl⟩ rfl (fun r u H locs hw hP hD hS => ?_)
            obtain ⟨hq, hw⟩ := hw
            subst r
            subst hw
            have hP := hP.sub (ws' := [(hO, .inr (4, [.int xT, .int xB, .int (nI n), .ref qP, .int xP, .ref qN, .int xS, .ref qY, .ref qD, .int xA, .ref qR, .ref qM, .ref qT, .int (gp (4 * k)), .int (gp ((4 * k) + 1)), .int (gp ((4 * k) + 2)), .int (gp ((4 * k) + 3))])), (qP, .inl (g.2.1.1, 240, .inl gp))]) [0, 1] rfl
            have hD := hD.sub (ws' := [(hO, .inr (4, [.int xT, .int xB, .int (nI n), .ref qP, .int xP, .ref qN, .int xS, .ref qY, .ref qD, .int xA, .ref qR, .ref qM, .ref qT, .int (gp (4 * k)), .int (gp ((4 * k) + 1)), .int (gp ((4 * k) + 2)), .int (gp ((4 * k) + 3))])), (qP, .inl (g.2.1.1, 240, .inl gp))]) [0, 1] (by decide) rfl
            refine lv_if_eq (tgt := 103) hx hb dX6_isSound_91 (by decide) (fun c_30 => ?_) (fun c_30 => ?_)
            · skip
              refine lv_iconst (v := 1) hx hb dX6_isSound_103 (by decide) ?_
              refine lv_goto (tgt := 108) hx hb dX6_isSound_104 (by decide) ?_
              refine lv_istore_n (lv' := [(2, .int 1), (0, .ref hO), (1, .int (nI k))]) hx hb dX6_isSound_108 rfl hl (by decide) rfl (fun ls hl => ?_)
              refine lv_iload_n hx hb dX6_isSound_109 rfl (lv_at hl 0 rfl) ?_
              refine lv_if_eq (tgt := 147) hx hb dX6_isSound_110 (by decide) (fun c_31 => absurd c_31 (by decide)) (fun _ => ?_)
              refine lv_aload_n hx hb dX6_isSound_113 rfl (lv_at hl 1 rfl) ?_
              refine va_get (D := g.1) (ci := 4) (v := .int (gp (4 * k))) (C := RX6) (T := TX6) (N := 17) hx hb hts iX6 hown hK hP 0 rfl rfl 13 (by decide) (hts (.fieldLink RX6 53 "FaultIsolationModel" "word" "I") (by decide +kernel)) (fun _ h9 => h9) rfl dX6_isSound_114 ?_
              refine kiS (As := [.int (gp (4 * k))]) (rest := []) (wc := []) (wr := [(hO, .inr (4, [.int xT, .int xB, .int (nI n), .ref qP, .int xP, .ref qN, .int xS, .ref qY, .ref qD, .int xA, .ref qR, .ref qM, .ref qT, .int (gp (4 * k)), .int (gp ((4 * k) + 1)), .int (gp ((4 * k) + 2)), .int (gp ((4 * k) + 3))])), (qP, .inl (g.2.1.1, 240, .inl gp))]) ⟨hx, hb, hml, hown, hts⟩ (c_X6_isPlace l g (gp (4 * k))) (va_cwS 1 hts gX6_isSound_X6_isPlace rfl rfl rfl (by decide +kernel) ⟨Nat.le_of_ble_eq_true rfl, Nat.le_of_ble_eq_true rfl⟩) ⟨hK, hP, hD, hS, hA, hE, hN⟩ [] [0, 1] ⟨rfl, rfl, by decide⟩ rfl hl.1 (Nat.le_of_ble_eq_true rfl) dX6_isSound_117 ⟨Nat.le_of_ble_eq_true rfl, Nat.le_of_ble_eq_true rfl⟩ rfl (fun r u H locs hw hP hD hS => ?_)
              obtain ⟨hq, hw⟩ := hw
              subst r
              subst hw
              have hP := hP.sub (ws' := [(hO, .inr (4, [.int xT, .int xB, .int (nI n), .ref qP, .int xP, .ref qN, .int xS, .ref qY, .ref qD, .int xA, .ref qR, .ref qM, .ref qT, .int (gp (4 * k)), .int (gp ((4 * k) + 1)), .int (gp ((4 * k) + 2)), .int (gp ((4 * k) + 3))])), (qP, .inl (g.2.1.1, 240, .inl gp))]) [0, 1] rfl
              have hD := hD.sub (ws' := [(hO, .inr (4, [.int xT, .int xB, .int (nI n), .ref qP, .int xP, .ref qN, .int xS, .ref qY, .ref qD, .int xA, .ref qR, .ref qM, .ref qT, .int (gp (4 * k)), .int (gp ((4 * k) + 1)), .int (gp ((4 * k) + 2)), .int (gp ((4 * k) + 3))])), (qP, .inl (g.2.1.1, 240, .inl gp))]) [0, 1] (by decide) rfl
              refine lv_if_eq (tgt := 143) hx hb dX6_isSound_120 (by decide) (fun c_32 => ?_) (fun c_32 => ?_)
              · skip
                refine lv_iconst (v := 1) hx hb dX6_isSound_143 (by decide) ?_
                refine lv_goto (tgt := 148) hx hb dX6_isSound_144 (by decide) ?_
                exact k_iret hx hb hr hlocks ⟨hK, hP, hD, hS, hA, hE, hN⟩ rfl dX6_isSound_148 (Nat.le_of_ble_eq_true rfl) (Nat.le_of_ble_eq_true rfl) ⟨(by simp only [sp_X6_isSound, if_pos c_0, if_neg c_1, if_neg c_5, if_neg c_27, if_pos c_29, if_pos c_30, if_pos c_32]), (gp (4 * k)), (gp ((4 * k) + 1)), (gp ((4 * k) + 2)), (gp ((4 * k) + 3)), rfl⟩
              · skip
                refine lv_sipush (v := 256) hx hb dX6_isSound_123 (by decide) ?_
                refine lv_aload_n hx hb dX6_isSound_126 rfl (lv_at hl 1 rfl) ?_
                refine va_get (D := g.1) (ci := 4) (v := .int (gp ((4 * k) + 2))) (C := RX6) (T := TX6) (N := 17) hx hb hts iX6 hown hK hP 0 rfl rfl 15 (by decide) (hts (.fieldLink RX6 59 "FaultIsolationModel" "b" "I") (by decide +kernel)) (fun _ h9 => h9) rfl dX6_isSound_127 ?_
                refine lv_imul hx hb dX6_isSound_130 ?_
                refine lv_aload_n hx hb dX6_isSound_131 rfl (lv_at hl 1 rfl) ?_
                refine va_get (D := g.1) (ci := 4) (v := .int (gp ((4 * k) + 3))) (C := RX6) (T := TX6) (N := 17) hx hb hts iX6 hown hK hP 0 rfl rfl 16 (by decide) (hts (.fieldLink RX6 62 "FaultIsolationModel" "c" "I") (by decide +kernel)) (fun _ h9 => h9) rfl dX6_isSound_132 ?_
                refine lv_iadd hx hb dX6_isSound_135 ?_
                refine lv_aload_n hx hb dX6_isSound_136 rfl (lv_at hl 1 rfl) ?_
                refine va_get (D := g.1) (ci := 4) (v := .int (nI n)) (C := RX6) (T := TX6) (N := 17) hx hb hts iX6 hown hK hP 0 rfl rfl 2 (by decide) (hts (.fieldLink RX6 46 "FaultIsolationModel" "count" "I") (by decide +kernel)) (fun _ h9 => h9) rfl dX6_isSound_137 ?_
                refine lv_icmp_ge (tgt := 147) hx hb dX6_isSound_140 (by decide) (fun c_33 => ?_) (fun c_33 => ?_)
                · skip
                  refine lv_iconst (v := 0) hx hb dX6_isSound_147 (by decide) ?_
                  exact k_iret hx hb hr hlocks ⟨hK, hP, hD, hS, hA, hE, hN⟩ rfl dX6_isSound_148 (Nat.le_of_ble_eq_true rfl) (Nat.le_of_ble_eq_true rfl) ⟨(by simp only [sp_X6_isSound, if_pos c_0, if_neg c_1, if_neg c_5, if_neg c_27, if_pos c_29, if_pos c_30, if_neg c_32, if_pos c_33]), (gp (4 * k)), (gp ((4 * k) + 1)), (gp ((4 * k) + 2)), (gp ((4 * k) + 3)), rfl⟩
                · skip
                  refine lv_iconst (v := 1) hx hb dX6_isSound_143 (by decide) ?_
                  refine lv_goto (tgt := 148) hx hb dX6_isSound_144 (by decide) ?_
                  exact k_iret hx hb hr hlocks ⟨hK, hP, hD, hS, hA, hE, hN⟩ rfl dX6_isSound_148 (Nat.le_of_ble_eq_true rfl) (Nat.le_of_ble_eq_true rfl) ⟨(by simp only [sp_X6_isSound, if_pos c_0, if_neg c_1, if_neg c_5, if_neg c_27, if_pos c_29, if_pos c_30, if_neg c_32, if_neg c_33]), (gp (4 * k)), (gp ((4 * k) + 1)), (gp ((4 * k) + 2)), (gp ((4 * k) + 3)), rfl⟩
            · skip
              refine lv_aload_n hx hb dX6_isSound_94 rfl (lv_at hl 1 rfl) ?_
              refine va_get (D := g.1) (ci := 4) (v := .int (gp ((4 * k) + 3))) (C := RX6) (T := TX6) (N := 17) hx hb hts iX6 hown hK hP 0 rfl rfl 16 (by decide) (hts (.fieldLink RX6 62 "FaultIsolationModel" "c" "I") (by decide +kernel)) (fun _ h9 => h9) rfl dX6_isSound_95 ?_
              refine lv_bipush (v := 6) hx hb dX6_isSound_98 (by decide) ?_
              refine lv_icmp_eq (tgt := 107) hx hb dX6_isSound_100 (by decide) (fun c_34 => ?_) (fun c_34 => ?_)
              · skip
                refine lv_iconst (v := 0) hx hb dX6_isSound_107 (by decide) ?_
                refine lv_istore_n (lv' := [(2, .int 0), (0, .ref hO), (1, .int (nI k))]) hx hb dX6_isSound_108 rfl hl (by decide) rfl (fun ls hl => ?_)
                refine lv_iload_n hx hb dX6_isSound_109 rfl (lv_at hl 0 rfl) ?_
                refine lv_if_eq (tgt := 147) hx hb dX6_isSound_110 (by decide) (fun _ => ?_) (fun c_35 => absurd c_35 (by decide))
                refine lv_iconst (v := 0) hx hb dX6_isSound_147 (by decide) ?_
                exact k_iret hx hb hr hlocks ⟨hK, hP, hD, hS, hA, hE, hN⟩ rfl dX6_isSound_148 (Nat.le_of_ble_eq_true rfl) (Nat.le_of_ble_eq_true rfl) ⟨(by simp only [sp_X6_isSound, if_pos c_0, if_neg c_1, if_neg c_5, if_neg c_27, if_pos c_29, if_neg c_30, if_pos c_34]), (gp (4 * k)), (gp ((4 * k) + 1)), (gp ((4 * k) + 2)), (gp ((4 * k) + 3)), rfl⟩
              · skip
                refine lv_iconst (v := 1) hx hb dX6_isSound_103 (by decide) ?_
                refine lv_goto (tgt := 108) hx hb dX6_isSound_104 (by decide) ?_
                refine lv_istore_n (lv' := [(2, .int 1), (0, .ref hO), (1, .int (nI k))]) hx hb dX6_isSound_108 rfl hl (by decide) rfl (fun ls hl => ?_)
                refine lv_iload_n hx hb dX6_isSound_109 rfl (lv_at hl 0 rfl) ?_
                refine lv_if_eq (tgt := 147) hx hb dX6_isSound_110 (by decide) (fun c_36 => absurd c_36 (by decide)) (fun _ => ?_)
                refine lv_aload_n hx hb dX6_isSound_113 rfl (lv_at hl 1 rfl) ?_
                refine va_get (D := g.1) (ci := 4) (v := .int (gp (4 * k))) (C := RX6) (T := TX6) (N := 17) hx hb hts iX6 hown hK hP 0 rfl rfl 13 (by decide) (hts (.fieldLink RX6 53 "FaultIsolationModel" "word" "I") (by decide +kernel)) (fun _ h9 => h9) rfl dX6_isSound_114 ?_
                refine kiS (As := [.int (gp (4 * k))]) (rest := []) (wc := []) (wr := [(hO, .inr (4, [.int xT, .int xB, .int (nI n), .ref qP, .int xP, .ref qN, .int xS, .ref qY, .ref qD, .int xA, .ref qR, .ref qM, .ref qT, .int (gp (4 * k)), .int (gp ((4 * k) + 1)), .int (gp ((4 * k) + 2)), .int (gp ((4 * k) + 3))])), (qP, .inl (g.2.1.1, 240, .inl gp))]) ⟨hx, hb, hml, hown, hts⟩ (c_X6_isPlace l g (gp (4 * k))) (va_cwS 1 hts gX6_isSound_X6_isPlace rfl rfl rfl (by decide +kernel) ⟨Nat.le_of_ble_eq_true rfl, Nat.le_of_ble_eq_true rfl⟩) ⟨hK, hP, hD, hS, hA, hE, hN⟩ [] [0, 1] ⟨rfl, rfl, by decide⟩ rfl hl.1 (Nat.le_of_ble_eq_true rfl) dX6_isSound_117 ⟨Nat.le_of_ble_eq_true rfl, Nat.le_of_ble_eq_true rfl⟩ rfl (fun r u H locs hw hP hD hS => ?_)
                obtain ⟨hq, hw⟩ := hw
                subst r
                subst hw
                have hP := hP.sub (ws' := [(hO, .inr (4, [.int xT, .int xB, .int (nI n), .ref qP, .int xP, .ref qN, .int xS, .ref qY, .ref qD, .int xA, .ref qR, .ref qM, .ref qT, .int (gp (4 * k)), .int (gp ((4 * k) + 1)), .int (gp ((4 * k) + 2)), .int (gp ((4 * k) + 3))])), (qP, .inl (g.2.1.1, 240, .inl gp))]) [0, 1] rfl
                have hD := hD.sub (ws' := [(hO, .inr (4, [.int xT, .int xB, .int (nI n), .ref qP, .int xP, .ref qN, .int xS, .ref qY, .ref qD, .int xA, .ref qR, .ref qM, .ref qT, .int (gp (4 * k)), .int (gp ((4 * k) + 1)), .int (gp ((4 * k) + 2)), .int (gp ((4 * k) + 3))])), (qP, .inl (g.2.1.1, 240, .inl gp))]) [0, 1] (by decide) rfl
                refine lv_if_eq (tgt := 143) hx hb dX6_isSound_120 (by decide) (fun c_37 => ?_) (fun c_37 => ?_)
                · skip
                  refine lv_iconst (v := 1) hx hb dX6_isSound_143 (by decide) ?_
                  refine lv_goto (tgt := 148) hx hb dX6_isSound_144 (by decide) ?_
                  exact k_iret hx hb hr hlocks ⟨hK, hP, hD, hS, hA, hE, hN⟩ rfl dX6_isSound_148 (Nat.le_of_ble_eq_true rfl) (Nat.le_of_ble_eq_true rfl) ⟨(by simp only [sp_X6_isSound, if_pos c_0, if_neg c_1, if_neg c_5, if_neg c_27, if_pos c_29, if_neg c_30, if_neg c_34, if_pos c_37]), (gp (4 * k)), (gp ((4 * k) + 1)), (gp ((4 * k) + 2)), (gp ((4 * k) + 3)), rfl⟩
                · skip
                  refine lv_sipush (v := 256) hx hb dX6_isSound_123 (by decide) ?_
                  refine lv_aload_n hx hb dX6_isSound_126 rfl (lv_at hl 1 rfl) ?_
                  refine va_get (D := g.1) (ci := 4) (v := .int (gp ((4 * k) + 2))) (C := RX6) (T := TX6) (N := 17) hx hb hts iX6 hown hK hP 0 rfl rfl 15 (by decide) (hts (.fieldLink RX6 59 "FaultIsolationModel" "b" "I") (by decide +kernel)) (fun _ h9 => h9) rfl dX6_isSound_127 ?_
                  refine lv_imul hx hb dX6_isSound_130 ?_
                  refine lv_aload_n hx hb dX6_isSound_131 rfl (lv_at hl 1 rfl) ?_
                  refine va_get (D := g.1) (ci := 4) (v := .int (gp ((4 * k) + 3))) (C := RX6) (T := TX6) (N := 17) hx hb hts iX6 hown hK hP 0 rfl rfl 16 (by decide) (hts (.fieldLink RX6 62 "FaultIsolationModel" "c" "I") (by decide +kernel)) (fun _ h9 => h9) rfl dX6_isSound_132 ?_
                  refine lv_iadd hx hb dX6_isSound_135 ?_
                  refine lv_aload_n hx hb dX6_isSound_136 rfl (lv_at hl 1 rfl) ?_
                  refine va_get (D := g.1) (ci := 4) (v := .int (nI n)) (C := RX6) (T := TX6) (N := 17) hx hb hts iX6 hown hK hP 0 rfl rfl 2 (by decide) (hts (.fieldLink RX6 46 "FaultIsolationModel" "count" "I") (by decide +kernel)) (fun _ h9 => h9) rfl dX6_isSound_137 ?_
                  refine lv_icmp_ge (tgt := 147) hx hb dX6_isSound_140 (by decide) (fun c_38 => ?_) (fun c_38 => ?_)
                  · skip
                    refine lv_iconst (v := 0) hx hb dX6_isSound_147 (by decide) ?_
                    exact k_iret hx hb hr hlocks ⟨hK, hP, hD, hS, hA, hE, hN⟩ rfl dX6_isSound_148 (Nat.le_of_ble_eq_true rfl) (Nat.le_of_ble_eq_true rfl) ⟨(by simp only [sp_X6_isSound, if_pos c_0, if_neg c_1, if_neg c_5, if_neg c_27, if_pos c_29, if_neg c_30, if_neg c_34, if_neg c_37, if_pos c_38]), (gp (4 * k)), (gp ((4 * k) + 1)), (gp ((4 * k) + 2)), (gp ((4 * k) + 3)), rfl⟩
                  · skip
                    refine lv_iconst (v := 1) hx hb dX6_isSound_143 (by decide) ?_
                    refine lv_goto (tgt := 148) hx hb dX6_isSound_144 (by decide) ?_
                    exact k_iret hx hb hr hlocks ⟨hK, hP, hD, hS, hA, hE, hN⟩ rfl dX6_isSound_148 (Nat.le_of_ble_eq_true rfl) (Nat.le_of_ble_eq_true rfl) ⟨(by simp only [sp_X6_isSound, if_pos c_0, if_neg c_1, if_neg c_5, if_neg c_27, if_pos c_29, if_neg c_30, if_neg c_34, if_neg c_37, if_neg c_38]), (gp (4 * k)), (gp ((4 * k) + 1)), (gp ((4 * k) + 2)), (gp ((4 * k) + 3)), rfl⟩
          · skip
            refine lv_aload_n hx hb dX6_isSound_75 rfl (lv_at hl 1 rfl) ?_
            refine va_get (D := g.1) (ci := 4) (v := .int (gp ((4 * k) + 2))) (C := RX6) (T := TX6) (N := 17) hx hb hts iX6 hown hK hP 0 rfl rfl 15 (by decide) (hts (.fieldLink RX6 59 "FaultIsolationModel" "b" "I") (by decide +kernel)) (fun _ h9 => h9) rfl dX6_isSound_76 ?_
            refine lv_bipush (v := 6) hx hb dX6_isSound_79 (by decide) ?_
            refine lv_icmp_eq (tgt := 107) hx hb dX6_isSound_81 (by decide) (fun c_39 => ?_) (fun c_39 => ?_)
            · skip
              refine lv_iconst (v := 0) hx hb dX6_isSound_107 (by decide) ?_
              refine lv_istore_n (lv' := [(2, .int 0), (0, .ref hO), (1, .int (nI k))]) hx hb dX6_isSound_108 rfl hl (by decide) rfl (fun ls hl => ?_)
              refine lv_iload_n hx hb dX6_isSound_109 rfl (lv_at hl 0 rfl) ?_
              refine lv_if_eq (tgt := 147) hx hb dX6_isSound_110 (by decide) (fun _ => ?_) (fun c_40 => absurd c_40 (by decide))
              refine lv_iconst (v := 0) hx hb dX6_isSound_147 (by decide) ?_
              exact k_iret hx hb hr hlocks ⟨hK, hP, hD, hS, hA, hE, hN⟩ rfl dX6_isSound_148 (Nat.le_of_ble_eq_true rfl) (Nat.le_of_ble_eq_true rfl) ⟨(by simp only [sp_X6_isSound, if_pos c_0, if_neg c_1, if_neg c_5, if_neg c_27, if_neg c_29, if_pos c_39]), (gp (4 * k)), (gp ((4 * k) + 1)), (gp ((4 * k) + 2)), (gp ((4 * k) + 3)), rfl⟩
            · skip
              refine lv_aload_n hx hb dX6_isSound_84 rfl (lv_at hl 1 rfl) ?_
              refine va_get (D := g.1) (ci := 4) (v := .int (gp (4 * k))) (C := RX6) (T := TX6) (N := 17) hx hb hts iX6 hown hK hP 0 rfl rfl 13 (by decide) (hts (.fieldLink RX6 53 "FaultIsolationModel" "word" "I") (by decide +kernel)) (fun _ h9 => h9) rfl dX6_isSound_85 ?_
              refine kiS (As := [.int (gp (4 * k))]) (rest := []) (wc := []) (wr := [(hO, .inr (4, [.int xT, .int xB, .int (nI n), .ref qP, .int xP, .ref qN, .int xS, .ref qY, .ref qD, .int xA, .ref qR, .ref qM, .ref qT, .int (gp (4 * k)), .int (gp ((4 * k) + 1)), .int (gp ((4 * k) + 2)), .int (gp ((4 * k) + 3))])), (qP, .inl (g.2.1.1, 240, .inl gp))]) ⟨hx, hb, hml, hown, hts⟩ (c_X6_hasC l g (gp (4 * k))) (va_cwS 1 hts gX6_isSound_X6_hasC rfl rfl rfl (by decide +kernel) ⟨Nat.le_of_ble_eq_true rfl, Nat.le_of_ble_eq_true rfl⟩) ⟨hK, hP, hD, hS, hA, hE, hN⟩ [] [0, 1] ⟨rfl, rfl, by decide⟩ rfl hl.1 (Nat.le_of_ble_eq_true rfl) dX6_isSound_88 ⟨Nat.le_of_ble_eq_true rfl, Nat.le_of_ble_eq_true rfl⟩ rfl (fun r u H locs hw hP hD hS => ?_)
              obtain ⟨hq, hw⟩ := hw
              subst r
              subst hw
              have hP := hP.sub (ws' := [(hO, .inr (4, [.int xT, .int xB, .int (nI n), .ref qP, .int xP, .ref qN, .int xS, .ref qY, .ref qD, .int xA, .ref qR, .ref qM, .ref qT, .int (gp (4 * k)), .int (gp ((4 * k) + 1)), .int (gp ((4 * k) + 2)), .int (gp ((4 * k) + 3))])), (qP, .inl (g.2.1.1, 240, .inl gp))]) [0, 1] rfl
              have hD := hD.sub (ws' := [(hO, .inr (4, [.int xT, .int xB, .int (nI n), .ref qP, .int xP, .ref qN, .int xS, .ref qY, .ref qD, .int xA, .ref qR, .ref qM, .ref qT, .int (gp (4 * k)), .int (gp ((4 * k) + 1)), .int (gp ((4 * k) + 2)), .int (gp ((4 * k) + 3))])), (qP, .inl (g.2.1.1, 240, .inl gp))]) [0, 1] (by decide) rfl
              refine lv_if_eq (tgt := 103) hx hb dX6_isSound_91 (by decide) (fun c_41 => ?_) (fun c_41 => ?_)
              · skip
                refine lv_iconst (v := 1) hx hb dX6_isSound_103 (by decide) ?_
                refine lv_goto (tgt := 108) hx hb dX6_isSound_104 (by decide) ?_
                refine lv_istore_n (lv' := [(2, .int 1), (0, .ref hO), (1, .int (nI k))]) hx hb dX6_isSound_108 rfl hl (by decide) rfl (fun ls hl => ?_)
                refine lv_iload_n hx hb dX6_isSound_109 rfl (lv_at hl 0 rfl) ?_
                refine lv_if_eq (tgt := 147) hx hb dX6_isSound_110 (by decide) (fun c_42 => absurd c_42 (by decide)) (fun _ => ?_)
                refine lv_aload_n hx hb dX6_isSound_113 rfl (lv_at hl 1 rfl) ?_
                refine va_get (D := g.1) (ci := 4) (v := .int (gp (4 * k))) (C := RX6) (T := TX6) (N := 17) hx hb hts iX6 hown hK hP 0 rfl rfl 13 (by decide) (hts (.fieldLink RX6 53 "FaultIsolationModel" "word" "I") (by decide +kernel)) (fun _ h9 => h9) rfl dX6_isSound_114 ?_
                refine kiS (As := [.int (gp (4 * k))]) (rest := []) (wc := []) (wr := [(hO, .inr (4, [.int xT, .int xB, .int (nI n), .ref qP, .int xP, .ref qN, .int xS, .ref qY, .ref qD, .int xA, .ref qR, .ref qM, .ref qT, .int (gp (4 * k)), .int (gp ((4 * k) + 1)), .int (gp ((4 * k) + 2)), .int (gp ((4 * k) + 3))])), (qP, .inl (g.2.1.1, 240, .inl gp))]) ⟨hx, hb, hml, hown, hts⟩ (c_X6_isPlace l g (gp (4 * k))) (va_cwS 1 hts gX6_isSound_X6_isPlace rfl rfl rfl (by decide +kernel) ⟨Nat.le_of_ble_eq_true rfl, Nat.le_of_ble_eq_true rfl⟩) ⟨hK, hP, hD, hS, hA, hE, hN⟩ [] [0, 1] ⟨rfl, rfl, by decide⟩ rfl hl.1 (Nat.le_of_ble_eq_true rfl) dX6_isSound_117 ⟨Nat.le_of_ble_eq_true rfl, Nat.le_of_ble_eq_true rfl⟩ rfl (fun r u H locs hw hP hD hS => ?_)
                obtain ⟨hq, hw⟩ := hw
                subst r
                subst hw
                have hP := hP.sub (ws' := [(hO, .inr (4, [.int xT, .int xB, .int (nI n), .ref qP, .int xP, .ref qN, .int xS, .ref qY, .ref qD, .int xA, .ref qR, .ref qM, .ref qT, .int (gp (4 * k)), .int (gp ((4 * k) + 1)), .int (gp ((4 * k) + 2)), .int (gp ((4 * k) + 3))])), (qP, .inl (g.2.1.1, 240, .inl gp))]) [0, 1] rfl
                have hD := hD.sub (ws' := [(hO, .inr (4, [.int xT, .int xB, .int (nI n), .ref qP, .int xP, .ref qN, .int xS, .ref qY, .ref qD, .int xA, .ref qR, .ref qM, .ref qT, .int (gp (4 * k)), .int (gp ((4 * k) + 1)), .int (gp ((4 * k) + 2)), .int (gp ((4 * k) + 3))])), (qP, .inl (g.2.1.1, 240, .inl gp))]) [0, 1] (by decide) rfl
                refine lv_if_eq (tgt := 143) hx hb dX6_isSound_120 (by decide) (fun c_43 => ?_) (fun c_43 => ?_)
                · skip
                  refine lv_iconst (v := 1) hx hb dX6_isSound_143 (by decide) ?_
                  refine lv_goto (tgt := 148) hx hb dX6_isSound_144 (by decide) ?_
                  exact k_iret hx hb hr hlocks ⟨hK, hP, hD, hS, hA, hE, hN⟩ rfl dX6_isSound_148 (Nat.le_of_ble_eq_true rfl) (Nat.le_of_ble_eq_true rfl) ⟨(by simp only [sp_X6_isSound, if_pos c_0, if_neg c_1, if_neg c_5, if_neg c_27, if_neg c_29, if_neg c_39, if_pos c_41, if_pos c_43]), (gp (4 * k)), (gp ((4 * k) + 1)), (gp ((4 * k) + 2)), (gp ((4 * k) + 3)), rfl⟩
                · skip
                  refine lv_sipush (v := 256) hx hb dX6_isSound_123 (by decide) ?_
                  refine lv_aload_n hx hb dX6_isSound_126 rfl (lv_at hl 1 rfl) ?_
                  refine va_get (D := g.1) (ci := 4) (v := .int (gp ((4 * k) + 2))) (C := RX6) (T := TX6) (N := 17) hx hb hts iX6 hown hK hP 0 rfl rfl 15 (by decide) (hts (.fieldLink RX6 59 "FaultIsolationModel" "b" "I") (by decide +kernel)) (fun _ h9 => h9) rfl dX6_isSound_127 ?_
                  refine lv_imul hx hb dX6_isSound_130 ?_
                  refine lv_aload_n hx hb dX6_isSound_131 rfl (lv_at hl 1 rfl) ?_
                  refine va_get (D := g.1) (ci := 4) (v := .int (gp ((4 * k) + 3))) (C := RX6) (T := TX6) (N := 17) hx hb hts iX6 hown hK hP 0 rfl rfl 16 (by decide) (hts (.fieldLink RX6 62 "FaultIsolationModel" "c" "I") (by decide +kernel)) (fun _ h9 => h9) rfl dX6_isSound_132 ?_
                  refine lv_iadd hx hb dX6_isSound_135 ?_
                  refine lv_aload_n hx hb dX6_isSound_136 rfl (lv_at hl 1 rfl) ?_
                  refine va_get (D := g.1) (ci := 4) (v := .int (nI n)) (C := RX6) (T := TX6) (N := 17) hx hb hts iX6 hown hK hP 0 rfl rfl 2 (by decide) (hts (.fieldLink RX6 46 "FaultIsolationModel" "count" "I") (by decide +kernel)) (fun _ h9 => h9) rfl dX6_isSound_137 ?_
                  refine lv_icmp_ge (tgt := 147) hx hb dX6_isSound_140 (by decide) (fun c_44 => ?_) (fun c_44 => ?_)
                  · skip
                    refine lv_iconst (v := 0) hx hb dX6_isSound_147 (by decide) ?_
                    exact k_iret hx hb hr hlocks ⟨hK, hP, hD, hS, hA, hE, hN⟩ rfl dX6_isSound_148 (Nat.le_of_ble_eq_true rfl) (Nat.le_of_ble_eq_true rfl) ⟨(by simp only [sp_X6_isSound, if_pos c_0, if_neg c_1, if_neg c_5, if_neg c_27, if_neg c_29, if_neg c_39, if_pos c_41, if_neg c_43, if_pos c_44]), (gp (4 * k)), (gp ((4 * k) + 1)), (gp ((4 * k) + 2)), (gp ((4 * k) + 3)), rfl⟩
                  · skip
                    refine lv_iconst (v := 1) hx hb dX6_isSound_143 (by decide) ?_
                    refine lv_goto (tgt := 148) hx hb dX6_isSound_144 (by decide) ?_
                    exact k_iret hx hb hr hlocks ⟨hK, hP, hD, hS, hA, hE, hN⟩ rfl dX6_isSound_148 (Nat.le_of_ble_eq_true rfl) (Nat.le_of_ble_eq_true rfl) ⟨(by simp only [sp_X6_isSound, if_pos c_0, if_neg c_1, if_neg c_5, if_neg c_27, if_neg c_29, if_neg c_39, if_pos c_41, if_neg c_43, if_neg c_44]), (gp (4 * k)), (gp ((4 * k) + 1)), (gp ((4 * k) + 2)), (gp ((4 * k) + 3)), rfl⟩
              · skip
                refine lv_aload_n hx hb dX6_isSound_94 rfl (lv_at hl 1 rfl) ?_
                refine va_get (D := g.1) (ci := 4) (v := .int (gp ((4 * k) + 3))) (C := RX6) (T := TX6) (N := 17) hx hb hts iX6 hown hK hP 0 rfl rfl 16 (by decide) (hts (.fieldLink RX6 62 "FaultIsolationModel" "c" "I") (by decide +kernel)) (fun _ h9 => h9) rfl dX6_isSound_95 ?_
                refine lv_bipush (v := 6) hx hb dX6_isSound_98 (by decide) ?_
                refine lv_icmp_eq (tgt := 107) hx hb dX6_isSound_100 (by decide) (fun c_45 => ?_) (fun c_45 => ?_)
                · skip
                  refine lv_iconst (v := 0) hx hb dX6_isSound_107 (by decide) ?_
                  refine lv_istore_n (lv' := [(2, .int 0), (0, .ref hO), (1, .int (nI k))]) hx hb dX6_isSound_108 rfl hl (by decide) rfl (fun ls hl => ?_)
                  refine lv_iload_n hx hb dX6_isSound_109 rfl (lv_at hl 0 rfl) ?_
                  refine lv_if_eq (tgt := 147) hx hb dX6_isSound_110 (by decide) (fun _ => ?_) (fun c_46 => absurd c_46 (by decide))
                  refine lv_iconst (v := 0) hx hb dX6_isSound_147 (by decide) ?_
                  exact k_iret hx hb hr hlocks ⟨hK, hP, hD, hS, hA, hE, hN⟩ rfl dX6_isSound_148 (Nat.le_of_ble_eq_true rfl) (Nat.le_of_ble_eq_true rfl) ⟨(by simp only [sp_X6_isSound, if_pos c_0, if_neg c_1, if_neg c_5, if_neg c_27, if_neg c_29, if_neg c_39, if_neg c_41, if_pos c_45]), (gp (4 * k)), (gp ((4 * k) + 1)), (gp ((4 * k) + 2)), (gp ((4 * k) + 3)), rfl⟩
                · skip
                  refine lv_iconst (v := 1) hx hb dX6_isSound_103 (by decide) ?_
                  refine lv_goto (tgt := 108) hx hb dX6_isSound_104 (by decide) ?_
                  refine lv_istore_n (lv' := [(2, .int 1), (0, .ref hO), (1, .int (nI k))]) hx hb dX6_isSound_108 rfl hl (by decide) rfl (fun ls hl => ?_)
                  refine lv_iload_n hx hb dX6_isSound_109 rfl (lv_at hl 0 rfl) ?_
                  refine lv_if_eq (tgt := 147) hx hb dX6_isSound_110 (by decide) (fun c_47 => absurd c_47 (by decide)) (fun _ => ?_)
                  refine lv_aload_n hx hb dX6_isSound_113 rfl (lv_at hl 1 rfl) ?_
                  refine va_get (D := g.1) (ci := 4) (v := .int (gp (4 * k))) (C := RX6) (T := TX6) (N := 17) hx hb hts iX6 hown hK hP 0 rfl rfl 13 (by decide) (hts (.fieldLink RX6 53 "FaultIsolationModel" "word" "I") (by decide +kernel)) (fun _ h9 => h9) rfl dX6_isSound_114 ?_
                  refine kiS (As := [.int (gp (4 * k))]) (rest := []) (wc := []) (wr := [(hO, .inr (4, [.int xT, .int xB, .int (nI n), .ref qP, .int xP, .ref qN, .int xS, .ref qY, .ref qD, .int xA, .ref qR, .ref qM, .ref qT, .int (gp (4 * k)), .int (gp ((4 * k) + 1)), .int (gp ((4 * k) + 2)), .int (gp ((4 * k) + 3))])), (qP, .inl (g.2.1.1, 240, .inl gp))]) ⟨hx, hb, hml, hown, hts⟩ (c_X6_isPlace l g (gp (4 * k))) (va_cwS 1 hts gX6_isSound_X6_isPlace rfl rfl rfl (by decide +kernel) ⟨Nat.le_of_ble_eq_true rfl, Nat.le_of_ble_eq_true rfl⟩) ⟨hK, hP, hD, hS, hA, hE, hN⟩ [] [0, 1] ⟨rfl, rfl, by decide⟩ rfl hl.1 (Nat.le_of_ble_eq_true rfl) dX6_isSound_117 ⟨Nat.le_of_ble_eq_true rfl, Nat.le_of_ble_eq_true rfl⟩ rfl (fun r u H locs hw hP hD hS => ?_)
                  obtain ⟨hq, hw⟩ := hw
                  subst r
                  subst hw
                  have hP := hP.sub (ws' := [(hO, .inr (4, [.int xT, .int xB, .int (nI n), .ref qP, .int xP, .ref qN, .int xS, .ref qY, .ref qD, .int xA, .ref qR, .ref qM, .ref qT, .int (gp (4 * k)), .int (gp ((4 * k) + 1)), .int (gp ((4 * k) + 2)), .int (gp ((4 * k) + 3))])), (qP, .inl (g.2.1.1, 240, .inl gp))]) [0, 1] rfl
                  have hD := hD.sub (ws' := [(hO, .inr (4, [.int xT, .int xB, .int (nI n), .ref qP, .int xP, .ref qN, .int xS, .ref qY, .ref qD, .int xA, .ref qR, .ref qM, .ref qT, .int (gp (4 * k)), .int (gp ((4 * k) + 1)), .int (gp ((4 * k) + 2)), .int (gp ((4 * k) + 3))])), (qP, .inl (g.2.1.1, 240, .inl gp))]) [0, 1] (by decide) rfl
                  refine lv_if_eq (tgt := 143) hx hb dX6_isSound_120 (by decide) (fun c_48 => ?_) (fun c_48 => ?_)
                  · skip
                    refine lv_iconst (v := 1) hx hb dX6_isSound_143 (by decide) ?_
                    refine lv_goto (tgt := 148) hx hb dX6_isSound_144 (by decide) ?_
                    exact k_iret hx hb hr hlocks ⟨hK, hP, hD, hS, hA, hE, hN⟩ rfl dX6_isSound_148 (Nat.le_of_ble_eq_true rfl) (Nat.le_of_ble_eq_true rfl) ⟨(by simp only [sp_X6_isSound, if_pos c_0, if_neg c_1, if_neg c_5, if_neg c_27, if_neg c_29, if_neg c_39, if_neg c_41, if_neg c_45, if_pos c_48]), (gp (4 * k)), (gp ((4 * k) + 1)), (gp ((4 * k) + 2)), (gp ((4 * k) + 3)), rfl⟩
                  · skip
                    refine lv_sipush (v := 256) hx hb dX6_isSound_123 (by decide) ?_
                    refine lv_aload_n hx hb dX6_isSound_126 rfl (lv_at hl 1 rfl) ?_
                    refine va_get (D := g.1) (ci := 4) (v := .int (gp ((4 * k) + 2))) (C := RX6) (T := TX6) (N := 17) hx hb hts iX6 hown hK hP 0 rfl rfl 15 (by decide) (hts (.fieldLink RX6 59 "FaultIsolationModel" "b" "I") (by decide +kernel)) (fun _ h9 => h9) rfl dX6_isSound_127 ?_
                    refine lv_imul hx hb dX6_isSound_130 ?_
                    refine lv_aload_n hx hb dX6_isSound_131 rfl (lv_at hl 1 rfl) ?_
                    refine va_get (D := g.1) (ci := 4) (v := .int (gp ((4 * k) + 3))) (C := RX6) (T := TX6) (N := 17) hx hb hts iX6 hown hK hP 0 rfl rfl 16 (by decide) (hts (.fieldLink RX6 62 "FaultIsolationModel" "c" "I") (by decide +kernel)) (fun _ h9 => h9) rfl dX6_isSound_132 ?_
                    refine lv_iadd hx hb dX6_isSound_135 ?_
                    refine lv_aload_n hx hb dX6_isSound_136 rfl (lv_at hl 1 rfl) ?_
                    refine va_get (D := g.1) (ci := 4) (v := .int (nI n)) (C := RX6) (T := TX6) (N := 17) hx hb hts iX6 hown hK hP 0 rfl rfl 2 (by decide) (hts (.fieldLink RX6 46 "FaultIsolationModel" "count" "I") (by decide +kernel)) (fun _ h9 => h9) rfl dX6_isSound_137 ?_
                    refine lv_icmp_ge (tgt := 147) hx hb dX6_isSound_140 (by decide) (fun c_49 => ?_) (fun c_49 => ?_)
                    · skip
                      refine lv_iconst (v := 0) hx hb dX6_isSound_147 (by decide) ?_
                      exact k_iret hx hb hr hlocks ⟨hK, hP, hD, hS, hA, hE, hN⟩ rfl dX6_isSound_148 (Nat.le_of_ble_eq_true rfl) (Nat.le_of_ble_eq_true rfl) ⟨(by simp only [sp_X6_isSound, if_pos c_0, if_neg c_1, if_neg c_5, if_neg c_27, if_neg c_29, if_neg c_39, if_neg c_41, if_neg c_45, if_neg c_48, if_pos c_49]), (gp (4 * k)), (gp ((4 * k) + 1)), (gp ((4 * k) + 2)), (gp ((4 * k) + 3)), rfl⟩
                    · skip
                      refine lv_iconst (v := 1) hx hb dX6_isSound_143 (by decide) ?_
                      refine lv_goto (tgt := 148) hx hb dX6_isSound_144 (by decide) ?_
                      exact k_iret hx hb hr hlocks ⟨hK, hP, hD, hS, hA, hE, hN⟩ rfl dX6_isSound_148 (Nat.le_of_ble_eq_true rfl) (Nat.le_of_ble_eq_true rfl) ⟨(by simp only [sp_X6_isSound, if_pos c_0, if_neg c_1, if_neg c_5, if_neg c_27, if_neg c_29, if_neg c_39, if_neg c_41, if_neg c_45, if_neg c_48, if_neg c_49]), (gp (4 * k)), (gp ((4 * k) + 1)), (gp ((4 * k) + 2)), (gp ((4 * k) + 3)), rfl⟩
  · skip
    refine lv_aload_n hx hb dX6_isSound_20 rfl (lv_at hl 0 rfl) ?_
    refine va_get (D := g.1) (ci := 4) (v := .int (gp (4 * k))) (C := RX6) (T := TX6) (N := 17) hx hb hts iX6 hown hK hP 0 rfl rfl 13 (by decide) (hts (.fieldLink RX6 53 "FaultIsolationModel" "word" "I") (by decide +kernel)) (fun _ h9 => h9) rfl dX6_isSound_21 ?_
    refine lv_bipush (v := 18) hx hb dX6_isSound_24 (by decide) ?_
    refine lv_icmp_ne (tgt := 40) hx hb dX6_isSound_26 (by decide) (fun c_50 => ?_) (fun c_50 => ?_)
    · skip
      refine lv_iconst (v := 0) hx hb dX6_isSound_40 (by decide) ?_
      refine lv_istore_n (lv' := [(2, .int 0), (0, .ref hO), (1, .int (nI k))]) hx hb dX6_isSound_41 rfl hl (by decide) rfl (fun ls hl => ?_)
      refine lv_iload_n hx hb dX6_isSound_42 rfl (lv_at hl 0 rfl) ?_
      refine lv_if_eq (tgt := 107) hx hb dX6_isSound_43 (by decide) (fun _ => ?_) (fun c_51 => absurd c_51 (by decide))
      refine lv_iconst (v := 0) hx hb dX6_isSound_107 (by decide) ?_
      refine lv_istore_n (lv' := [(2, .int 0), (0, .ref hO), (1, .int (nI k))]) hx hb dX6_isSound_108 rfl hl (by decide) rfl (fun ls hl => ?_)
      refine lv_iload_n hx hb dX6_isSound_109 rfl (lv_at hl 0 rfl) ?_
      refine lv_if_eq (tgt := 147) hx hb dX6_isSound_110 (by decide) (fun _ => ?_) (fun c_52 => absurd c_52 (by decide))
      refine lv_iconst (v := 0) hx hb dX6_isSound_147 (by decide) ?_
      exact k_iret hx hb hr hlocks ⟨hK, hP, hD, hS, hA, hE, hN⟩ rfl dX6_isSound_148 (Nat.le_of_ble_eq_true rfl) (Nat.le_of_ble_eq_true rfl) ⟨(by simp only [sp_X6_isSound, if_neg c_0, if_neg c_50]), (gp (4 * k)), (gp ((4 * k) + 1)), (gp ((4 * k) + 2)), (gp ((4 * k) + 3)), rfl⟩
    · skip
      refine lv_aload_n hx hb dX6_isSound_29 rfl (lv_at hl 0 rfl) ?_
      refine kiV (As := []) (rest := []) (wc := [(hO, .inr (4, [.int xT, .int xB, .int (nI n), .ref qP, .int xP, .ref qN, .int xS, .ref qY, .ref qD, .int xA, .ref qR, .ref qM, .ref qT, .int (gp (4 * k)), .int (gp ((4 * k) + 1)), .int (gp ((4 * k) + 2)), .int (gp ((4 * k) + 3))]))]) (wr := [(qP, .inl (g.2.1.1, 240, .inl gp))]) ⟨hx, hb, hml, hown, hts⟩ (c_X6_areRegisters l g hO qP qN qY qD qR qM qT xT xB (nI n) xP xS xA (gp (4 * k)) (gp ((4 * k) + 1)) (gp ((4 * k) + 2)) (gp ((4 * k) + 3))) (cwV 0 hts gX6_isSound_X6_areRegisters rfl rfl rfl (by decide +kernel) ⟨Nat.le_of_ble_eq_true rfl, Nat.le_of_ble_eq_true rfl⟩) ⟨hK, hP, hD, hS, hA, hE, hN⟩ [0] [1] ⟨rfl, rfl, by decide⟩ (q0 := 0) (ci := 4) rfl rfl rfl rfl hl.1 (Nat.le_of_ble_eq_true rfl) dX6_isSound_30 ⟨Nat.le_of_ble_eq_true rfl, Nat.le_of_ble_eq_true rfl⟩ rfl (fun r u H locs hw hP hD hS => ?_)
      obtain ⟨hq, hw⟩ := hw
      subst r
      subst hw
      have hP := hP.sub (ws' := [(hO, .inr (4, [.int xT, .int xB, .int (nI n), .ref qP, .int xP, .ref qN, .int xS, .ref qY, .ref qD, .int xA, .ref qR, .ref qM, .ref qT, .int (gp (4 * k)), .int (gp ((4 * k) + 1)), .int (gp ((4 * k) + 2)), .int (gp ((4 * k) + 3))])), (qP, .inl (g.2.1.1, 240, .inl gp))]) [1, 0] rfl
      have hD := hD.sub (ws' := [(hO, .inr (4, [.int xT, .int xB, .int (nI n), .ref qP, .int xP, .ref qN, .int xS, .ref qY, .ref qD, .int xA, .ref qR, .ref qM, .ref qT, .int (gp (4 * k)), .int (gp ((4 * k) + 1)), .int (gp ((4 * k) + 2)), .int (gp ((4 * k) + 3))])), (qP, .inl (g.2.1.1, 240, .inl gp))]) [1, 0] (by decide) rfl
      refine lv_if_eq (tgt := 40) hx hb dX6_isSound_33 (by decide) (fun c_53 => ?_) (fun c_53 => ?_)
      · skip
        refine lv_iconst (v := 0) hx hb dX6_isSound_40 (by decide) ?_
        refine lv_istore_n (lv' := [(2, .int 0), (0, .ref hO), (1, .int (nI k))]) hx hb dX6_isSound_41 rfl hl (by decide) rfl (fun ls hl => ?_)
        refine lv_iload_n hx hb dX6_isSound_42 rfl (lv_at hl 0 rfl) ?_
        refine lv_if_eq (tgt := 107) hx hb dX6_isSound_43 (by decide) (fun _ => ?_) (fun c_54 => absurd c_54 (by decide))
        refine lv_iconst (v := 0) hx hb dX6_isSound_107 (by decide) ?_
        refine lv_istore_n (lv' := [(2, .int 0), (0, .ref hO), (1, .int (nI k))]) hx hb dX6_isSound_108 rfl hl (by decide) rfl (fun ls hl => ?_)
        refine lv_iload_n hx hb dX6_isSound_109 rfl (lv_at hl 0 rfl) ?_
        refine lv_if_eq (tgt := 147) hx hb dX6_isSound_110 (by decide) (fun _ => ?_) (fun c_55 => absurd c_55 (by decide))
        refine lv_iconst (v := 0) hx hb dX6_isSound_147 (by decide) ?_
        exact k_iret hx hb hr hlocks ⟨hK, hP, hD, hS, hA, hE, hN⟩ rfl dX6_isSound_148 (Nat.le_of_ble_eq_true rfl) (Nat.le_of_ble_eq_true rfl) ⟨(by simp only [sp_X6_isSound, if_neg c_0, if_pos c_50, if_pos c_53]), (gp (4 * k)), (gp ((4 * k) + 1)), (gp ((4 * k) + 2)), (gp ((4 * k) + 3)), rfl⟩
      · skip
        refine lv_iconst (v := 1) hx hb dX6_isSound_36 (by decide) ?_
        refine lv_goto (tgt := 41) hx hb dX6_isSound_37 (by decide) ?_
        refine lv_istore_n (lv' := [(2, .int 1), (0, .ref hO), (1, .int (nI k))]) hx hb dX6_isSound_41 rfl hl (by decide) rfl (fun ls hl => ?_)
        refine lv_iload_n hx hb dX6_isSound_42 rfl (lv_at hl 0 rfl) ?_
        refine lv_if_eq (tgt := 107) hx hb dX6_isSound_43 (by decide) (fun c_56 => absurd c_56 (by decide)) (fun _ => ?_)
        refine lv_aload_n hx hb dX6_isSound_46 rfl (lv_at hl 1 rfl) ?_
        refine va_get (D := g.1) (ci := 4) (v := .int (gp (4 * k))) (C := RX6) (T := TX6) (N := 17) hx hb hts iX6 hown hK hP 0 rfl rfl 13 (by decide) (hts (.fieldLink RX6 53 "FaultIsolationModel" "word" "I") (by decide +kernel)) (fun _ h9 => h9) rfl dX6_isSound_47 ?_
        refine kiS (As := [.int (gp (4 * k))]) (rest := []) (wc := []) (wr := [(hO, .inr (4, [.int xT, .int xB, .int (nI n), .ref qP, .int xP, .ref qN, .int xS, .ref qY, .ref qD, .int xA, .ref qR, .ref qM, .ref qT, .int (gp (4 * k)), .int (gp ((4 * k) + 1)), .int (gp ((4 * k) + 2)), .int (gp ((4 * k) + 3))])), (qP, .inl (g.2.1.1, 240, .inl gp))]) ⟨hx, hb, hml, hown, hts⟩ (c_X6_hasA l g (gp (4 * k))) (va_cwS 1 hts gX6_isSound_X6_hasA rfl rfl rfl (by decide +kernel) ⟨Nat.le_of_ble_eq_true rfl, Nat.le_of_ble_eq_true rfl⟩) ⟨hK, hP, hD, hS, hA, hE, hN⟩ [] [0, 1] ⟨rfl, rfl, by decide⟩ rfl hl.1 (Nat.le_of_ble_eq_true rfl) dX6_isSound_50 ⟨Nat.le_of_ble_eq_true rfl, Nat.le_of_ble_eq_true rfl⟩ rfl (fun r u H locs hw hP hD hS => ?_)
        obtain ⟨hq, hw⟩ := hw
        subst r
        subst hw
        have hP := hP.sub (ws' := [(hO, .inr (4, [.int xT, .int xB, .int (nI n), .ref qP, .int xP, .ref qN, .int xS, .ref qY, .ref qD, .int xA, .ref qR, .ref qM, .ref qT, .int (gp (4 * k)), .int (gp ((4 * k) + 1)), .int (gp ((4 * k) + 2)), .int (gp ((4 * k) + 3))])), (qP, .inl (g.2.1.1, 240, .inl gp))]) [0, 1] rfl
        have hD := hD.sub (ws' := [(hO, .inr (4, [.int xT, .int xB, .int (nI n), .ref qP, .int xP, .ref qN, .int xS, .ref qY, .ref qD, .int xA, .ref qR, .ref qM, .ref qT, .int (gp (4 * k)), .int (gp ((4 * k) + 1)), .int (gp ((4 * k) + 2)), .int (gp ((4 * k) + 3))])), (qP, .inl (g.2.1.1, 240, .inl gp))]) [0, 1] (by decide) rfl
        refine lv_if_eq (tgt := 65) hx hb dX6_isSound_53 (by decide) (fun c_57 => ?_) (fun c_57 => ?_)
        · skip
          refine lv_aload_n hx hb dX6_isSound_65 rfl (lv_at hl 1 rfl) ?_
          refine va_get (D := g.1) (ci := 4) (v := .int (gp (4 * k))) (C := RX6) (T := TX6) (N := 17) hx hb hts iX6 hown hK hP 0 rfl rfl 13 (by decide) (hts (.fieldLink RX6 53 "FaultIsolationModel" "word" "I") (by decide +kernel)) (fun _ h9 => h9) rfl dX6_isSound_66 ?_
          refine kiS (As := [.int (gp (4 * k))]) (rest := []) (wc := []) (wr := [(hO, .inr (4, [.int xT, .int xB, .int (nI n), .ref qP, .int xP, .ref qN, .int xS, .ref qY, .ref qD, .int xA, .ref qR, .ref qM, .ref qT, .int (gp (4 * k)), .int (gp ((4 * k) + 1)), .int (gp ((4 * k) + 2)), .int (gp ((4 * k) + 3))])), (qP, .inl (g.2.1.1, 240, .inl gp))]) ⟨hx, hb, hml, hown, hts⟩ (c_X6_hasB l g (gp (4 * k))) (va_cwS 1 hts gX6_isSound_X6_hasB rfl rfl rfl (by decide +kernel) ⟨Nat.le_of_ble_eq_true rfl, Nat.le_of_ble_eq_true rfl⟩) ⟨hK, hP, hD, hS, hA, hE, hN⟩ [] [0, 1] ⟨rfl, rfl, by decide⟩ rfl hl.1 (Nat.le_of_ble_eq_true rfl) dX6_isSound_69 ⟨Nat.le_of_ble_eq_true rfl, Nat.le_of_ble_eq_true rfl⟩ rfl (fun r u H locs hw hP hD hS => ?_)
          obtain ⟨hq, hw⟩ := hw
          subst r
          subst hw
          have hP := hP.sub (ws' := [(hO, .inr (4, [.int xT, .int xB, .int (nI n), .ref qP, .int xP, .ref qN, .int xS, .ref qY, .ref qD, .int xA, .ref qR, .ref qM, .ref qT, .int (gp (4 * k)), .int (gp ((4 * k) + 1)), .int (gp ((4 * k) + 2)), .int (gp ((4 * k) + 3))])), (qP, .inl (g.2.1.1, 240, .inl gp))]) [0, 1] rfl
          have hD := hD.sub (ws' := [(hO, .inr (4, [.int xT, .int xB, .int (nI n), .ref qP, .int xP, .ref qN, .int xS, .ref qY, .ref qD, .int xA, .ref qR, .ref qM, .ref qT, .int (gp (4 * k)), .int (gp ((4 * k) + 1)), .int (gp ((4 * k) + 2)), .int (gp ((4 * k) + 3))])), (qP, .inl (g.2.1.1, 240, .inl gp))]) [0, 1] (by decide) rfl
          refine lv_if_eq (tgt := 84) hx hb dX6_isSound_72 (by decide) (fun c_58 => ?_) (fun c_58 => ?_)
          · skip
            refine lv_aload_n hx hb dX6_isSound_84 rfl (lv_at hl 1 rfl) ?_
            refine va_get (D := g.1) (ci := 4) (v := .int (gp (4 * k))) (C := RX6) (T := TX6) (N := 17) hx hb hts iX6 hown hK hP 0 rfl rfl 13 (by decide) (hts (.fieldLink RX6 53 "FaultIsolationModel" "word" "I") (by decide +kernel)) (fun _ h9 => h9) rfl dX6_isSound_85 ?_
            refine kiS (As := [.int (gp (4 * k))]) (rest := []) (wc := []) (wr := [(hO, .inr (4, [.int xT, .int xB, .int (nI n), .ref qP, .int xP, .ref qN, .int xS, .ref qY, .ref qD, .int xA, .ref qR, .ref qM, .ref qT, .int (gp (4 * k)), .int (gp ((4 * k) + 1)), .int (gp ((4 * k) + 2)), .int (gp ((4 * k) + 3))])), (qP, .inl (g.2.1.1, 240, .inl gp))]) ⟨hx, hb, hml, hown, hts⟩ (c_X6_hasC l g (gp (4 * k))) (va_cwS 1 hts gX6_isSound_X6_hasC rfl rfl rfl (by decide +kernel) ⟨Nat.le_of_ble_eq_true rfl, Nat.le_of_ble_eq_true rfl⟩) ⟨hK, hP, hD, hS, hA, hE, hN⟩ [] [0, 1] ⟨rfl, rfl, by decide⟩ rfl hl.1 (Nat.le_of_ble_eq_true rfl) dX6_isSound_88 ⟨Nat.le_of_ble_eq_true rfl, Nat.le_of_ble_eq_true rfl⟩ rfl (fun r u H locs hw hP hD hS => ?_)
            obtain ⟨hq, hw⟩ := hw
            subst r
            subst hw
            have hP := hP.sub (ws' := [(hO, .inr (4, [.int xT, .int xB, .int (nI n), .ref qP, .int xP, .ref qN, .int xS, .ref qY, .ref qD, .int xA, .ref qR, .ref qM, .ref qT, .int (gp (4 * k)), .int (gp ((4 * k) + 1)), .int (gp ((4 * k) + 2)), .int (gp ((4 * k) + 3))])), (qP, .inl (g.2.1.1, 240, .inl gp))]) [0, 1] rfl
            have hD := hD.sub (ws' := [(hO, .inr (4, [.int xT, .int xB, .int (nI n), .ref qP, .int xP, .ref qN, .int xS, .ref qY, .ref qD, .int xA, .ref qR, .ref qM, .ref qT, .int (gp (4 * k)), .int (gp ((4 * k) + 1)), .int (gp ((4 * k) + 2)), .int (gp ((4 * k) + 3))])), (qP, .inl (g.2.1.1, 240, .inl gp))]) [0, 1] (by decide) rfl
            refine lv_if_eq (tgt := 103) hx hb dX6_isSound_91 (by decide) (fun c_59 => ?_) (fun c_59 => ?_)
            · skip
              refine lv_iconst (v := 1) hx hb dX6_isSound_103 (by decide) ?_
              refine lv_goto (tgt := 108) hx hb dX6_isSound_104 (by decide) ?_
              refine lv_istore_n (lv' := [(2, .int 1), (0, .ref hO), (1, .int (nI k))]) hx hb dX6_isSound_108 rfl hl (by decide) rfl (fun ls hl => ?_)
              refine lv_iload_n hx hb dX6_isSound_109 rfl (lv_at hl 0 rfl) ?_
              refine lv_if_eq (tgt := 147) hx hb dX6_isSound_110 (by decide) (fun c_60 => absurd c_60 (by decide)) (fun _ => ?_)
              refine lv_aload_n hx hb dX6_isSound_113 rfl (lv_at hl 1 rfl) ?_
              refine va_get (D := g.1) (ci := 4) (v := .int (gp (4 * k))) (C := RX6) (T := TX6) (N := 17) hx hb hts iX6 hown hK hP 0 rfl rfl 13 (by decide) (hts (.fieldLink RX6 53 "FaultIsolationModel" "word" "I") (by decide +kernel)) (fun _ h9 => h9) rfl dX6_isSound_114 ?_
              refine kiS (As := [.int (gp (4 * k))]) (rest := []) (wc := []) (wr := [(hO, .inr (4, [.int xT, .int xB, .int (nI n), .ref qP, .int xP, .ref qN, .int xS, .ref qY, .ref qD, .int xA, .ref qR, .ref qM, .ref qT, .int (gp (4 * k)), .int (gp ((4 * k) + 1)), .int (gp ((4 * k) + 2)), .int (gp ((4 * k) + 3))])), (qP, .inl (g.2.1.1, 240, .inl gp))]) ⟨hx, hb, hml, hown, hts⟩ (c_X6_isPlace l g (gp (4 * k))) (va_cwS 1 hts gX6_isSound_X6_isPlace rfl rfl rfl (by decide +kernel) ⟨Nat.le_of_ble_eq_true rfl, Nat.le_of_ble_eq_true rfl⟩) ⟨hK, hP, hD, hS, hA, hE, hN⟩ [] [0, 1] ⟨rfl, rfl, by decide⟩ rfl hl.1 (Nat.le_of_ble_eq_true rfl) dX6_isSound_117 ⟨Nat.le_of_ble_eq_true rfl, Nat.le_of_ble_eq_true rfl⟩ rfl (fun r u H locs hw hP hD hS => ?_)
              obtain ⟨hq, hw⟩ := hw
              subst r
              subst hw
              have hP := hP.sub (ws' := [(hO, .inr (4, [.int xT, .int xB, .int (nI n), .ref qP, .int xP, .ref qN, .int xS, .ref qY, .ref qD, .int xA, .ref qR, .ref qM, .ref qT, .int (gp (4 * k)), .int (gp ((4 * k) + 1)), .int (gp ((4 * k) + 2)), .int (gp ((4 * k) + 3))])), (qP, .inl (g.2.1.1, 240, .inl gp))]) [0, 1] rfl
              have hD := hD.sub (ws' := [(hO, .inr (4, [.int xT, .int xB, .int (nI n), .ref qP, .int xP, .ref qN, .int xS, .ref qY, .ref qD, .int xA, .ref qR, .ref qM, .ref qT, .int (gp (4 * k)), .int (gp ((4 * k) + 1)), .int (gp ((4 * k) + 2)), .int (gp ((4 * k) + 3))])), (qP, .inl (g.2.1.1, 240, .inl gp))]) [0, 1] (by decide) rfl
              refine lv_if_eq (tgt := 143) hx hb dX6_isSound_120 (by decide) (fun c_61 => ?_) (fun c_61 => ?_)
              · skip
                refine lv_iconst (v := 1) hx hb dX6_isSound_143 (by decide) ?_
                refine lv_goto (tgt := 148) hx hb dX6_isSound_144 (by decide) ?_
                exact k_iret hx hb hr hlocks ⟨hK, hP, hD, hS, hA, hE, hN⟩ rfl dX6_isSound_148 (Nat.le_of_ble_eq_true rfl) (Nat.le_of_ble_eq_true rfl) ⟨(by simp only [sp_X6_isSound, if_neg c_0, if_pos c_50, if_neg c_53, if_pos c_57, if_pos c_58, if_pos c_59, if_pos c_61]), (gp (4 * k)), (gp ((4 * k) + 1)), (gp ((4 * k) + 2)), (gp ((4 * k) + 3)), rfl⟩
              · skip
                refine lv_sipush (v := 256) hx hb dX6_isSound_123 (by decide) ?_
                refine lv_aload_n hx hb dX6_isSound_126 rfl (lv_at hl 1 rfl) ?_
                refine va_get (D := g.1) (ci := 4) (v := .int (gp ((4 * k) + 2))) (C := RX6) (T := TX6) (N := 17) hx hb hts iX6 hown hK hP 0 rfl rfl 15 (by decide) (hts (.fieldLink RX6 59 "FaultIsolationModel" "b" "I") (by decide +kernel)) (fun _ h9 => h9) rfl dX6_isSound_127 ?_
                refine lv_imul hx hb dX6_isSound_130 ?_
                refine lv_aload_n hx hb dX6_isSound_131 rfl (lv_at hl 1 rfl) ?_
                refine va_get (D := g.1) (ci := 4) (v := .int (gp ((4 * k) + 3))) (C := RX6) (T := TX6) (N := 17) hx hb hts iX6 hown hK hP 0 rfl rfl 16 (by decide) (hts (.fieldLink RX6 62 "FaultIsolationModel" "c" "I") (by decide +kernel)) (fun _ h9 => h9) rfl dX6_isSound_132 ?_
                refine lv_iadd hx hb dX6_isSound_135 ?_
                refine lv_aload_n hx hb dX6_isSound_136 rfl (lv_at hl 1 rfl) ?_
                refine va_get (D := g.1) (ci := 4) (v := .int (nI n)) (C := RX6) (T := TX6) (N := 17) hx hb hts iX6 hown hK hP 0 rfl rfl 2 (by decide) (hts (.fieldLink RX6 46 "FaultIsolationModel" "count" "I") (by decide +kernel)) (fun _ h9 => h9) rfl dX6_isSound_137 ?_
                refine lv_icmp_ge (tgt := 147) hx hb dX6_isSound_140 (by decide) (fun c_62 => ?_) (fun c_62 => ?_)
                · skip
                  refine lv_iconst (v := 0) hx hb dX6_isSound_147 (by decide) ?_
                  exact k_iret hx hb hr hlocks ⟨hK, hP, hD, hS, hA, hE, hN⟩ rfl dX6_isSound_148 (Nat.le_of_ble_eq_true rfl) (Nat.le_of_ble_eq_true rfl) ⟨(by simp only [sp_X6_isSound, if_neg c_0, if_pos c_50, if_neg c_53, if_pos c_57, if_pos c_58, if_pos c_59, if_neg c_61, if_pos c_62]), (gp (4 * k)), (gp ((4 * k) + 1)), (gp ((4 * k) + 2)), (gp ((4 * k) + 3)), rfl⟩
                · skip
                  refine lv_iconst (v := 1) hx hb dX6_isSound_143 (by decide) ?_
                  refine lv_goto (tgt := 148) hx hb dX6_isSound_144 (by decide) ?_
                  exact k_iret hx hb hr hlocks ⟨hK, hP, hD, hS, hA, hE, hN⟩ rfl dX6_isSound_148 (Nat.le_of_ble_eq_true rfl) (Nat.le_of_ble_eq_true rfl) ⟨(by simp only [sp_X6_isSound, if_neg c_0, if_pos c_50, if_neg c_53, if_pos c_57, if_pos c_58, if_pos c_59, if_neg c_61, if_neg c_62]), (gp (4 * k)), (gp ((4 * k) + 1)), (gp ((4 * k) + 2)), (gp ((4 * k) + 3)), rfl⟩
            · skip
              refine lv_aload_n hx hb dX6_isSound_94 rfl (lv_at hl 1 rfl) ?_
              refine va_get (D := g.1) (ci := 4) (v := .int (gp ((4 * k) + 3))) (C := RX6) (T := TX6) (N := 17) hx hb hts iX6 hown hK hP 0 rfl rfl 16 (by decide) (hts (.fieldLink RX6 62 "FaultIsolationModel" "c" "I") (by decide +kernel)) (fun _ h9 => h9) rfl dX6_isSound_95 ?_
              refine lv_bipush (v := 6) hx hb dX6_isSound_98 (by decide) ?_
              refine lv_icmp_eq (tgt := 107) hx hb dX6_isSound_100 (by decide) (fun c_63 => ?_) (fun c_63 => ?_)
              · skip
                refine lv_iconst (v := 0) hx hb dX6_isSound_107 (by decide) ?_
                refine lv_istore_n (lv' := [(2, .int 0), (0, .ref hO), (1, .int (nI k))]) hx hb dX6_isSound_108 rfl hl (by decide) rfl (fun ls hl => ?_)
                refine lv_iload_n hx hb dX6_isSound_109 rfl (lv_at hl 0 rfl) ?_
                refine lv_if_eq (tgt := 147) hx hb dX6_isSound_110 (by decide) (fun _ => ?_) (fun c_64 => absurd c_64 (by decide))
                refine lv_iconst (v := 0) hx hb dX6_isSound_147 (by decide) ?_
                exact k_iret hx hb hr hlocks ⟨hK, hP, hD, hS, hA, hE, hN⟩ rfl dX6_isSound_148 (Nat.le_of_ble_eq_true rfl) (Nat.le_of_ble_eq_true rfl) ⟨(by simp only [sp_X6_isSound, if_neg c_0, if_pos c_50, if_neg c_53, if_pos c_57, if_pos c_58, if_neg c_59, if_pos c_63]), (gp (4 * k)), (gp ((4 * k) + 1)), (gp ((4 * k) + 2)), (gp ((4 * k) + 3)), rfl⟩
              · skip
                refine lv_iconst (v := 1) hx hb dX6_isSound_103 (by decide) ?_
                refine lv_goto (tgt := 108) hx hb dX6_isSound_104 (by decide) ?_
                refine lv_istore_n (lv' := [(2, .int 1), (0, .ref hO), (1, .int (nI k))]) hx hb dX6_isSound_108 rfl hl (by decide) rfl (fun ls hl => ?_)
                refine lv_iload_n hx hb dX6_isSound_109 rfl (lv_at hl 0 rfl) ?_
                refine lv_if_eq (tgt := 147) hx hb dX6_isSound_110 (by decide) (fun c_65 => absurd c_65 (by decide)) (fun _ => ?_)
                refine lv_aload_n hx hb dX6_isSound_113 rfl (lv_at hl 1 rfl) ?_
                refine va_get (D := g.1) (ci := 4) (v := .int (gp (4 * k))) (C := RX6) (T := TX6) (N := 17) hx hb hts iX6 hown hK hP 0 rfl rfl 13 (by decide) (hts (.fieldLink RX6 53 "FaultIsolationModel" "word" "I") (by decide +kernel)) (fun _ h9 => h9) rfl dX6_isSound_114 ?_
                refine kiS (As := [.int (gp (4 * k))]) (rest := []) (wc := []) (wr := [(hO, .inr (4, [.int xT, .int xB, .int (nI n), .ref qP, .int xP, .ref qN, .int xS, .ref qY, .ref qD, .int xA, .ref qR, .ref qM, .ref qT, .int (gp (4 * k)), .int (gp ((4 * k) + 1)), .int (gp ((4 * k) + 2)), .int (gp ((4 * k) + 3))])), (qP, .inl (g.2.1.1, 240, .inl gp))]) ⟨hx, hb, hml, hown, hts⟩ (c_X6_isPlace l g (gp (4 * k))) (va_cwS 1 hts gX6_isSound_X6_isPlace rfl rfl rfl (by decide +kernel) ⟨Nat.le_of_ble_eq_true rfl, Nat.le_of_ble_eq_true rfl⟩) ⟨hK, hP, hD, hS, hA, hE, hN⟩ [] [0, 1] ⟨rfl, rfl, by decide⟩ rfl hl.1 (Nat.le_of_ble_eq_true rfl) dX6_isSound_117 ⟨Nat.le_of_ble_eq_true rfl, Nat.le_of_ble_eq_true rfl⟩ rfl (fun r u H locs hw hP hD hS => ?_)
                obtain ⟨hq, hw⟩ := hw
                subst r
                subst hw
                have hP := hP.sub (ws' := [(hO, .inr (4, [.int xT, .int xB, .int (nI n), .ref qP, .int xP, .ref qN, .int xS, .ref qY, .ref qD, .int xA, .ref qR, .ref qM, .ref qT, .int (gp (4 * k)), .int (gp ((4 * k) + 1)), .int (gp ((4 * k) + 2)), .int (gp ((4 * k) + 3))])), (qP, .inl (g.2.1.1, 240, .inl gp))]) [0, 1] rfl
                have hD := hD.sub (ws' := [(hO, .inr (4, [.int xT, .int xB, .int (nI n), .ref qP, .int xP, .ref qN, .int xS, .ref qY, .ref qD, .int xA, .ref qR, .ref qM, .ref qT, .int (gp (4 * k)), .int (gp ((4 * k) + 1)), .int (gp ((4 * k) + 2)), .int (gp ((4 * k) + 3))])), (qP, .inl (g.2.1.1, 240, .inl gp))]) [0, 1] (by decide) rfl
                refine lv_if_eq (tgt := 143) hx hb dX6_isSound_120 (by decide) (fun c_66 => ?_) (fun c_66 => ?_)
                · skip
                  refine lv_iconst (v := 1) hx hb dX6_isSound_143 (by decide) ?_
                  refine lv_goto (tgt := 148) hx hb dX6_isSound_144 (by decide) ?_
                  exact k_iret hx hb hr hlocks ⟨hK, hP, hD, hS, hA, hE, hN⟩ rfl dX6_isSound_148 (Nat.le_of_ble_eq_true rfl) (Nat.le_of_ble_eq_true rfl) ⟨(by simp only [sp_X6_isSound, if_neg c_0, if_pos c_50, if_neg c_53, if_pos c_57, if_pos c_58, if_neg c_59, if_neg c_63, if_pos c_66]), (gp (4 * k)), (gp ((4 * k) + 1)), (gp ((4 * k) + 2)), (gp ((4 * k) + 3)), rfl⟩
                · skip
                  refine lv_sipush (v := 256) hx hb dX6_isSound_123 (by decide) ?_
                  refine lv_aload_n hx hb dX6_isSound_126 rfl (lv_at hl 1 rfl) ?_
                  refine va_get (D := g.1) (ci := 4) (v := .int (gp ((4 * k) + 2))) (C := RX6) (T := TX6) (N := 17) hx hb hts iX6 hown hK hP 0 rfl rfl 15 (by decide) (hts (.fieldLink RX6 59 "FaultIsolationModel" "b" "I") (by decide +kernel)) (fun _ h9 => h9) rfl dX6_isSound_127 ?_
                  refine lv_imul hx hb dX6_isSound_130 ?_
                  refine lv_aload_n hx hb dX6_isSound_131 rfl (lv_at hl 1 rfl) ?_
                  refine va_get (D := g.1) (ci := 4) (v := .int (gp ((4 * k) + 3))) (C := RX6) (T := TX6) (N := 17) hx hb hts iX6 hown hK hP 0 rfl rfl 16 (by decide) (hts (.fieldLink RX6 62 "FaultIsolationModel" "c" "I") (by decide +kernel)) (fun _ h9 => h9) rfl dX6_isSound_132 ?_
                  refine lv_iadd hx hb dX6_isSound_135 ?_
                  refine lv_aload_n hx hb dX6_isSound_136 rfl (lv_at hl 1 rfl) ?_
                  refine va_get (D := g.1) (ci := 4) (v := .int (nI n)) (C := RX6) (T := TX6) (N := 17) hx hb hts iX6 hown hK hP 0 rfl rfl 2 (by decide) (hts (.fieldLink RX6 46 "FaultIsolationModel" "count" "I") (by decide +kernel)) (fun _ h9 => h9) rfl dX6_isSound_137 ?_
                  refine lv_icmp_ge (tgt := 147) hx hb dX6_isSound_140 (by decide) (fun c_67 => ?_) (fun c_67 => ?_)
                  · skip
                    refine lv_iconst (v := 0) hx hb dX6_isSound_147 (by decide) ?_
                    exact k_iret hx hb hr hlocks ⟨hK, hP, hD, hS, hA, hE, hN⟩ rfl dX6_isSound_148 (Nat.le_of_ble_eq_true rfl) (Nat.le_of_ble_eq_true rfl) ⟨(by simp only [sp_X6_isSound, if_neg c_0, if_pos c_50, if_neg c_53, if_pos c_57, if_pos c_58, if_neg c_59, if_neg c_63, if_neg c_66, if_pos c_67]), (gp (4 * k)), (gp ((4 * k) + 1)), (gp ((4 * k) + 2)), (gp ((4 * k) + 3)), rfl⟩
                  · skip
                    refine lv_iconst (v := 1) hx hb dX6_isSound_143 (by decide) ?_
                    refine lv_goto (tgt := 148) hx hb dX6_isSound_144 (by decide) ?_
                    exact k_iret hx hb hr hlocks ⟨hK, hP, hD, hS, hA, hE, hN⟩ rfl dX6_isSound_148 (Nat.le_of_ble_eq_true rfl) (Nat.le_of_ble_eq_true rfl) ⟨(by simp only [sp_X6_isSound, if_neg c_0, if_pos c_50, if_neg c_53, if_pos c_57, if_pos c_58, if_neg c_59, if_neg c_63, if_neg c_66, if_neg c_67]), (gp (4 * k)), (gp ((4 * k) + 1)), (gp ((4 * k) + 2)), (gp ((4 * k) + 3)), rfl⟩
          · skip
            refine lv_aload_n hx hb dX6_isSound_75 rfl (lv_at hl 1 rfl) ?_
            refine va_get (D := g.1) (ci := 4) (v := .int (gp ((4 * k) + 2))) (C := RX6) (T := TX6) (N := 17) hx hb hts iX6 hown hK hP 0 rfl rfl 15 (by decide) (hts (.fieldLink RX6 59 "FaultIsolationModel" "b" "I") (by decide +kernel)) (fun _ h9 => h9) rfl dX6_isSound_76 ?_
            refine lv_bipush (v := 6) hx hb dX6_isSound_79 (by decide) ?_
            refine lv_icmp_eq (tgt := 107) hx hb dX6_isSound_81 (by decide) (fun c_68 => ?_) (fun c_68 => ?_)
            · skip
              refine lv_iconst (v := 0) hx hb dX6_isSound_107 (by decide) ?_
              refine lv_istore_n (lv' := [(2, .int 0), (0, .ref hO), (1, .int (nI k))]) hx hb dX6_isSound_108 rfl hl (by decide) rfl (fun ls hl => ?_)
              refine lv_iload_n hx hb dX6_isSound_109 rfl (lv_at hl 0 rfl) ?_
              refine lv_if_eq (tgt := 147) hx hb dX6_isSound_110 (by decide) (fun _ => ?_) (fun c_69 => absurd c_69 (by decide))
              refine lv_iconst (v := 0) hx hb dX6_isSound_147 (by decide) ?_
              exact k_iret hx hb hr hlocks ⟨hK, hP, hD, hS, hA, hE, hN⟩ rfl dX6_isSound_148 (Nat.le_of_ble_eq_true rfl) (Nat.le_of_ble_eq_true rfl) ⟨(by simp only [sp_X6_isSound, if_neg c_0, if_pos c_50, if_neg c_53, if_pos c_57, if_neg c_58, if_pos c_68]), (gp (4 * k)), (gp ((4 * k) + 1)), (gp ((4 * k) + 2)), (gp ((4 * k) + 3)), rfl⟩
            · skip
              refine lv_aload_n hx hb dX6_isSound_84 rfl (lv_at hl 1 rfl) ?_
              refine va_get (D := g.1) (ci := 4) (v := .int (gp (4 * k))) (C := RX6) (T := TX6) (N := 17) hx hb hts iX6 hown hK hP 0 rfl rfl 13 (by decide) (hts (.fieldLink RX6 53 "FaultIsolationModel" "word" "I") (by decide +kernel)) (fun _ h9 => h9) rfl dX6_isSound_85 ?_
              refine kiS (As := [.int (gp (4 * k))]) (rest := []) (wc := []) (wr := [(hO, .inr (4, [.int xT, .int xB, .int (nI n), .ref qP, .int xP, .ref qN, .int xS, .ref qY, .ref qD, .int xA, .ref qR, .ref qM, .ref qT, .int (gp (4 * k)), .int (gp ((4 * k) + 1)), .int (gp ((4 * k) + 2)), .int (gp ((4 * k) + 3))])), (qP, .inl (g.2.1.1, 240, .inl gp))]) ⟨hx, hb, hml, hown, hts⟩ (c_X6_hasC l g (gp (4 * k))) (va_cwS 1 hts gX6_isSound_X6_hasC rfl rfl rfl (by decide +kernel) ⟨Nat.le_of_ble_eq_true rfl, Nat.le_of_ble_eq_true rfl⟩) ⟨hK, hP, hD, hS, hA, hE, hN⟩ [] [0, 1] ⟨rfl, rfl, by decide⟩ rfl hl.1 (Nat.le_of_ble_eq_true rfl) dX6_isSound_88 ⟨Nat.le_of_ble_eq_true rfl, Nat.le_of_ble_eq_true rfl⟩ rfl (fun r u H locs hw hP hD hS => ?_)
              obtain ⟨hq, hw⟩ := hw
              subst r
              subst hw
              have hP := hP.sub (ws' := [(hO, .inr (4, [.int xT, .int xB, .int (nI n), .ref qP, .int xP, .ref qN, .int xS, .ref qY, .ref qD, .int xA, .ref qR, .ref qM, .ref qT, .int (gp (4 * k)), .int (gp ((4 * k) + 1)), .int (gp ((4 * k) + 2)), .int (gp ((4 * k) + 3))])), (qP, .inl (g.2.1.1, 240, .inl gp))]) [0, 1] rfl
              have hD := hD.sub (ws' := [(hO, .inr (4, [.int xT, .int xB, .int (nI n), .ref qP, .int xP, .ref qN, .int xS, .ref qY, .ref qD, .int xA, .ref qR, .ref qM, .ref qT, .int (gp (4 * k)), .int (gp ((4 * k) + 1)), .int (gp ((4 * k) + 2)), .int (gp ((4 * k) + 3))])), (qP, .inl (g.2.1.1, 240, .inl gp))]) [0, 1] (by decide) rfl
              refine lv_if_eq (tgt := 103) hx hb dX6_isSound_91 (by decide) (fun c_70 => ?_) (fun c_70 => ?_)
              · skip
                refine lv_iconst (v := 1) hx hb dX6_isSound_103 (by decide) ?_
                refine lv_goto (tgt := 108) hx hb dX6_isSound_104 (by decide) ?_
                refine lv_istore_n (lv' := [(2, .int 1), (0, .ref hO), (1, .int (nI k))]) hx hb dX6_isSound_108 rfl hl (by decide) rfl (fun ls hl => ?_)
                refine lv_iload_n hx hb dX6_isSound_109 rfl (lv_at hl 0 rfl) ?_
                refine lv_if_eq (tgt := 147) hx hb dX6_isSound_110 (by decide) (fun c_71 => absurd c_71 (by decide)) (fun _ => ?_)
                refine lv_aload_n hx hb dX6_isSound_113 rfl (lv_at hl 1 rfl) ?_
                refine va_get (D := g.1) (ci := 4) (v := .int (gp (4 * k))) (C := RX6) (T := TX6) (N := 17) hx hb hts iX6 hown hK hP 0 rfl rfl 13 (by decide) (hts (.fieldLink RX6 53 "FaultIsolationModel" "word" "I") (by decide +kernel)) (fun _ h9 => h9) rfl dX6_isSound_114 ?_
                refine kiS (As := [.int (gp (4 * k))]) (rest := []) (wc := []) (wr := [(hO, .inr (4, [.int xT, .int xB, .int (nI n), .ref qP, .int xP, .ref qN, .int xS, .ref qY, .ref qD, .int xA, .ref qR, .ref qM, .ref qT, .int (gp (4 * k)), .int (gp ((4 * k) + 1)), .int (gp ((4 * k) + 2)), .int (gp ((4 * k) + 3))])), (qP, .inl (g.2.1.1, 240, .inl gp))]) ⟨hx, hb, hml, hown, hts⟩ (c_X6_isPlace l g (gp (4 * k))) (va_cwS 1 hts gX6_isSound_X6_isPlace rfl rfl rfl (by decide +kernel) ⟨Nat.le_of_ble_eq_true rfl, Nat.le_of_ble_eq_true rfl⟩) ⟨hK, hP, hD, hS, hA, hE, hN⟩ [] [0, 1] ⟨rfl, rfl, by decide⟩ rfl hl.1 (Nat.le_of_ble_eq_true rfl) dX6_isSound_117 ⟨Nat.le_of_ble_eq_true rfl, Nat.le_of_ble_eq_true rfl⟩ rfl (fun r u H locs hw hP hD hS => ?_)
                obtain ⟨hq, hw⟩ := hw
                subst r
                subst hw
                have hP := hP.sub (ws' := [(hO, .inr (4, [.int xT, .int xB, .int (nI n), .ref qP, .int xP, .ref qN, .int xS, .ref qY, .ref qD, .int xA, .ref qR, .ref qM, .ref qT, .int (gp (4 * k)), .int (gp ((4 * k) + 1)), .int (gp ((4 * k) + 2)), .int (gp ((4 * k) + 3))])), (qP, .inl (g.2.1.1, 240, .inl gp))]) [0, 1] rfl
                have hD := hD.sub (ws' := [(hO, .inr (4, [.int xT, .int xB, .int (nI n), .ref qP, .int xP, .ref qN, .int xS, .ref qY, .ref qD, .int xA, .ref qR, .ref qM, .ref qT, .int (gp (4 * k)), .int (gp ((4 * k) + 1)), .int (gp ((4 * k) + 2)), .int (gp ((4 * k) + 3))])), (qP, .inl (g.2.1.1, 240, .inl gp))]) [0, 1] (by decide) rfl
                refine lv_if_eq (tgt := 143) hx hb dX6_isSound_120 (by decide) (fun c_72 => ?_) (fun c_72 => ?_)
                · skip
                  refine lv_iconst (v := 1) hx hb dX6_isSound_143 (by decide) ?_
                  refine lv_goto (tgt := 148) hx hb dX6_isSound_144 (by decide) ?_
                  exact k_iret hx hb hr hlocks ⟨hK, hP, hD, hS, hA, hE, hN⟩ rfl dX6_isSound_148 (Nat.le_of_ble_eq_true rfl) (Nat.le_of_ble_eq_true rfl) ⟨(by simp only [sp_X6_isSound, if_neg c_0, if_pos c_50, if_neg c_53, if_pos c_57, if_neg c_58, if_neg c_68, if_pos c_70, if_pos c_72]), (gp (4 * k)), (gp ((4 * k) + 1)), (gp ((4 * k) + 2)), (gp ((4 * k) + 3)), rfl⟩
                · skip
                  refine lv_sipush (v := 256) hx hb dX6_isSound_123 (by decide) ?_
                  refine lv_aload_n hx hb dX6_isSound_126 rfl (lv_at hl 1 rfl) ?_
                  refine va_get (D := g.1) (ci := 4) (v := .int (gp ((4 * k) + 2))) (C := RX6) (T := TX6) (N := 17) hx hb hts iX6 hown hK hP 0 rfl rfl 15 (by decide) (hts (.fieldLink RX6 59 "FaultIsolationModel" "b" "I") (by decide +kernel)) (fun _ h9 => h9) rfl dX6_isSound_127 ?_
                  refine lv_imul hx hb dX6_isSound_130 ?_
                  refine lv_aload_n hx hb dX6_isSound_131 rfl (lv_at hl 1 rfl) ?_
                  refine va_get (D := g.1) (ci := 4) (v := .int (gp ((4 * k) + 3))) (C := RX6) (T := TX6) (N := 17) hx hb hts iX6 hown hK hP 0 rfl rfl 16 (by decide) (hts (.fieldLink RX6 62 "FaultIsolationModel" "c" "I") (by decide +kernel)) (fun _ h9 => h9) rfl dX6_isSound_132 ?_
                  refine lv_iadd hx hb dX6_isSound_135 ?_
                  refine lv_aload_n hx hb dX6_isSound_136 rfl (lv_at hl 1 rfl) ?_
                  refine va_get (D := g.1) (ci := 4) (v := .int (nI n)) (C := RX6) (T := TX6) (N := 17) hx hb hts iX6 hown hK hP 0 rfl rfl 2 (by decide) (hts (.fieldLink RX6 46 "FaultIsolationModel" "count" "I") (by decide +kernel)) (fun _ h9 => h9) rfl dX6_isSound_137 ?_
                  refine lv_icmp_ge (tgt := 147) hx hb dX6_isSound_140 (by decide) (fun c_73 => ?_) (fun c_73 => ?_)
                  · skip
                    refine lv_iconst (v := 0) hx hb dX6_isSound_147 (by decide) ?_
                    exact k_iret hx hb hr hlocks ⟨hK, hP, hD, hS, hA, hE, hN⟩ rfl dX6_isSound_148 (Nat.le_of_ble_eq_true rfl) (Nat.le_of_ble_eq_true rfl) ⟨(by simp only [sp_X6_isSound, if_neg c_0, if_pos c_50, if_neg c_53, if_pos c_57, if_neg c_58, if_neg c_68, if_pos c_70, if_neg c_72, if_pos c_73]), (gp (4 * k)), (gp ((4 * k) + 1)), (gp ((4 * k) + 2)), (gp ((4 * k) + 3)), rfl⟩
                  · skip
                    refine lv_iconst (v := 1) hx hb dX6_isSound_143 (by decide) ?_
                    refine lv_goto (tgt := 148) hx hb dX6_isSound_144 (by decide) ?_
                    exact k_iret hx hb hr hlocks ⟨hK, hP, hD, hS, hA, hE, hN⟩ rfl dX6_isSound_148 (Nat.le_of_ble_eq_true rfl) (Nat.le_of_ble_eq_true rfl) ⟨(by simp only [sp_X6_isSound, if_neg c_0, if_pos c_50, if_neg c_53, if_pos c_57, if_neg c_58, if_neg c_68, if_pos c_70, if_neg c_72, if_neg c_73]), (gp (4 * k)), (gp ((4 * k) + 1)), (gp ((4 * k) + 2)), (gp ((4 * k) + 3)), rfl⟩
              · skip
                refine lv_aload_n hx hb dX6_isSound_94 rfl (lv_at hl 1 rfl) ?_
                refine va_get (D := g.1) (ci := 4) (v := .int (gp ((4 * k) + 3))) (C := RX6) (T := TX6) (N := 17) hx hb hts iX6 hown hK hP 0 rfl rfl 16 (by decide) (hts (.fieldLink RX6 62 "FaultIsolationModel" "c" "I") (by decide +kernel)) (fun _ h9 => h9) rfl dX6_isSound_95 ?_
                refine lv_bipush (v := 6) hx hb dX6_isSound_98 (by decide) ?_
                refine lv_icmp_eq (tgt := 107) hx hb dX6_isSound_100 (by decide) (fun c_74 => ?_) (fun c_74 => ?_)
                · skip
                  refine lv_iconst (v := 0) hx hb dX6_isSound_107 (by decide) ?_
                  refine lv_istore_n (lv' := [(2, .int 0), (0, .ref hO), (1, .int (nI k))]) hx hb dX6_isSound_108 rfl hl (by decide) rfl (fun ls hl => ?_)
                  refine lv_iload_n hx hb dX6_isSound_109 rfl (lv_at hl 0 rfl) ?_
                  refine lv_if_eq (tgt := 147) hx hb dX6_isSound_110 (by decide) (fun _ => ?_) (fun c_75 => absurd c_75 (by decide))
                  refine lv_iconst (v := 0) hx hb dX6_isSound_147 (by decide) ?_
                  exact k_iret hx hb hr hlocks ⟨hK, hP, hD, hS, hA, hE, hN⟩ rfl dX6_isSound_148 (Nat.le_of_ble_eq_true rfl) (Nat.le_of_ble_eq_true rfl) ⟨(by simp only [sp_X6_isSound, if_neg c_0, if_pos c_50, if_neg c_53, if_pos c_57, if_neg c_58, if_neg c_68, if_neg c_70, if_pos c_74]), (gp (4 * k)), (gp ((4 * k) + 1)), (gp ((4 * k) + 2)), (gp ((4 * k) + 3)), rfl⟩
                · skip
                  refine lv_iconst (v := 1) hx hb dX6_isSound_103 (by decide) ?_
                  refine lv_goto (tgt := 108) hx hb dX6_isSound_104 (by decide) ?_
                  refine lv_istore_n (lv' := [(2, .int 1), (0, .ref hO), (1, .int (nI k))]) hx hb dX6_isSound_108 rfl hl (by decide) rfl (fun ls hl => ?_)
                  refine lv_iload_n hx hb dX6_isSound_109 rfl (lv_at hl 0 rfl) ?_
                  refine lv_if_eq (tgt := 147) hx hb dX6_isSound_110 (by decide) (fun c_76 => absurd c_76 (by decide)) (fun _ => ?_)
                  refine lv_aload_n hx hb dX6_isSound_113 rfl (lv_at hl 1 rfl) ?_
                  refine va_get (D := g.1) (ci := 4) (v := .int (gp (4 * k))) (C := RX6) (T := TX6) (N := 17) hx hb hts iX6 hown hK hP 0 rfl rfl 13 (by decide) (hts (.fieldLink RX6 53 "FaultIsolationModel" "word" "I") (by decide +kernel)) (fun _ h9 => h9) rfl dX6_isSound_114 ?_
                  refine kiS (As := [.int (gp (4 * k))]) (rest := []) (wc := []) (wr := [(hO, .inr (4, [.int xT, .int xB, .int (nI n), .ref qP, .int xP, .ref qN, .int xS, .ref qY, .ref qD, .int xA, .ref qR, .ref qM, .ref qT, .int (gp (4 * k)), .int (gp ((4 * k) + 1)), .int (gp ((4 * k) + 2)), .int (gp ((4 * k) + 3))])), (qP, .inl (g.2.1.1, 240, .inl gp))]) ⟨hx, hb, hml, hown, hts⟩ (c_X6_isPlace l g (gp (4 * k))) (va_cwS 1 hts gX6_isSound_X6_isPlace rfl rfl rfl (by decide +kernel) ⟨Nat.le_of_ble_eq_true rfl, Nat.le_of_ble_eq_true rfl⟩) ⟨hK, hP, hD, hS, hA, hE, hN⟩ [] [0, 1] ⟨rfl, rfl, by decide⟩ rfl hl.1 (Nat.le_of_ble_eq_true rfl) dX6_isSound_117 ⟨Nat.le_of_ble_eq_true rfl, Nat.le_of_ble_eq_true rfl⟩ rfl (fun r u H locs hw hP hD hS => ?_)
                  obtain ⟨hq, hw⟩ := hw
                  subst r
                  subst hw
                  have hP := hP.sub (ws' := [(hO, .inr (4, [.int xT, .int xB, .int (nI n), .ref qP, .int xP, .ref qN, .int xS, .ref qY, .ref qD, .int xA, .ref qR, .ref qM, .ref qT, .int (gp (4 * k)), .int (gp ((4 * k) + 1)), .int (gp ((4 * k) + 2)), .int (gp ((4 * k) + 3))])), (qP, .inl (g.2.1.1, 240, .inl gp))]) [0, 1] rfl
                  have hD := hD.sub (ws' := [(hO, .inr (4, [.int xT, .int xB, .int (nI n), .ref qP, .int xP, .ref qN, .int xS, .ref qY, .ref qD, .int xA, .ref qR, .ref qM, .ref qT, .int (gp (4 * k)), .int (gp ((4 * k) + 1)), .int (gp ((4 * k) + 2)), .int (gp ((4 * k) + 3))])), (qP, .inl (g.2.1.1, 240, .inl gp))]) [0, 1] (by decide) rfl
                  refine lv_if_eq (tgt := 143) hx hb dX6_isSound_120 (by decide) (fun c_77 => ?_) (fun c_77 => ?_)
                  · skip
                    refine lv_iconst (v := 1) hx hb dX6_isSound_143 (by decide) ?_
                    refine lv_goto (tgt := 148) hx hb dX6_isSound_144 (by decide) ?_
                    exact k_iret hx hb hr hlocks ⟨hK, hP, hD, hS, hA, hE, hN⟩ rfl dX6_isSound_148 (Nat.le_of_ble_eq_true rfl) (Nat.le_of_ble_eq_true rfl) ⟨(by simp only [sp_X6_isSound, if_neg c_0, if_pos c_50, if_neg c_53, if_pos c_57, if_neg c_58, if_neg c_68, if_neg c_70, if_neg c_74, if_pos c_77]), (gp (4 * k)), (gp ((4 * k) + 1)), (gp ((4 * k) + 2)), (gp ((4 * k) + 3)), rfl⟩
                  · skip
                    refine lv_sipush (v := 256) hx hb dX6_isSound_123 (by decide) ?_
                    refine lv_aload_n hx hb dX6_isSound_126 rfl (lv_at hl 1 rfl) ?_
                    refine va_get (D := g.1) (ci := 4) (v := .int (gp ((4 * k) + 2))) (C := RX6) (T := TX6) (N := 17) hx hb hts iX6 hown hK hP 0 rfl rfl 15 (by decide) (hts (.fieldLink RX6 59 "FaultIsolationModel" "b" "I") (by decide +kernel)) (fun _ h9 => h9) rfl dX6_isSound_127 ?_
                    refine lv_imul hx hb dX6_isSound_130 ?_
                    refine lv_aload_n hx hb dX6_isSound_131 rfl (lv_at hl 1 rfl) ?_
                    refine va_get (D := g.1) (ci := 4) (v := .int (gp ((4 * k) + 3))) (C := RX6) (T := TX6) (N := 17) hx hb hts iX6 hown hK hP 0 rfl rfl 16 (by decide) (hts (.fieldLink RX6 62 "FaultIsolationModel" "c" "I") (by decide +kernel)) (fun _ h9 => h9) rfl dX6_isSound_132 ?_
                    refine lv_iadd hx hb dX6_isSound_135 ?_
                    refine lv_aload_n hx hb dX6_isSound_136 rfl (lv_at hl 1 rfl) ?_
                    refine va_get (D := g.1) (ci := 4) (v := .int (nI n)) (C := RX6) (T := TX6) (N := 17) hx hb hts iX6 hown hK hP 0 rfl rfl 2 (by decide) (hts (.fieldLink RX6 46 "FaultIsolationModel" "count" "I") (by decide +kernel)) (fun _ h9 => h9) rfl dX6_isSound_137 ?_
                    refine lv_icmp_ge (tgt := 147) hx hb dX6_isSound_140 (by decide) (fun c_78 => ?_) (fun c_78 => ?_)
                    · skip
                      refine lv_iconst (v := 0) hx hb dX6_isSound_147 (by decide) ?_
                      exact k_iret hx hb hr hlocks ⟨hK, hP, hD, hS, hA, hE, hN⟩ rfl dX6_isSound_148 (Nat.le_of_ble_eq_true rfl) (Nat.le_of_ble_eq_true rfl) ⟨(by simp only [sp_X6_isSound, if_neg c_0, if_pos c_50, if_neg c_53, if_pos c_57, if_neg c_58, if_neg c_68, if_neg c_70, if_neg c_74, if_neg c_77, if_pos c_78]), (gp (4 * k)), (gp ((4 * k) + 1)), (gp ((4 * k) + 2)), (gp ((4 * k) + 3)), rfl⟩
                    · skip
                      refine lv_iconst (v := 1) hx hb dX6_isSound_143 (by decide) ?_
                      refine lv_goto (tgt := 148) hx hb dX6_isSound_144 (by decide) ?_
                      exact k_iret hx hb hr hlocks ⟨hK, hP, hD, hS, hA, hE, hN⟩ rfl dX6_isSound_148 (Nat.le_of_ble_eq_true rfl) (Nat.le_of_ble_eq_true rfl) ⟨(by simp only [sp_X6_isSound, if_neg c_0, if_pos c_50, if_neg c_53, if_pos c_57, if_neg c_58, if_neg c_68, if_neg c_70, if_neg c_74, if_neg c_77, if_neg c_78]), (gp (4 * k)), (gp ((4 * k) + 1)), (gp ((4 * k) + 2)), (gp ((4 * k) + 3)), rfl⟩
        · skip
          refine lv_aload_n hx hb dX6_isSound_56 rfl (lv_at hl 1 rfl) ?_
          refine va_get (D := g.1) (ci := 4) (v := .int (gp ((4 * k) + 1))) (C := RX6) (T := TX6) (N := 17) hx hb hts iX6 hown hK hP 0 rfl rfl 14 (by decide) (hts (.fieldLink RX6 56 "FaultIsolationModel" "a" "I") (by decide +kernel)) (fun _ h9 => h9) rfl dX6_isSound_57 ?_
          refine lv_bipush (v := 6) hx hb dX6_isSound_60 (by decide) ?_
          refine lv_icmp_eq (tgt := 107) hx hb dX6_isSound_62 (by decide) (fun c_79 => ?_) (fun c_79 => ?_)
          · skip
            refine lv_iconst (v := 0) hx hb dX6_isSound_107 (by decide) ?_
            refine lv_istore_n (lv' := [(2, .int 0), (0, .ref hO), (1, .int (nI k))]) hx hb dX6_isSound_108 rfl hl (by decide) rfl (fun ls hl => ?_)
            refine lv_iload_n hx hb dX6_isSound_109 rfl (lv_at hl 0 rfl) ?_
            refine lv_if_eq (tgt := 147) hx hb dX6_isSound_110 (by decide) (fun _ => ?_) (fun c_80 => absurd c_80 (by decide))
            refine lv_iconst (v := 0) hx hb dX6_isSound_147 (by decide) ?_
            exact k_iret hx hb hr hlocks ⟨hK, hP, hD, hS, hA, hE, hN⟩ rfl dX6_isSound_148 (Nat.le_of_ble_eq_true rfl) (Nat.le_of_ble_eq_true rfl) ⟨(by simp only [sp_X6_isSound, if_neg c_0, if_pos c_50, if_neg c_53, if_neg c_57, if_pos c_79]), (gp (4 * k)), (gp ((4 * k) + 1)), (gp ((4 * k) + 2)), (gp ((4 * k) + 3)), rfl⟩
          · skip
            refine lv_aload_n hx hb dX6_isSound_65 rfl (lv_at hl 1 rfl) ?_
            refine va_get (D := g.1) (ci := 4) (v := .int (gp (4 * k))) (C := RX6) (T := TX6) (N := 17) hx hb hts iX6 hown hK hP 0 rfl rfl 13 (by decide) (hts (.fieldLink RX6 53 "FaultIsolationModel" "word" "I") (by decide +kernel)) (fun _ h9 => h9) rfl dX6_isSound_66 ?_
            refine kiS (As := [.int (gp (4 * k))]) (rest := []) (wc := []) (wr := [(hO, .inr (4, [.int xT, .int xB, .int (nI n), .ref qP, .int xP, .ref qN, .int xS, .ref qY, .ref qD, .int xA, .ref qR, .ref qM, .ref qT, .int (gp (4 * k)), .int (gp ((4 * k) + 1)), .int (gp ((4 * k) + 2)), .int (gp ((4 * k) + 3))])), (qP, .inl (g.2.1.1, 240, .inl gp))]) ⟨hx, hb, hml, hown, hts⟩ (c_X6_hasB l g (gp (4 * k))) (va_cwS 1 hts gX6_isSound_X6_hasB rfl rfl rfl (by decide +kernel) ⟨Nat.le_of_ble_eq_true rfl, Nat.le_of_ble_eq_true rfl⟩) ⟨hK, hP, hD, hS, hA, hE, hN⟩ [] [0, 1] ⟨rfl, rfl, by decide⟩ rfl hl.1 (Nat.le_of_ble_eq_true rfl) dX6_isSound_69 ⟨Nat.le_of_ble_eq_true rfl, Nat.le_of_ble_eq_true rfl⟩ rfl (fun r u H locs hw hP hD hS => ?_)
            obtain ⟨hq, hw⟩ := hw
            subst r
            subst hw
            have hP := hP.sub (ws' := [(hO, .inr (4, [.int xT, .int xB, .int (nI n), .ref qP, .int xP, .ref qN, .int xS, .ref qY, .ref qD, .int xA, .ref qR, .ref qM, .ref qT, .int (gp (4 * k)), .int (gp ((4 * k) + 1)), .int (gp ((4 * k) + 2)), .int (gp ((4 * k) + 3))])), (qP, .inl (g.2.1.1, 240, .inl gp))]) [0, 1] rfl
            have hD := hD.sub (ws' := [(hO, .inr (4, [.int xT, .int xB, .int (nI n), .ref qP, .int xP, .ref qN, .int xS, .ref qY, .ref qD, .int xA, .ref qR, .ref qM, .ref qT, .int (gp (4 * k)), .int (gp ((4 * k) + 1)), .int (gp ((4 * k) + 2)), .int (gp ((4 * k) + 3))])), (qP, .inl (g.2.1.1, 240, .inl gp))]) [0, 1] (by decide) rfl
            refine lv_if_eq (tgt := 84) hx hb dX6_isSound_72 (by decide) (fun c_81 => ?_) (fun c_81 => ?_)
            · skip
              refine lv_aload_n hx hb dX6_isSound_84 rfl (lv_at hl 1 rfl) ?_
              refine va_get (D := g.1) (ci := 4) (v := .int (gp (4 * k))) (C := RX6) (T := TX6) (N := 17) hx hb hts iX6 hown hK hP 0 rfl rfl 13 (by decide) (hts (.fieldLink RX6 53 "FaultIsolationModel" "word" "I") (by decide +kernel)) (fun _ h9 => h9) rfl dX6_isSound_85 ?_
              refine kiS (As := [.int (gp (4 * k))]) (rest := []) (wc := []) (wr := [(hO, .inr (4, [.int xT, .int xB, .int (nI n), .ref qP, .int xP, .ref qN, .int xS, .ref qY, .ref qD, .int xA, .ref qR, .ref qM, .ref qT, .int (gp (4 * k)), .int (gp ((4 * k) + 1)), .int (gp ((4 * k) + 2)), .int (gp ((4 * k) + 3))])), (qP, .inl (g.2.1.1, 240, .inl gp))]) ⟨hx, hb, hml, hown, hts⟩ (c_X6_hasC l g (gp (4 * k))) (va_cwS 1 hts gX6_isSound_X6_hasC rfl rfl rfl (by decide +kernel) ⟨Nat.le_of_ble_eq_true rfl, Nat.le_of_ble_eq_true rfl⟩) ⟨hK, hP, hD, hS, hA, hE, hN⟩ [] [0, 1] ⟨rfl, rfl, by decide⟩ rfl hl.1 (Nat.le_of_ble_eq_true rfl) dX6_isSound_88 ⟨Nat.le_of_ble_eq_true rfl, Nat.le_of_ble_eq_true rfl⟩ rfl (fun r u H locs hw hP hD hS => ?_)
              obtain ⟨hq, hw⟩ := hw
              subst r
              subst hw
              have hP := hP.sub (ws' := [(hO, .inr (4, [.int xT, .int xB, .int (nI n), .ref qP, .int xP, .ref qN, .int xS, .ref qY, .ref qD, .int xA, .ref qR, .ref qM, .ref qT, .int (gp (4 * k)), .int (gp ((4 * k) + 1)), .int (gp ((4 * k) + 2)), .int (gp ((4 * k) + 3))])), (qP, .inl (g.2.1.1, 240, .inl gp))]) [0, 1] rfl
              have hD := hD.sub (ws' := [(hO, .inr (4, [.int xT, .int xB, .int (nI n), .ref qP, .int xP, .ref qN, .int xS, .ref qY, .ref qD, .int xA, .ref qR, .ref qM, .ref qT, .int (gp (4 * k)), .int (gp ((4 * k) + 1)), .int (gp ((4 * k) + 2)), .int (gp ((4 * k) + 3))])), (qP, .inl (g.2.1.1, 240, .inl gp))]) [0, 1] (by decide) rfl
              refine lv_if_eq (tgt := 103) hx hb dX6_isSound_91 (by decide) (fun c_82 => ?_) (fun c_82 => ?_)
              · skip
                refine lv_iconst (v := 1) hx hb dX6_isSound_103 (by decide) ?_
                refine lv_goto (tgt := 108) hx hb dX6_isSound_104 (by decide) ?_
                refine lv_istore_n (lv' := [(2, .int 1), (0, .ref hO), (1, .int (nI k))]) hx hb dX6_isSound_108 rfl hl (by decide) rfl (fun ls hl => ?_)
                refine lv_iload_n hx hb dX6_isSound_109 rfl (lv_at hl 0 rfl) ?_
                refine lv_if_eq (tgt := 147) hx hb dX6_isSound_110 (by decide) (fun c_83 => absurd c_83 (by decide)) (fun _ => ?_)
                refine lv_aload_n hx hb dX6_isSound_113 rfl (lv_at hl 1 rfl) ?_
                refine va_get (D := g.1) (ci := 4) (v := .int (gp (4 * k))) (C := RX6) (T := TX6) (N := 17) hx hb hts iX6 hown hK hP 0 rfl rfl 13 (by decide) (hts (.fieldLink RX6 53 "FaultIsolationModel" "word" "I") (by decide +kernel)) (fun _ h9 => h9) rfl dX6_isSound_114 ?_
                refine kiS (As := [.int (gp (4 * k))]) (rest := []) (wc := []) (wr := [(hO, .inr (4, [.int xT, .int xB, .int (nI n), .ref qP, .int xP, .ref qN, .int xS, .ref qY, .ref qD, .int xA, .ref qR, .ref qM, .ref qT, .int (gp (4 * k)), .int (gp ((4 * k) + 1)), .int (gp ((4 * k) + 2)), .int (gp ((4 * k) + 3))])), (qP, .inl (g.2.1.1, 240, .inl gp))]) ⟨hx, hb, hml, hown, hts⟩ (c_X6_isPlace l g (gp (4 * k))) (va_cwS 1 hts gX6_isSound_X6_isPlace rfl rfl rfl (by decide +kernel) ⟨Nat.le_of_ble_eq_true rfl, Nat.le_of_ble_eq_true rfl⟩) ⟨hK, hP, hD, hS, hA, hE, hN⟩ [] [0, 1] ⟨rfl, rfl, by decide⟩ rfl hl.1 (Nat.le_of_ble_eq_true rfl) dX6_isSound_117 ⟨Nat.le_of_ble_eq_true rfl, Nat.le_of_ble_eq_true rfl⟩ rfl (fun r u H locs hw hP hD hS => ?_)
                obtain ⟨hq, hw⟩ := hw
                subst r
                subst hw
                have hP := hP.sub (ws' := [(hO, .inr (4, [.int xT, .int xB, .int (nI n), .ref qP, .int xP, .ref qN, .int xS, .ref qY, .ref qD, .int xA, .ref qR, .ref qM, .ref qT, .int (gp (4 * k)), .int (gp ((4 * k) + 1)), .int (gp ((4 * k) + 2)), .int (gp ((4 * k) + 3))])), (qP, .inl (g.2.1.1, 240, .inl gp))]) [0, 1] rfl
                have hD := hD.sub (ws' := [(hO, .inr (4, [.int xT, .int xB, .int (nI n), .ref qP, .int xP, .ref qN, .int xS, .ref qY, .ref qD, .int xA, .ref qR, .ref qM, .ref qT, .int (gp (4 * k)), .int (gp ((4 * k) + 1)), .int (gp ((4 * k) + 2)), .int (gp ((4 * k) + 3))])), (qP, .inl (g.2.1.1, 240, .inl gp))]) [0, 1] (by decide) rfl
                refine lv_if_eq (tgt := 143) hx hb dX6_isSound_120 (by decide) (fun c_84 => ?_) (fun c_84 => ?_)
                · skip
                  refine lv_iconst (v := 1) hx hb dX6_isSound_143 (by decide) ?_
                  refine lv_goto (tgt := 148) hx hb dX6_isSound_144 (by decide) ?_
                  exact k_iret hx hb hr hlocks ⟨hK, hP, hD, hS, hA, hE, hN⟩ rfl dX6_isSound_148 (Nat.le_of_ble_eq_true rfl) (Nat.le_of_ble_eq_true rfl) ⟨(by simp only [sp_X6_isSound, if_neg c_0, if_pos c_50, if_neg c_53, if_neg c_57, if_neg c_79, if_pos c_81, if_pos c_82, if_pos c_84]), (gp (4 * k)), (gp ((4 * k) + 1)), (gp ((4 * k) + 2)), (gp ((4 * k) + 3)), rfl⟩
                · skip
                  refine lv_sipush (v := 256) hx hb dX6_isSound_123 (by decide) ?_
                  refine lv_aload_n hx hb dX6_isSound_126 rfl (lv_at hl 1 rfl) ?_
                  refine va_get (D := g.1) (ci := 4) (v := .int (gp ((4 * k) + 2))) (C := RX6) (T := TX6) (N := 17) hx hb hts iX6 hown hK hP 0 rfl rfl 15 (by decide) (hts (.fieldLink RX6 59 "FaultIsolationModel" "b" "I") (by decide +kernel)) (fun _ h9 => h9) rfl dX6_isSound_127 ?_
                  refine lv_imul hx hb dX6_isSound_130 ?_
                  refine lv_aload_n hx hb dX6_isSound_131 rfl (lv_at hl 1 rfl) ?_
                  refine va_get (D := g.1) (ci := 4) (v := .int (gp ((4 * k) + 3))) (C := RX6) (T := TX6) (N := 17) hx hb hts iX6 hown hK hP 0 rfl rfl 16 (by decide) (hts (.fieldLink RX6 62 "FaultIsolationModel" "c" "I") (by decide +kernel)) (fun _ h9 => h9) rfl dX6_isSound_132 ?_
                  refine lv_iadd hx hb dX6_isSound_135 ?_
                  refine lv_aload_n hx hb dX6_isSound_136 rfl (lv_at hl 1 rfl) ?_
                  refine va_get (D := g.1) (ci := 4) (v := .int (nI n)) (C := RX6) (T := TX6) (N := 17) hx hb hts iX6 hown hK hP 0 rfl rfl 2 (by decide) (hts (.fieldLink RX6 46 "FaultIsolationModel" "count" "I") (by decide +kernel)) (fun _ h9 => h9) rfl dX6_isSound_137 ?_
                  refine lv_icmp_ge (tgt := 147) hx hb dX6_isSound_140 (by decide) (fun c_85 => ?_) (fun c_85 => ?_)
                  · skip
                    refine lv_iconst (v := 0) hx hb dX6_isSound_147 (by decide) ?_
                    exact k_iret hx hb hr hlocks ⟨hK, hP, hD, hS, hA, hE, hN⟩ rfl dX6_isSound_148 (Nat.le_of_ble_eq_true rfl) (Nat.le_of_ble_eq_true rfl) ⟨(by simp only [sp_X6_isSound, if_neg c_0, if_pos c_50, if_neg c_53, if_neg c_57, if_neg c_79, if_pos c_81, if_pos c_82, if_neg c_84, if_pos c_85]), (gp (4 * k)), (gp ((4 * k) + 1)), (gp ((4 * k) + 2)), (gp ((4 * k) + 3)), rfl⟩
                  · skip
                    refine lv_iconst (v := 1) hx hb dX6_isSound_143 (by decide) ?_
                    refine lv_goto (tgt := 148) hx hb dX6_isSound_144 (by decide) ?_
                    exact k_iret hx hb hr hlocks ⟨hK, hP, hD, hS, hA, hE, hN⟩ rfl dX6_isSound_148 (Nat.le_of_ble_eq_true rfl) (Nat.le_of_ble_eq_true rfl) ⟨(by simp only [sp_X6_isSound, if_neg c_0, if_pos c_50, if_neg c_53, if_neg c_57, if_neg c_79, if_pos c_81, if_pos c_82, if_neg c_84, if_neg c_85]), (gp (4 * k)), (gp ((4 * k) + 1)), (gp ((4 * k) + 2)), (gp ((4 * k) + 3)), rfl⟩
              · skip
                refine lv_aload_n hx hb dX6_isSound_94 rfl (lv_at hl 1 rfl) ?_
                refine va_get (D := g.1) (ci := 4) (v := .int (gp ((4 * k) + 3))) (C := RX6) (T := TX6) (N := 17) hx hb hts iX6 hown hK hP 0 rfl rfl 16 (by decide) (hts (.fieldLink RX6 62 "FaultIsolationModel" "c" "I") (by decide +kernel)) (fun _ h9 => h9) rfl dX6_isSound_95 ?_
                refine lv_bipush (v := 6) hx hb dX6_isSound_98 (by decide) ?_
                refine lv_icmp_eq (tgt := 107) hx hb dX6_isSound_100 (by decide) (fun c_86 => ?_) (fun c_86 => ?_)
                · skip
                  refine lv_iconst (v := 0) hx hb dX6_isSound_107 (by decide) ?_
                  refine lv_istore_n (lv' := [(2, .int 0), (0, .ref hO), (1, .int (nI k))]) hx hb dX6_isSound_108 rfl hl (by decide) rfl (fun ls hl => ?_)
                  refine lv_iload_n hx hb dX6_isSound_109 rfl (lv_at hl 0 rfl) ?_
                  refine lv_if_eq (tgt := 147) hx hb dX6_isSound_110 (by decide) (fun _ => ?_) (fun c_87 => absurd c_87 (by decide))
                  refine lv_iconst (v := 0) hx hb dX6_isSound_147 (by decide) ?_
                  exact k_iret hx hb hr hlocks ⟨hK, hP, hD, hS, hA, hE, hN⟩ rfl dX6_isSound_148 (Nat.le_of_ble_eq_true rfl) (Nat.le_of_ble_eq_true rfl) ⟨(by simp only [sp_X6_isSound, if_neg c_0, if_pos c_50, if_neg c_53, if_neg c_57, if_neg c_79, if_pos c_81, if_neg c_82, if_pos c_86]), (gp (4 * k)), (gp ((4 * k) + 1)), (gp ((4 * k) + 2)), (gp ((4 * k) + 3)), rfl⟩
                · skip
                  refine lv_iconst (v := 1) hx hb dX6_isSound_103 (by decide) ?_
                  refine lv_goto (tgt := 108) hx hb dX6_isSound_104 (by decide) ?_
                  refine lv_istore_n (lv' := [(2, .int 1), (0, .ref hO), (1, .int (nI k))]) hx hb dX6_isSound_108 rfl hl (by decide) rfl (fun ls hl => ?_)
                  refine lv_iload_n hx hb dX6_isSound_109 rfl (lv_at hl 0 rfl) ?_
                  refine lv_if_eq (tgt := 147) hx hb dX6_isSound_110 (by decide) (fun c_88 => absurd c_88 (by decide)) (fun _ => ?_)
                  refine lv_aload_n hx hb dX6_isSound_113 rfl (lv_at hl 1 rfl) ?_
                  refine va_get (D := g.1) (ci := 4) (v := .int (gp (4 * k))) (C := RX6) (T := TX6) (N := 17) hx hb hts iX6 hown hK hP 0 rfl rfl 13 (by decide) (hts (.fieldLink RX6 53 "FaultIsolationModel" "word" "I") (by decide +kernel)) (fun _ h9 => h9) rfl dX6_isSound_114 ?_
                  refine kiS (As := [.int (gp (4 * k))]) (rest := []) (wc := []) (wr := [(hO, .inr (4, [.int xT, .int xB, .int (nI n), .ref qP, .int xP, .ref qN, .int xS, .ref qY, .ref qD, .int xA, .ref qR, .ref qM, .ref qT, .int (gp (4 * k)), .int (gp ((4 * k) + 1)), .int (gp ((4 * k) + 2)), .int (gp ((4 * k) + 3))])), (qP, .inl (g.2.1.1, 240, .inl gp))]) ⟨hx, hb, hml, hown, hts⟩ (c_X6_isPlace l g (gp (4 * k))) (va_cwS 1 hts gX6_isSound_X6_isPlace rfl rfl rfl (by decide +kernel) ⟨Nat.le_of_ble_eq_true rfl, Nat.le_of_ble_eq_true rfl⟩) ⟨hK, hP, hD, hS, hA, hE, hN⟩ [] [0, 1] ⟨rfl, rfl, by decide⟩ rfl hl.1 (Nat.le_of_ble_eq_true rfl) dX6_isSound_117 ⟨Nat.le_of_ble_eq_true rfl, Nat.le_of_ble_eq_true rfl⟩ rfl (fun r u H locs hw hP hD hS => ?_)
                  obtain ⟨hq, hw⟩ := hw
                  subst r
                  subst hw
                  have hP := hP.sub (ws' := [(hO, .inr (4, [.int xT, .int xB, .int (nI n), .ref qP, .int xP, .ref qN, .int xS, .ref qY, .ref qD, .int xA, .ref qR, .ref qM, .ref qT, .int (gp (4 * k)), .int (gp ((4 * k) + 1)), .int (gp ((4 * k) + 2)), .int (gp ((4 * k) + 3))])), (qP, .inl (g.2.1.1, 240, .inl gp))]) [0, 1] rfl
                  have hD := hD.sub (ws' := [(hO, .inr (4, [.int xT, .int xB, .int (nI n), .ref qP, .int xP, .ref qN, .int xS, .ref qY, .ref qD, .int xA, .ref qR, .ref qM, .ref qT, .int (gp (4 * k)), .int (gp ((4 * k) + 1)), .int (gp ((4 * k) + 2)), .int (gp ((4 * k) + 3))])), (qP, .inl (g.2.1.1, 240, .inl gp))]) [0, 1] (by decide) rfl
                  refine lv_if_eq (tgt := 143) hx hb dX6_isSound_120 (by decide) (fun c_89 => ?_) (fun c_89 => ?_)
                  · skip
                    refine lv_iconst (v := 1) hx hb dX6_isSound_143 (by decide) ?_
                    refine lv_goto (tgt := 148) hx hb dX6_isSound_144 (by decide) ?_
                    exact k_iret hx hb hr hlocks ⟨hK, hP, hD, hS, hA, hE, hN⟩ rfl dX6_isSound_148 (Nat.le_of_ble_eq_true rfl) (Nat.le_of_ble_eq_true rfl) ⟨(by simp only [sp_X6_isSound, if_neg c_0, if_pos c_50, if_neg c_53, if_neg c_57, if_neg c_79, if_pos c_81, if_neg c_82, if_neg c_86, if_pos c_89]), (gp (4 * k)), (gp ((4 * k) + 1)), (gp ((4 * k) + 2)), (gp ((4 * k) + 3)), rfl⟩
                  · skip
                    refine lv_sipush (v := 256) hx hb dX6_isSound_123 (by decide) ?_
                    refine lv_aload_n hx hb dX6_isSound_126 rfl (lv_at hl 1 rfl) ?_
                    refine va_get (D := g.1) (ci := 4) (v := .int (gp ((4 * k) + 2))) (C := RX6) (T := TX6) (N := 17) hx hb hts iX6 hown hK hP 0 rfl rfl 15 (by decide) (hts (.fieldLink RX6 59 "FaultIsolationModel" "b" "I") (by decide +kernel)) (fun _ h9 => h9) rfl dX6_isSound_127 ?_
                    refine lv_imul hx hb dX6_isSound_130 ?_
                    refine lv_aload_n hx hb dX6_isSound_131 rfl (lv_at hl 1 rfl) ?_
                    refine va_get (D := g.1) (ci := 4) (v := .int (gp ((4 * k) + 3))) (C := RX6) (T := TX6) (N := 17) hx hb hts iX6 hown hK hP 0 rfl rfl 16 (by decide) (hts (.fieldLink RX6 62 "FaultIsolationModel" "c" "I") (by decide +kernel)) (fun _ h9 => h9) rfl dX6_isSound_132 ?_
                    refine lv_iadd hx hb dX6_isSound_135 ?_
                    refine lv_aload_n hx hb dX6_isSound_136 rfl (lv_at hl 1 rfl) ?_
                    refine va_get (D := g.1) (ci := 4) (v := .int (nI n)) (C := RX6) (T := TX6) (N := 17) hx hb hts iX6 hown hK hP 0 rfl rfl 2 (by decide) (hts (.fieldLink RX6 46 "FaultIsolationModel" "count" "I") (by decide +kernel)) (fun _ h9 => h9) rfl dX6_isSound_137 ?_
                    refine lv_icmp_ge (tgt := 147) hx hb dX6_isSound_140 (by decide) (fun c_90 => ?_) (fun c_90 => ?_)
                    · skip
                      refine lv_iconst (v := 0) hx hb dX6_isSound_147 (by decide) ?_
                      exact k_iret hx hb hr hlocks ⟨hK, hP, hD, hS, hA, hE, hN⟩ rfl dX6_isSound_148 (Nat.le_of_ble_eq_true rfl) (Nat.le_of_ble_eq_true rfl) ⟨(by simp only [sp_X6_isSound, if_neg c_0, if_pos c_50, if_neg c_53, if_neg c_57, if_neg c_79, if_pos c_81, if_neg c_82, if_neg c_86, if_neg c_89, if_pos c_90]), (gp (4 * k)), (gp ((4 * k) + 1)), (gp ((4 * k) + 2)), (gp ((4 * k) + 3)), rfl⟩
                    · skip
                      refine lv_iconst (v := 1) hx hb dX6_isSound_143 (by decide) ?_
                      refine lv_goto (tgt := 148) hx hb dX6_isSound_144 (by decide) ?_
                      exact k_iret hx hb hr hlocks ⟨hK, hP, hD, hS, hA, hE, hN⟩ rfl dX6_isSound_148 (Nat.le_of_ble_eq_true rfl) (Nat.le_of_ble_eq_true rfl) ⟨(by simp only [sp_X6_isSound, if_neg c_0, if_pos c_50, if_neg c_53, if_neg c_57, if_neg c_79, if_pos c_81, if_neg c_82, if_neg c_86, if_neg c_89, if_neg c_90]), (gp (4 * k)), (gp ((4 * k) + 1)), (gp ((4 * k) + 2)), (gp ((4 * k) + 3)), rfl⟩
            · skip
              refine lv_aload_n hx hb dX6_isSound_75 rfl (lv_at hl 1 rfl) ?_
              refine va_get (D := g.1) (ci := 4) (v := .int (gp ((4 * k) + 2))) (C := RX6) (T := TX6) (N := 17) hx hb hts iX6 hown hK hP 0 rfl rfl 15 (by decide) (hts (.fieldLink RX6 59 "FaultIsolationModel" "b" "I") (by decide +kernel)) (fun _ h9 => h9) rfl dX6_isSound_76 ?_
              refine lv_bipush (v := 6) hx hb dX6_isSound_79 (by decide) ?_
              refine lv_icmp_eq (tgt := 107) hx hb dX6_isSound_81 (by decide) (fun c_91 => ?_) (fun c_91 => ?_)
              · skip
                refine lv_iconst (v := 0) hx hb dX6_isSound_107 (by decide) ?_
                refine lv_istore_n (lv' := [(2, .int 0), (0, .ref hO), (1, .int (nI k))]) hx hb dX6_isSound_108 rfl hl (by decide) rfl (fun ls hl => ?_)
                refine lv_iload_n hx hb dX6_isSound_109 rfl (lv_at hl 0 rfl) ?_
                refine lv_if_eq (tgt := 147) hx hb dX6_isSound_110 (by decide) (fun _ => ?_) (fun c_92 => absurd c_92 (by decide))
                refine lv_iconst (v := 0) hx hb dX6_isSound_147 (by decide) ?_
                exact k_iret hx hb hr hlocks ⟨hK, hP, hD, hS, hA, hE, hN⟩ rfl dX6_isSound_148 (Nat.le_of_ble_eq_true rfl) (Nat.le_of_ble_eq_true rfl) ⟨(by simp only [sp_X6_isSound, if_neg c_0, if_pos c_50, if_neg c_53, if_neg c_57, if_neg c_79, if_neg c_81, if_pos c_91]), (gp (4 * k)), (gp ((4 * k) + 1)), (gp ((4 * k) + 2)), (gp ((4 * k) + 3)), rfl⟩
              · skip
                refine lv_aload_n hx hb dX6_isSound_84 rfl (lv_at hl 1 rfl) ?_
                refine va_get (D := g.1) (ci := 4) (v := .int (gp (4 * k))) (C := RX6) (T := TX6) (N := 17) hx hb hts iX6 hown hK hP 0 rfl rfl 13 (by decide) (hts (.fieldLink RX6 53 "FaultIsolationModel" "word" "I") (by decide +kernel)) (fun _ h9 => h9) rfl dX6_isSound_85 ?_
                refine kiS (As := [.int (gp (4 * k))]) (rest := []) (wc := []) (wr := [(hO, .inr (4, [.int xT, .int xB, .int (nI n), .ref qP, .int xP, .ref qN, .int xS, .ref qY, .ref qD, .int xA, .ref qR, .ref qM, .ref qT, .int (gp (4 * k)), .int (gp ((4 * k) + 1)), .int (gp ((4 * k) + 2)), .int (gp ((4 * k) + 3))])), (qP, .inl (g.2.1.1, 240, .inl gp))]) ⟨hx, hb, hml, hown, hts⟩ (c_X6_hasC l g (gp (4 * k))) (va_cwS 1 hts gX6_isSound_X6_hasC rfl rfl rfl (by decide +kernel) ⟨Nat.le_of_ble_eq_true rfl, Nat.le_of_ble_eq_true rfl⟩) ⟨hK, hP, hD, hS, hA, hE, hN⟩ [] [0, 1] ⟨rfl, rfl, by decide⟩ rfl hl.1 (Nat.le_of_ble_eq_true rfl) dX6_isSound_88 ⟨Nat.le_of_ble_eq_true rfl, Nat.le_of_ble_eq_true rfl⟩ rfl (fun r u H locs hw hP hD hS => ?_)
                obtain ⟨hq, hw⟩ := hw
                subst r
                subst hw
                have hP := hP.sub (ws' := [(hO, .inr (4, [.int xT, .int xB, .int (nI n), .ref qP, .int xP, .ref qN, .int xS, .ref qY, .ref qD, .int xA, .ref qR, .ref qM, .ref qT, .int (gp (4 * k)), .int (gp ((4 * k) + 1)), .int (gp ((4 * k) + 2)), .int (gp ((4 * k) + 3))])), (qP, .inl (g.2.1.1, 240, .inl gp))]) [0, 1] rfl
                have hD := hD.sub (ws' := [(hO, .inr (4, [.int xT, .int xB, .int (nI n), .ref qP, .int xP, .ref qN, .int xS, .ref qY, .ref qD, .int xA, .ref qR, .ref qM, .ref qT, .int (gp (4 * k)), .int (gp ((4 * k) + 1)), .int (gp ((4 * k) + 2)), .int (gp ((4 * k) + 3))])), (qP, .inl (g.2.1.1, 240, .inl gp))]) [0, 1] (by decide) rfl
                refine lv_if_eq (tgt := 103) hx hb dX6_isSound_91 (by decide) (fun c_93 => ?_) (fun c_93 => ?_)
                · skip
                  refine lv_iconst (v := 1) hx hb dX6_isSound_103 (by decide) ?_
                  refine lv_goto (tgt := 108) hx hb dX6_isSound_104 (by decide) ?_
                  refine lv_istore_n (lv' := [(2, .int 1), (0, .ref hO), (1, .int (nI k))]) hx hb dX6_isSound_108 rfl hl (by decide) rfl (fun ls hl => ?_)
                  refine lv_iload_n hx hb dX6_isSound_109 rfl (lv_at hl 0 rfl) ?_
                  refine lv_if_eq (tgt := 147) hx hb dX6_isSound_110 (by decide) (fun c_94 => absurd c_94 (by decide)) (fun _ => ?_)
                  refine lv_aload_n hx hb dX6_isSound_113 rfl (lv_at hl 1 rfl) ?_
                  refine va_get (D := g.1) (ci := 4) (v := .int (gp (4 * k))) (C := RX6) (T := TX6) (N := 17) hx hb hts iX6 hown hK hP 0 rfl rfl 13 (by decide) (hts (.fieldLink RX6 53 "FaultIsolationModel" "word" "I") (by decide +kernel)) (fun _ h9 => h9) rfl dX6_isSound_114 ?_
                  refine kiS (As := [.int (gp (4 * k))]) (rest := []) (wc := []) (wr := [(hO, .inr (4, [.int xT, .int xB, .int (nI n), .ref qP, .int xP, .ref qN, .int xS, .ref qY, .ref qD, .int xA, .ref qR, .ref qM, .ref qT, .int (gp (4 * k)), .int (gp ((4 * k) + 1)), .int (gp ((4 * k) + 2)), .int (gp ((4 * k) + 3))])), (qP, .inl (g.2.1.1, 240, .inl gp))]) ⟨hx, hb, hml, hown, hts⟩ (c_X6_isPlace l g (gp (4 * k))) (va_cwS 1 hts gX6_isSound_X6_isPlace rfl rfl rfl (by decide +kernel) ⟨Nat.le_of_ble_eq_true rfl, Nat.le_of_ble_eq_true rfl⟩) ⟨hK, hP, hD, hS, hA, hE, hN⟩ [] [0, 1] ⟨rfl, rfl, by decide⟩ rfl hl.1 (Nat.le_of_ble_eq_true rfl) dX6_isSound_117 ⟨Nat.le_of_ble_eq_true rfl, Nat.le_of_ble_eq_true rfl⟩ rfl (fun r u H locs hw hP hD hS => ?_)
                  obtain ⟨hq, hw⟩ := hw
                  subst r
                  subst hw
                  have hP := hP.sub (ws' := [(hO, .inr (4, [.int xT, .int xB, .int (nI n), .ref qP, .int xP, .ref qN, .int xS, .ref qY, .ref qD, .int xA, .ref qR, .ref qM, .ref qT, .int (gp (4 * k)), .int (gp ((4 * k) + 1)), .int (gp ((4 * k) + 2)), .int (gp ((4 * k) + 3))])), (qP, .inl (g.2.1.1, 240, .inl gp))]) [0, 1] rfl
                  have hD := hD.sub (ws' := [(hO, .inr (4, [.int xT, .int xB, .int (nI n), .ref qP, .int xP, .ref qN, .int xS, .ref qY, .ref qD, .int xA, .ref qR, .ref qM, .ref qT, .int (gp (4 * k)), .int (gp ((4 * k) + 1)), .int (gp ((4 * k) + 2)), .int (gp ((4 * k) + 3))])), (qP, .inl (g.2.1.1, 240, .inl gp))]) [0, 1] (by decide) rfl
                  refine lv_if_eq (tgt := 143) hx hb dX6_isSound_120 (by decide) (fun c_95 => ?_) (fun c_95 => ?_)
                  · skip
                    refine lv_iconst (v := 1) hx hb dX6_isSound_143 (by decide) ?_
                    refine lv_goto (tgt := 148) hx hb dX6_isSound_144 (by decide) ?_
                    exact k_iret hx hb hr hlocks ⟨hK, hP, hD, hS, hA, hE, hN⟩ rfl dX6_isSound_148 (Nat.le_of_ble_eq_true rfl) (Nat.le_of_ble_eq_true rfl) ⟨(by simp only [sp_X6_isSound, if_neg c_0, if_pos c_50, if_neg c_53, if_neg c_57, if_neg c_79, if_neg c_81, if_neg c_91, if_pos c_93, if_pos c_95]), (gp (4 * k)), (gp ((4 * k) + 1)), (gp ((4 * k) + 2)), (gp ((4 * k) + 3)), rfl⟩
                  · skip
                    refine lv_sipush (v := 256) hx hb dX6_isSound_123 (by decide) ?_
                    refine lv_aload_n hx hb dX6_isSound_126 rfl (lv_at hl 1 rfl) ?_
                    refine va_get (D := g.1) (ci := 4) (v := .int (gp ((4 * k) + 2))) (C := RX6) (T := TX6) (N := 17) hx hb hts iX6 hown hK hP 0 rfl rfl 15 (by decide) (hts (.fieldLink RX6 59 "FaultIsolationModel" "b" "I") (by decide +kernel)) (fun _ h9 => h9) rfl dX6_isSound_127 ?_
                    refine lv_imul hx hb dX6_isSound_130 ?_
                    refine lv_aload_n hx hb dX6_isSound_131 rfl (lv_at hl 1 rfl) ?_
                    refine va_get (D := g.1) (ci := 4) (v := .int (gp ((4 * k) + 3))) (C := RX6) (T := TX6) (N := 17) hx hb hts iX6 hown hK hP 0 rfl rfl 16 (by decide) (hts (.fieldLink RX6 62 "FaultIsolationModel" "c" "I") (by decide +kernel)) (fun _ h9 => h9) rfl dX6_isSound_132 ?_
                    refine lv_iadd hx hb dX6_isSound_135 ?_
                    refine lv_aload_n hx hb dX6_isSound_136 rfl (lv_at hl 1 rfl) ?_
                    refine va_get (D := g.1) (ci := 4) (v := .int (nI n)) (C := RX6) (T := TX6) (N := 17) hx hb hts iX6 hown hK hP 0 rfl rfl 2 (by decide) (hts (.fieldLink RX6 46 "FaultIsolationModel" "count" "I") (by decide +kernel)) (fun _ h9 => h9) rfl dX6_isSound_137 ?_
                    refine lv_icmp_ge (tgt := 147) hx hb dX6_isSound_140 (by decide) (fun c_96 => ?_) (fun c_96 => ?_)
                    · skip
                      refine lv_iconst (v := 0) hx hb dX6_isSound_147 (by decide) ?_
                      exact k_iret hx hb hr hlocks ⟨hK, hP, hD, hS, hA, hE, hN⟩ rfl dX6_isSound_148 (Nat.le_of_ble_eq_true rfl) (Nat.le_of_ble_eq_true rfl) ⟨(by simp only [sp_X6_isSound, if_neg c_0, if_pos c_50, if_neg c_53, if_neg c_57, if_neg c_79, if_neg c_81, if_neg c_91, if_pos c_93, if_neg c_95, if_pos c_96]), (gp (4 * k)), (gp ((4 * k) + 1)), (gp ((4 * k) + 2)), (gp ((4 * k) + 3)), rfl⟩
                    · skip
                      refine lv_iconst (v := 1) hx hb dX6_isSound_143 (by decide) ?_
                      refine lv_goto (tgt := 148) hx hb dX6_isSound_144 (by decide) ?_
                      exact k_iret hx hb hr hlocks ⟨hK, hP, hD, hS, hA, hE, hN⟩ rfl dX6_isSound_148 (Nat.le_of_ble_eq_true rfl) (Nat.le_of_ble_eq_true rfl) ⟨(by simp only [sp_X6_isSound, if_neg c_0, if_pos c_50, if_neg c_53, if_neg c_57, if_neg c_79, if_neg c_81, if_neg c_91, if_pos c_93, if_neg c_95, if_neg c_96]), (gp (4 * k)), (gp ((4 * k) + 1)), (gp ((4 * k) + 2)), (gp ((4 * k) + 3)), rfl⟩
                · skip
                  refine lv_aload_n hx hb dX6_isSound_94 rfl (lv_at hl 1 rfl) ?_
                  refine va_get (D := g.1) (ci := 4) (v := .int (gp ((4 * k) + 3))) (C := RX6) (T := TX6) (N := 17) hx hb hts iX6 hown hK hP 0 rfl rfl 16 (by decide) (hts (.fieldLink RX6 62 "FaultIsolationModel" "c" "I") (by decide +kernel)) (fun _ h9 => h9) rfl dX6_isSound_95 ?_
                  refine lv_bipush (v := 6) hx hb dX6_isSound_98 (by decide) ?_
                  refine lv_icmp_eq (tgt := 107) hx hb dX6_isSound_100 (by decide) (fun c_97 => ?_) (fun c_97 => ?_)
                  · skip
                    refine lv_iconst (v := 0) hx hb dX6_isSound_107 (by decide) ?_
                    refine lv_istore_n (lv' := [(2, .int 0), (0, .ref hO), (1, .int (nI k))]) hx hb dX6_isSound_108 rfl hl (by decide) rfl (fun ls hl => ?_)
                    refine lv_iload_n hx hb dX6_isSound_109 rfl (lv_at hl 0 rfl) ?_
                    refine lv_if_eq (tgt := 147) hx hb dX6_isSound_110 (by decide) (fun _ => ?_) (fun c_98 => absurd c_98 (by decide))
                    refine lv_iconst (v := 0) hx hb dX6_isSound_147 (by decide) ?_
                    exact k_iret hx hb hr hlocks ⟨hK, hP, hD, hS, hA, hE, hN⟩ rfl dX6_isSound_148 (Nat.le_of_ble_eq_true rfl) (Nat.le_of_ble_eq_true rfl) ⟨(by simp only [sp_X6_isSound, if_neg c_0, if_pos c_50, if_neg c_53, if_neg c_57, if_neg c_79, if_neg c_81, if_neg c_91, if_neg c_93, if_pos c_97]), (gp (4 * k)), (gp ((4 * k) + 1)), (gp ((4 * k) + 2)), (gp ((4 * k) + 3)), rfl⟩
                  · skip
                    refine lv_iconst (v := 1) hx hb dX6_isSound_103 (by decide) ?_
                    refine lv_goto (tgt := 108) hx hb dX6_isSound_104 (by decide) ?_
                    refine lv_istore_n (lv' := [(2, .int 1), (0, .ref hO), (1, .int (nI k))]) hx hb dX6_isSound_108 rfl hl (by decide) rfl (fun ls hl => ?_)
                    refine lv_iload_n hx hb dX6_isSound_109 rfl (lv_at hl 0 rfl) ?_
                    refine lv_if_eq (tgt := 147) hx hb dX6_isSound_110 (by decide) (fun c_99 => absurd c_99 (by decide)) (fun _ => ?_)
                    refine lv_aload_n hx hb dX6_isSound_113 rfl (lv_at hl 1 rfl) ?_
                    refine va_get (D := g.1) (ci := 4) (v := .int (gp (4 * k))) (C := RX6) (T := TX6) (N := 17) hx hb hts iX6 hown hK hP 0 rfl rfl 13 (by decide) (hts (.fieldLink RX6 53 "FaultIsolationModel" "word" "I") (by decide +kernel)) (fun _ h9 => h9) rfl dX6_isSound_114 ?_
                    refine kiS (As := [.int (gp (4 * k))]) (rest := []) (wc := []) (wr := [(hO, .inr (4, [.int xT, .int xB, .int (nI n), .ref qP, .int xP, .ref qN, .int xS, .ref qY, .ref qD, .int xA, .ref qR, .ref qM, .ref qT, .int (gp (4 * k)), .int (gp ((4 * k) + 1)), .int (gp ((4 * k) + 2)), .int (gp ((4 * k) + 3))])), (qP, .inl (g.2.1.1, 240, .inl gp))]) ⟨hx, hb, hml, hown, hts⟩ (c_X6_isPlace l g (gp (4 * k))) (va_cwS 1 hts gX6_isSound_X6_isPlace rfl rfl rfl (by decide +kernel) ⟨Nat.le_of_ble_eq_true rfl, Nat.le_of_ble_eq_true rfl⟩) ⟨hK, hP, hD, hS, hA, hE, hN⟩ [] [0, 1] ⟨rfl, rfl, by decide⟩ rfl hl.1 (Nat.le_of_ble_eq_true rfl) dX6_isSound_117 ⟨Nat.le_of_ble_eq_true rfl, Nat.le_of_ble_eq_true rfl⟩ rfl (fun r u H locs hw hP hD hS => ?_)
                    obtain ⟨hq, hw⟩ := hw
                    subst r
                    subst hw
                    have hP := hP.sub (ws' := [(hO, .inr (4, [.int xT, .int xB, .int (nI n), .ref qP, .int xP, .ref qN, .int xS, .ref qY, .ref qD, .int xA, .ref qR, .ref qM, .ref qT, .int (gp (4 * k)), .int (gp ((4 * k) + 1)), .int (gp ((4 * k) + 2)), .int (gp ((4 * k) + 3))])), (qP, .inl (g.2.1.1, 240, .inl gp))]) [0, 1] rfl
                    have hD := hD.sub (ws' := [(hO, .inr (4, [.int xT, .int xB, .int (nI n), .ref qP, .int xP, .ref qN, .int xS, .ref qY, .ref qD, .int xA, .ref qR, .ref qM, .ref qT, .int (gp (4 * k)), .int (gp ((4 * k) + 1)), .int (gp ((4 * k) + 2)), .int (gp ((4 * k) + 3))])), (qP, .inl (g.2.1.1, 240, .inl gp))]) [0, 1] (by decide) rfl
                    refine lv_if_eq (tgt := 143) hx hb dX6_isSound_120 (by decide) (fun c_100 => ?_) (fun c_100 => ?_)
                    · skip
                      refine lv_iconst (v := 1) hx hb dX6_isSound_143 (by decide) ?_
                      refine lv_goto (tgt := 148) hx hb dX6_isSound_144 (by decide) ?_
                      exact k_iret hx hb hr hlocks ⟨hK, hP, hD, hS, hA, hE, hN⟩ rfl dX6_isSound_148 (Nat.le_of_ble_eq_true rfl) (Nat.le_of_ble_eq_true rfl) ⟨(by simp only [sp_X6_isSound, if_neg c_0, if_pos c_50, if_neg c_53, if_neg c_57, if_neg c_79, if_neg c_81, if_neg c_91, if_neg c_93, if_neg c_97, if_pos c_100]), (gp (4 * k)), (gp ((4 * k) + 1)), (gp ((4 * k) + 2)), (gp ((4 * k) + 3)), rfl⟩
                    · skip
                      refine lv_sipush (v := 256) hx hb dX6_isSound_123 (by decide) ?_
                      refine lv_aload_n hx hb dX6_isSound_126 rfl (lv_at hl 1 rfl) ?_
                      refine va_get (D := g.1) (ci := 4) (v := .int (gp ((4 * k) + 2))) (C := RX6) (T := TX6) (N := 17) hx hb hts iX6 hown hK hP 0 rfl rfl 15 (by decide) (hts (.fieldLink RX6 59 "FaultIsolationModel" "b" "I") (by decide +kernel)) (fun _ h9 => h9) rfl dX6_isSound_127 ?_
                      refine lv_imul hx hb dX6_isSound_130 ?_
                      refine lv_aload_n hx hb dX6_isSound_131 rfl (lv_at hl 1 rfl) ?_
                      refine va_get (D := g.1) (ci := 4) (v := .int (gp ((4 * k) + 3))) (C := RX6) (T := TX6) (N := 17) hx hb hts iX6 hown hK hP 0 rfl rfl 16 (by decide) (hts (.fieldLink RX6 62 "FaultIsolationModel" "c" "I") (by decide +kernel)) (fun _ h9 => h9) rfl dX6_isSound_132 ?_
                      refine lv_iadd hx hb dX6_isSound_135 ?_
                      refine lv_aload_n hx hb dX6_isSound_136 rfl (lv_at hl 1 rfl) ?_
                      refine va_get (D := g.1) (ci := 4) (v := .int (nI n)) (C := RX6) (T := TX6) (N := 17) hx hb hts iX6 hown hK hP 0 rfl rfl 2 (by decide) (hts (.fieldLink RX6 46 "FaultIsolationModel" "count" "I") (by decide +kernel)) (fun _ h9 => h9) rfl dX6_isSound_137 ?_
                      refine lv_icmp_ge (tgt := 147) hx hb dX6_isSound_140 (by decide) (fun c_101 => ?_) (fun c_101 => ?_)
                      · skip
                        refine lv_iconst (v := 0) hx hb dX6_isSound_147 (by decide) ?_
                        exact k_iret hx hb hr hlocks ⟨hK, hP, hD, hS, hA, hE, hN⟩ rfl dX6_isSound_148 (Nat.le_of_ble_eq_true rfl) (Nat.le_of_ble_eq_true rfl) ⟨(by simp only [sp_X6_isSound, if_neg c_0, if_pos c_50, if_neg c_53, if_neg c_57, if_neg c_79, if_neg c_81, if_neg c_91, if_neg c_93, if_neg c_97, if_neg c_100, if_pos c_101]), (gp (4 * k)), (gp ((4 * k) + 1)), (gp ((4 * k) + 2)), (gp ((4 * k) + 3)), rfl⟩
                      · skip
                        refine lv_iconst (v := 1) hx hb dX6_isSound_143 (by decide) ?_
                        refine lv_goto (tgt := 148) hx hb dX6_isSound_144 (by decide) ?_
                        exact k_iret hx hb hr hlocks ⟨hK, hP, hD, hS, hA, hE, hN⟩ rfl dX6_isSound_148 (Nat.le_of_ble_eq_true rfl) (Nat.le_of_ble_eq_true rfl) ⟨(by simp only [sp_X6_isSound, if_neg c_0, if_pos c_50, if_neg c_53, if_neg c_57, if_neg c_79, if_neg c_81, if_neg c_91, if_neg c_93, if_neg c_97, if_neg c_100, if_neg c_101]), (gp (4 * k)), (gp ((4 * k) + 1)), (gp ((4 * k) + 2)), (gp ((4 * k) + 3)), rfl⟩
