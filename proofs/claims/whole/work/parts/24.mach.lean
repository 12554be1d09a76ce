def sp_X1_jump_address (fr : Nat → Int32) (ad : Int32) (N : Nat) (f : Nat → Int32) (pr : Int32) : Int32 := if (sp_X0_word N f ad) = 13 then (if (sp_X1_valueOf fr (sp_X0_a N f ad)) = 0 then (if pr = 0 then (if (sp_X0_word N f ad) = 14 then (sp_X1_valueOf fr (sp_X0_a N f ad)) else (sp_X0_n N f ad)) else (if (sp_X0_word N f ad) = 14 then (sp_X1_valueOf fr (sp_X0_a N f ad)) else (4 * (sp_X0_n N f ad)))) else (ad + 4)) else (if pr = 0 then (if (sp_X0_word N f ad) = 14 then (sp_X1_valueOf fr (sp_X0_a N f ad)) else (sp_X0_n N f ad)) else (if (sp_X0_word N f ad) = 14 then (sp_X1_valueOf fr (sp_X0_a N f ad)) else (4 * (sp_X0_n N f ad))))
def sp_X1_jump_slips (fr : Nat → Int32) (ad : Int32) (sl : Int32) (N : Nat) (f : Nat → Int32) (pr : Int32) : Int32 := if (sp_X0_word N f ad) = 13 then (if (sp_X1_valueOf fr (sp_X0_a N f ad)) = 0 then (if pr = 0 then (if (sp_X0_word N f ad) = 14 then (if (sp_X5_isBundleStart (sp_X1_valueOf fr (sp_X0_a N f ad))) = 0 then (sl + 1) else sl) else (if (sp_X5_isBundleStart (sp_X0_n N f ad)) = 0 then (sl + 1) else sl)) else (if (sp_X0_word N f ad) = 14 then (if (sp_X5_isBundleStart (sp_X1_valueOf fr (sp_X0_a N f ad))) = 0 then (sl + 1) else sl) else (if (sp_X5_isBundleStart (4 * (sp_X0_n N f ad))) = 0 then (sl + 1) else sl))) else sl) else (if pr = 0 then (if (sp_X0_word N f ad) = 14 then (if (sp_X5_isBundleStart (sp_X1_valueOf fr (sp_X0_a N f ad))) = 0 then (sl + 1) else sl) else (if (sp_X5_isBundleStart (sp_X0_n N f ad)) = 0 then (sl + 1) else sl)) else (if (sp_X0_word N f ad) = 14 then (if (sp_X5_isBundleStart (sp_X1_valueOf fr (sp_X0_a N f ad))) = 0 then (sl + 1) else sl) else (if (sp_X5_isBundleStart (4 * (sp_X0_n N f ad))) = 0 then (sl + 1) else sl)))
def sp_X1_jump_registers (fr : Nat → Int32) (ad : Int32) (N : Nat) (f : Nat → Int32) : Nat → Int32 := if (sp_X0_word N f ad) = 13 then (if (sp_X1_valueOf fr (sp_X0_a N f ad)) = 0 then (if (sp_X0_word N f ad) = 15 then (sp_X1_change_registers fr 7 (ad + 4)) else fr) else fr) else (if (sp_X0_word N f ad) = 15 then (sp_X1_change_registers fr 7 (ad + 4)) else fr)
set_option maxHeartbeats 4000000 in
set_option maxRecDepth 100000 in
theorem c_X1_jump (l : Launch) (g : KG) (hM : Nat) (qr : Nat) (qm : Nat) (fr : Nat → Int32) (fm : Nat → Int32) (base : Int32) (ad : Int32) (sn : Int32) (sy : Int32) (sl : Int32) (rg : Int32) (ly : Int32) (h : Nat) (q : Nat) (N : Nat) (f : Nat → Int32) (len : Int32) (pr : Int32) (hNn : N < 2 ^ 31) : Cv l g yX1_jump wsX1_jump ({ frames := 2, cells := 0, slots := 0, locals := 42 }) [.ref hM, .ref h, .int pr] [(hM, .inr (1, [.int base, .ref qr, .ref qm, .int ad, .int sn, .int sy, .int sl, .int rg, .int ly])), (qr, .inl (g.2.1.1, 8, .inl fr)), (qm, .inl (g.2.1.1, 4096, .inl fm)), (h, .inr (0, [.ref q, .int len])), (q, .inl (g.2.1.1, N, .inl f))] (fun u => u = [(hM, .inr (1, [.int base, .ref qr, .ref qm, .int (sp_X1_jump_address fr ad N f pr), .int sn, .int sy, .int (sp_X1_jump_slips fr ad sl N f pr), .int rg, .int ly])), (qr, .inl (g.2.1.1, 8, .inl (sp_X1_jump_registers fr ad N f))), (qm, .inl (g.2.1.1, 4096, .inl fm)), (h, .inr (0, [.ref q, .int len])), (q, .inl (g.2.1.1, N, .inl f))]) 0 0 := by
  intro sz
  refine Met.ofW (cc := cX1_jump) (maxL := 6) (ret := none) (by decide) rfl ?_
  intro p e s m args below meth c s₁ B hml hv
  obtain ⟨rfl, hsz, hP, hK, hD0, hE, hN⟩ := hv
  have hx := B.exec
  have hb := B.bytes
  have hr := B.returns
  have hts := atoms_spec (ws := wsX1_jump) B.pre
  have hown : s.vm.findClass RX1 = some m.cls := findClass_of_methodNamed B.named
  have hlocks := B.notSynchronized
  have iX1 : ∀ w ∈ u_ws RX1 TX1 9, w ∈ wsX1_jump := by decide +kernel
  subst hsz
  have hD := hD0.self (sz := s.heap.size)
  generalize hAe : va_A [(hM, .inr (1, [.int base, .ref qr, .ref qm, .int ad, .int sn, .int sy, .int sl, .int rg, .int ly])), (qr, .inl (g.2.1.1, 8, .inl fr)), (qm, .inl (g.2.1.1, 4096, .inl fm)), (h, .inr (0, [.ref q, .int len])), (q, .inl (g.2.1.1, N, .inl f))] s.heap.size = A at hD hE ⊢
  have hA : ∀ q : Nat, s.heap.size ≤ q → A q := fun q h => by rw [← hAe]; exact Or.inr h
  have hS : va_S A s.heap s.heap [] := va_S.rf
  have hl := lv_entry ([.ref hM, .ref h, .int pr]) (n := 6) (Nat.le_of_ble_eq_true rfl)
  rw [lg_entry_eq]
  generalize (lg_sl ([.ref hM, .ref h, .int pr]) ++ List.replicate (6 - (lg_sl ([.ref hM, .ref h, .int pr])).length) Slot.unset).toArray = ls at hl ⊢
  have hl : lv_has ls 6 [(0, .ref hM), (1, .ref h), (2, .int pr)] := hl
  refine lv_aload_n hx hb dX1_jump_0 rfl (lv_at hl 1 rfl) ?_
  refine lv_aload_n hx hb dX1_jump_1 rfl (lv_at hl 0 rfl) ?_
  refine va_get (D := g.1) (ci := 1) (v := .int ad) (C := RX1) (T := TX1) (N := 9) hx hb hts iX1 hown hK hP 0 rfl rfl 3 (by decide) (hts (.fieldLink RX1 25 "FaultIsolation$Machine" "address" "I") (by decide +kernel)) (fun _ h9 => h9) rfl dX1_jump_2 ?_
  refine kiV (As := [.int ad]) (rest := []) (wc := [(h, .inr (0, [.ref q, .int len])), (q, .inl (g.2.1.1, N, .inl f))]) (wr := [(hM, .inr (1, [.int base, .ref qr, .ref qm, .int ad, .int sn, .int sy, .int sl, .int rg, .int ly])), (qr, .inl (g.2.1.1, 8, .inl fr)), (qm, .inl (g.2.1.1, 4096, .inl fm))]) ⟨hx, hb, hml, hown, hts⟩ (c_X0_word l g h q N f len ad hNn) (cwV 1 hts gX1_jump_X0_word rfl rfl rfl (by decide +kernel) ⟨Nat.le_of_ble_eq_true rfl, Nat.le_of_ble_eq_true rfl⟩) ⟨hK, hP, hD, hS, hA, hE, hN⟩ [3, 4] [0, 1, 2] ⟨rfl, rfl, by decide⟩ (q0 := 3) (ci := 0) rfl rfl rfl rfl hl.1 (Nat.le_of_ble_eq_true rfl) dX1_jump_5 ⟨Nat.le_of_ble_eq_true rfl, Nat.le_of_ble_eq_true rfl⟩ rfl (fun r u H locs hw hP hD hS => ?_)
  obtain ⟨hq, hw⟩ := hw
  subst r
  subst hw
  have hP := hP.sub (ws' := [(hM, .inr (1, [.int base, .ref qr, .ref qm, .int ad, .int sn, .int sy, .int sl, .int rg, .int ly])), (qr, .inl (g.2.1.1, 8, .inl fr)), (qm, .inl (g.2.1.1, 4096, .inl fm)), (h, .inr (0, [.ref q, .int len])), (q, .inl (g.2.1.1, N, .inl f))]) [0, 1, 2, 3, 4] rfl
  have hD := hD.sub (ws' := [(hM, .inr (1, [.int base, .ref qr, .ref qm, .int ad, .int sn, .int sy, .int sl, .int rg, .int ly])), (qr, .inl (g.2.1.1, 8, .inl fr)), (qm, .inl (g.2.1.1, 4096, .inl fm)), (h, .inr (0, [.ref q, .int len])), (q, .inl (g.2.1.1, N, .inl f))]) [0, 1, 2, 3, 4] (by decide) rfl
  refine lv_istore_n (lv' := [(3, .int (sp_X0_word N f ad)), (0, .ref hM), (1, .ref h), (2, .int pr)]) hx hb dX1_jump_8 rfl hl (by decide) rfl (fun ls hl => ?_)
  refine lv_aload_n hx hb dX1_jump_9 rfl (lv_at hl 1 rfl) ?_
  refine va_get (D := g.1) (ci := 1) (v := .int ad) (C := RX1) (T := TX1) (N := 9) hx hb hts iX1 hown hK hP 0 rfl rfl 3 (by decide) (hts (.fieldLink RX1 25 "FaultIsolation$Machine" "address" "I") (by decide +kernel)) (fun _ h9 => h9) rfl dX1_jump_10 ?_
  refine lv_iconst (v := 4) hx hb dX1_jump_13 (by decide) ?_
  refine lv_iadd hx hb dX1_jump_14 ?_
  refine lv_istore (lv' := [(4, .int (ad + 4)), (3, .int (sp_X0_word N f ad)), (0, .ref hM), (1, .ref h), (2, .int pr)]) hx hb dX1_jump_15 hl (by decide) rfl (fun ls hl => ?_)
  refine lv_iload_n hx hb dX1_jump_17 rfl (lv_at hl 1 rfl) ?_
  refine lv_bipush (v := 13) hx hb dX1_jump_18 (by decide) ?_
  refine lv_icmp_ne (tgt := 45) hx hb dX1_jump_20 (by decide) (fun c_0 => ?_) (fun c_0 => ?_)
  · skip
    refine lv_iload_n hx hb dX1_jump_45 rfl (lv_at hl 4 rfl) ?_
    refine lv_if_eq (tgt := 62) hx hb dX1_jump_46 (by decide) (fun c_1 => ?_) (fun c_1 => ?_)
    · skip
      refine lv_aload_n hx hb dX1_jump_62 rfl (lv_at hl 3 rfl) ?_
      refine lv_aload_n hx hb dX1_jump_63 rfl (lv_at hl 2 rfl) ?_
      refine va_get (D := g.1) (ci := 1) (v := .int ad) (C := RX1) (T := TX1) (N := 9) hx hb hts iX1 hown hK hP 0 rfl rfl 3 (by decide) (hts (.fieldLink RX1 25 "FaultIsolation$Machine" "address" "I") (by decide +kernel)) (fun _ h9 => h9) rfl dX1_jump_64 ?_
      refine kiV (As := [.int ad]) (rest := []) (wc := [(h, .inr (0, [.ref q, .int len])), (q, .inl (g.2.1.1, N, .inl f))]) (wr := [(hM, .inr (1, [.int base, .ref qr, .ref qm, .int ad, .int sn, .int sy, .int sl, .int rg, .int ly])), (qr, .inl (g.2.1.1, 8, .inl fr)), (qm, .inl (g.2.1.1, 4096, .inl fm))]) ⟨hx, hb, hml, hown, hts⟩ (c_X0_n l g h q N f len ad hNn) (cwV 1 hts gX1_jump_X0_n rfl rfl rfl (by decide +kernel) ⟨Nat.le_of_ble_eq_true rfl, Nat.le_of_ble_eq_true rfl⟩) ⟨hK, hP, hD, hS, hA, hE, hN⟩ [3, 4] [0, 1, 2] ⟨rfl, rfl, by decide⟩ (q0 := 3) (ci := 0) rfl rfl rfl rfl hl.1 (Nat.le_of_ble_eq_true rfl) dX1_jump_67 ⟨Nat.le_of_ble_eq_true rfl, Nat.le_of_ble_eq_true rfl⟩ rfl (fun r u H locs hw hP hD hS => ?_)
      obtain ⟨hq, hw⟩ := hw
      subst r
      subst hw
      have hP := hP.sub (ws' := [(hM, .inr (1, [.int base, .ref qr, .ref qm, .int ad, .int sn, .int sy, .int sl, .int rg, .int ly])), (qr, .inl (g.2.1.1, 8, .inl fr)), (qm, .inl (g.2.1.1, 4096, .inl fm)), (h, .inr (0, [.ref q, .int len])), (q, .inl (g.2.1.1, N, .inl f))]) [0, 1, 2, 3, 4] rfl
      have hD := hD.sub (ws' := [(hM, .inr (1, [.int base, .ref qr, .ref qm, .int ad, .int sn, .int sy, .int sl, .int rg, .int ly])), (qr, .inl (g.2.1.1, 8, .inl fr)), (qm, .inl (g.2.1.1, 4096, .inl fm)), (h, .inr (0, [.ref q, .int len])), (q, .inl (g.2.1.1, N, .inl f))]) [0, 1, 2, 3, 4] (by decide) rfl
      refine lv_istore (lv' := [(5, .int (sp_X0_n N f ad)), (4, .int (ad + 4)), (3, .int (sp_X0_word N f ad)), (0, .ref hM), (1, .ref h), (2, .int pr)]) hx hb dX1_jump_70 hl (by decide) rfl (fun ls hl => ?_)
      refine lv_iload_n hx hb dX1_jump_72 rfl (lv_at hl 2 rfl) ?_
      refine lv_bipush (v := 14) hx hb dX1_jump_73 (by decide) ?_
      refine lv_icmp_ne (tgt := 92) hx hb dX1_jump_75 (by decide) (fun c_2 => ?_) (fun c_2 => ?_)
      · skip
        refine lv_iload_n hx hb dX1_jump_92 rfl (lv_at hl 2 rfl) ?_
        refine lv_bipush (v := 15) hx hb dX1_jump_93 (by decide) ?_
        refine lv_icmp_ne (tgt := 106) hx hb dX1_jump_95 (by decide) (fun c_3 => ?_) (fun c_3 => ?_)
        · skip
          refine lv_iload hx hb dX1_jump_106 (lv_at hl 0 rfl) ?_
          refine kiSN (As := [.int (sp_X0_n N f ad)]) (rest := []) (wc := []) (wr := [(hM, .inr (1, [.int base, .ref qr, .ref qm, .int ad, .int sn, .int sy, .int sl, .int rg, .int ly])), (qr, .inl (g.2.1.1, 8, .inl fr)), (qm, .inl (g.2.1.1, 4096, .inl fm)), (h, .inr (0, [.ref q, .int len])), (q, .inl (g.2.1.1, N, .inl f))]) ⟨hx, hb, hml, hown, hts⟩ (c_X5_isBundleStart l g (sp_X0_n N f ad)) ⟨va_cnB (host := RX5) 1 hts gX1_jump_X5_isBundleStart_n105 rfl rfl rfl (hN.1 (RX1, 105, yX5_isBundleStart) (List.mem_of_getElem? (i := 2) rfl)) (hts (.initialized RX5) (by decide +kernel)) (by decide +kernel) ⟨Nat.le_of_ble_eq_true rfl, Nat.le_of_ble_eq_true rfl⟩, hts (.static yX5_isBundleStart) (by decide +kernel), trivial⟩ ⟨hK, hP, hD, hS, hA, hE, hN⟩ [] [0, 1, 2, 3, 4] ⟨rfl, rfl, by decide⟩ rfl hl.1 (Nat.le_of_ble_eq_true rfl) dX1_jump_108 ⟨Nat.le_of_ble_eq_true rfl, Nat.le_of_ble_eq_true rfl⟩ rfl (fun r u H locs hw hP hD hS => ?_)
          obtain ⟨hq, hw⟩ := hw
          subst r
          subst hw
          have hP := hP.sub (ws' := [(hM, .inr (1, [.int base, .ref qr, .ref qm, .int ad, .int sn, .int sy, .int sl, .int rg, .int ly])), (qr, .inl (g.2.1.1, 8, .inl fr)), (qm, .inl (g.2.1.1, 4096, .inl fm)), (h, .inr (0, [.ref q, .int len])), (q, .inl (g.2.1.1, N, .inl f))]) [0, 1, 2, 3, 4] rfl
          have hD := hD.sub (ws' := [(hM, .inr (1, [.int base, .ref qr, .ref qm, .int ad, .int sn, .int sy, .int sl, .int rg, .int ly])), (qr, .inl (g.2.1.1, 8, .inl fr)), (qm, .inl (g.2.1.1, 4096, .inl fm)), (h, .inr (0, [.ref q, .int len])), (q, .inl (g.2.1.1, N, .inl f))]) [0, 1, 2, 3, 4] (by decide) rfl
          refine lv_if_ne (tgt := 124) hx hb dX1_jump_111 (by decide) (fun c_4 => ?_) (fun c_4 => ?_)
          · skip
            refine lv_aload_n hx hb dX1_jump_124 rfl (lv_at hl 3 rfl) ?_
            refine lv_iload hx hb dX1_jump_125 (lv_at hl 0 rfl) ?_
            refine va_put (D := g.1) (ci := 1) (v := .int (sp_X0_n N f ad)) (ty := .int) (C := RX1) (T := TX1) (N := 9) hx hb hts iX1 tyX1 tyX1_ok nmX1 hown hK hP hD hS 0 rfl rfl 3 (by decide) (hts (.fieldLink RX1 25 "FaultIsolation$Machine" "address" "I") (by decide +kernel)) (fun _ h9 => h9) rfl (by decide +kernel) rfl rfl (Nat.le_of_ble_eq_true rfl) dX1_jump_127 (fun H locs hP hD hS => ?_)
            have hP : va_P g.1 vwCl [(hM, .inr (1, [.int base, .ref qr, .ref qm, .int (sp_X0_n N f ad), .int sn, .int sy, .int sl, .int rg, .int ly])), (qr, .inl (g.2.1.1, 8, .inl fr)), (qm, .inl (g.2.1.1, 4096, .inl fm)), (h, .inr (0, [.ref q, .int len])), (q, .inl (g.2.1.1, N, .inl f))] H := hP
            have hD : va_D A [(hM, .inr (1, [.int base, .ref qr, .ref qm, .int (sp_X0_n N f ad), .int sn, .int sy, .int sl, .int rg, .int ly])), (qr, .inl (g.2.1.1, 8, .inl fr)), (qm, .inl (g.2.1.1, 4096, .inl fm)), (h, .inr (0, [.ref q, .int len])), (q, .inl (g.2.1.1, N, .inl f))] := hD
            exact k_vret hx hb hr hlocks ⟨hK, hP, hD, hS, hA, hE, hN⟩ dX1_jump_130 (Nat.le_of_ble_eq_true rfl) (Nat.le_of_ble_eq_true rfl) (by simp only [sp_X1_jump_address, sp_X1_jump_slips, sp_X1_jump_registers, if_neg c_0, if_pos c_1, if_neg c_2, if_neg c_3, if_neg c_4])
          · skip
            refine lv_aload_n hx hb dX1_jump_114 rfl (lv_at hl 3 rfl) ?_
            refine lv_dup hx hb dX1_jump_115 rfl ?_
            refine va_get (D := g.1) (ci := 1) (v := .int sl) (C := RX1) (T := TX1) (N := 9) hx hb hts iX1 hown hK hP 0 rfl rfl 6 (by decide) (hts (.fieldLink RX1 34 "FaultIsolation$Machine" "slips" "I") (by decide +kernel)) (fun _ h9 => h9) rfl dX1_jump_116 ?_
            refine lv_iconst (v := 1) hx hb dX1_jump_119 (by decide) ?_
            refine lv_iadd hx hb dX1_jump_120 ?_
            refine va_put (D := g.1) (ci := 1) (v := .int (sl + 1)) (ty := .int) (C := RX1) (T := TX1) (N := 9) hx hb hts iX1 tyX1 tyX1_ok nmX1 hown hK hP hD hS 0 rfl rfl 6 (by decide) (hts (.fieldLink RX1 34 "FaultIsolation$Machine" "slips" "I") (by decide +kernel)) (fun _ h9 => h9) rfl (by decide +kernel) rfl rfl (Nat.le_of_ble_eq_true rfl) dX1_jump_121 (fun H locs hP hD hS => ?_)
            have hP : va_P g.1 vwCl [(hM, .inr (1, [.int base, .ref qr, .ref qm, .int ad, .int sn, .int sy, .int (sl + 1), .int rg, .int ly])), (qr, .inl (g.2.1.1, 8, .inl fr)), (qm, .inl (g.2.1.1, 4096, .inl fm)), (h, .inr (0, [.ref q, .int len])), (q, .inl (g.2.1.1, N, .inl f))] H := hP
            have hD : va_D A [(hM, .inr (1, [.int base, .ref qr, .ref qm, .int ad, .int sn, .int sy, .int (sl + 1), .int rg, .int ly])), (qr, .inl (g.2.1.1, 8, .inl fr)), (qm, .inl (g.2.1.1, 4096, .inl fm)), (h, .inr (0, [.ref q, .int len])), (q, .inl (g.2.1.1, N, .inl f))] := hD
            refine lv_aload_n hx hb dX1_jump_124 rfl (lv_at hl 3 rfl) ?_
            refine lv_iload hx hb dX1_jump_125 (lv_at hl 0 rfl) ?_
            refine va_put (D := g.1) (ci := 1) (v := .int (sp_X0_n N f ad)) (ty := .int) (C := RX1) (T := TX1) (N := 9) hx hb hts iX1 tyX1 tyX1_ok nmX1 hown hK hP hD hS 0 rfl rfl 3 (by decide) (hts (.fieldLink RX1 25 "FaultIsolation$Machine" "address" "I") (by decide +kernel)) (fun _ h9 => h9) rfl (by decide +kernel) rfl rfl (Nat.le_of_ble_eq_true rfl) dX1_jump_127 (fun H locs hP hD hS => ?_)
            have hP : va_P g.1 vwCl [(hM, .inr (1, [.int base, .ref qr, .ref qm, .int (sp_X0_n N f ad), .int sn, .int sy, .int (sl + 1), .int rg, .int ly])), (qr, .inl (g.2.1.1, 8, .inl fr)), (qm, .inl (g.2.1.1, 4096, .inl fm)), (h, .inr (0, [.ref q, .int len])), (q, .inl (g.2.1.1, N, .inl f))] H := hP
            have hD : va_D A [(hM, .inr (1, [.int base, .ref qr, .ref qm, .int (sp_X0_n N f ad), .int sn, .int sy, .int (sl + 1), .int rg, .int ly])), (qr, .inl (g.2.1.1, 8, .inl fr)), (qm, .inl (g.2.1.1, 4096, .inl fm)), (h, .inr (0, [.ref q, .int len])), (q, .inl (g.2.1.1, N, .inl f))] := hD
            exact k_vret hx hb hr hlocks ⟨hK, hP, hD, hS, hA, hE, hN⟩ dX1_jump_130 (Nat.le_of_ble_eq_true rfl) (Nat.le_of_ble_eq_true rfl) (by simp only [sp_X1_jump_address, sp_X1_jump_slips, sp_X1_jump_registers, if_neg c_0, if_pos c_1, if_neg c_2, if_neg c_3, if_pos c_4])
        · skip
          refine lv_aload_n hx hb dX1_jump_98 rfl (lv_at hl 3 rfl) ?_
          refine lv_bipush (v := 7) hx hb dX1_jump_99 (by decide) ?_
          refine lv_iload hx hb dX1_jump_101 (lv_at hl 1 rfl) ?_
          refine kvV (As := [.int 7, .int (ad + 4)]) (rest := []) (wc := [(hM, .inr (1, [.int base, .ref qr, .ref qm, .int ad, .int sn, .int sy, .int sl, .int rg, .int ly])), (qr, .inl (g.2.1.1, 8, .inl fr)), (qm, .inl (g.2.1.1, 4096, .inl fm))]) (wr := [(h, .inr (0, [.ref q, .int len])), (q, .inl (g.2.1.1, N, .inl f))]) ⟨hx, hb, hml, hown, hts⟩ (c_X1_change l g hM qr qm fr fm base ad sn sy sl rg ly 7 (ad + 4)) (cwV 2 hts gX1_jump_X1_change rfl rfl rfl (by decide +kernel) ⟨Nat.le_of_ble_eq_true rfl, Nat.le_of_ble_eq_true rfl⟩) ⟨hK, hP, hD, hS, hA, hE, hN⟩ [0, 1, 2] [3, 4] ⟨rfl, rfl, by decide⟩ (q0 := 0) (ci := 1) rfl rfl rfl rfl hl.1 (Nat.le_of_ble_eq_true rfl) dX1_jump_103 ⟨Nat.le_of_ble_eq_true rfl, Nat.le_of_ble_eq_true rfl⟩ rfl (fun u H locs hw hP hD hS => ?_)
          subst hw
          have hP := hP.sub (ws' := [(hM, .inr (1, [.int base, .ref qr, .ref qm, .int ad, .int sn, .int sy, .int sl, .int rg, .int ly])), (qr, .inl (g.2.1.1, 8, .inl (sp_X1_change_registers fr 7 (ad + 4)))), (qm, .inl (g.2.1.1, 4096, .inl fm)), (h, .inr (0, [.ref q, .int len])), (q, .inl (g.2.1.1, N, .inl f))]) [2, 3, 4, 0, 1] rfl
          have hD := hD.sub (ws' := [(hM, .inr (1, [.int base, .ref qr, .ref qm, .int ad, .int sn, .int sy, .int sl, .int rg, .int ly])), (qr, .inl (g.2.1.1, 8, .inl (sp_X1_change_registers fr 7 (ad + 4)))), (qm, .inl (g.2.1.1, 4096, .inl fm)), (h, .inr (0, [.ref q, .int len])), (q, .inl (g.2.1.1, N, .inl f))]) [2, 3, 4, 0, 1] (by decide) rfl
          refine lv_iload hx hb dX1_jump_106 (lv_at hl 0 rfl) ?_
          refine kiSN (As := [.int (sp_X0_n N f ad)]) (rest := []) (wc := []) (wr := [(hM, .inr (1, [.int base, .ref qr, .ref qm, .int ad, .int sn, .int sy, .int sl, .int rg, .int ly])), (qr, .inl (g.2.1.1, 8, .inl (sp_X1_change_registers fr 7 (ad + 4)))), (qm, .inl (g.2.1.1, 4096, .inl fm)), (h, .inr (0, [.ref q, .int len])), (q, .inl (g.2.1.1, N, .inl f))]) ⟨hx, hb, hml, hown, hts⟩ (c_X5_isBundleStart l g (sp_X0_n N f ad)) ⟨va_cnB (host := RX5) 1 hts gX1_jump_X5_isBundleStart_n105 rfl rfl rfl (hN.1 (RX1, 105, yX5_isBundleStart) (List.mem_of_getElem? (i := 2) rfl)) (hts (.initialized RX5) (by decide +kernel)) (by decide +kernel) ⟨Nat.le_of_ble_eq_true rfl, Nat.le_of_ble_eq_true rfl⟩, hts (.static yX5_isBundleStart) (by decide +kernel), trivial⟩ ⟨hK, hP, hD, hS, hA, hE, hN⟩ [] [0, 1, 2, 3, 4] ⟨rfl, rfl, by decide⟩ rfl hl.1 (Nat.le_of_ble_eq_true rfl) dX1_jump_108 ⟨Nat.le_of_ble_eq_true rfl, Nat.le_of_ble_eq_true rfl⟩ rfl (fun r u H locs hw hP hD hS => ?_)
          obtain ⟨hq, hw⟩ := hw
          subst r
          subst hw
          have hP := hP.sub (ws' := [(hM, .inr (1, [.int base, .ref qr, .ref qm, .int ad, .int sn, .int sy, .int sl, .int rg, .int ly])), (qr, .inl (g.2.1.1, 8, .inl (sp_X1_change_registers fr 7 (ad + 4)))), (qm, .inl (g.2.1.1, 4096, .inl fm)), (h, .inr (0, [.ref q, .int len])), (q, .inl (g.2.1.1, N, .inl f))]) [0, 1, 2, 3, 4] rfl
          have hD := hD.sub (ws' := [(hM, .inr (1, [.int base, .ref qr, .ref qm, .int ad, .int sn, .int sy, .int sl, .int rg, .int ly])), (qr, .inl (g.2.1.1, 8, .inl (sp_X1_change_registers fr 7 (ad + 4)))), (qm, .inl (g.2.1.1, 4096, .inl fm)), (h, .inr (0, [.ref q, .int len])), (q, .inl (g.2.1.1, N, .inl f))]) [0, 1, 2, 3, 4] (by decide) rfl
          refine lv_if_ne (tgt := 124) hx hb dX1_jump_111 (by decide) (fun c_5 => ?_) (fun c_5 => ?_)
          · skip
            refine lv_aload_n hx hb dX1_jump_124 rfl (lv_at hl 3 rfl) ?_
            refine lv_iload hx hb dX1_jump_125 (lv_at hl 0 rfl) ?_
            refine va_put (D := g.1) (ci := 1) (v := .int (sp_X0_n N f ad)) (ty := .int) (C := RX1) (T := TX1) (N := 9) hx hb hts iX1 tyX1 tyX1_ok nmX1 hown hK hP hD hS 0 rfl rfl 3 (by decide) (hts (.fieldLink RX1 25 "FaultIsolation$Machine" "address" "I") (by decide +kernel)) (fun _ h9 => h9) rfl (by decide +kernel) rfl rfl (Nat.le_of_ble_eq_true rfl) dX1_jump_127 (fun H locs hP hD hS => ?_)
            have hP : va_P g.1 vwCl [(hM, .inr (1, [.int base, .ref qr, .ref qm, .int (sp_X0_n N f ad), .int sn, .int sy, .int sl, .int rg, .int ly])), (qr, .inl (g.2.1.1, 8, .inl (sp_X1_change_registers fr 7 (ad + 4)))), (qm, .inl (g.2.1.1, 4096, .inl fm)), (h, .inr (0, [.ref q, .int len])), (q, .inl (g.2.1.1, N, .inl f))] H := hP
            have hD : va_D A [(hM, .inr (1, [.int base, .ref qr, .ref qm, .int (sp_X0_n N f ad), .int sn, .int sy, .int sl, .int rg, .int ly])), (qr, .inl (g.2.1.1, 8, .inl (sp_X1_change_registers fr 7 (ad + 4)))), (qm, .inl (g.2.1.1, 4096, .inl fm)), (h, .inr (0, [.ref q, .int len])), (q, .inl (g.2.1.1, N, .inl f))] := hD
            exact k_vret hx hb hr hlocks ⟨hK, hP, hD, hS, hA, hE, hN⟩ dX1_jump_130 (Nat.le_of_ble_eq_true rfl) (Nat.le_of_ble_eq_true rfl) (by simp only [sp_X1_jump_address, sp_X1_jump_slips, sp_X1_jump_registers, if_neg c_0, if_pos c_1, if_neg c_2, if_pos c_3, if_neg c_5])
          · skip
            refine lv_aload_n hx hb dX1_jump_114 rfl (lv_at hl 3 rfl) ?_
            refine lv_dup hx hb dX1_jump_115 rfl ?_
            refine va_get (D := g.1) (ci := 1) (v := .int sl) (C := RX1) (T := TX1) (N := 9) hx hb hts iX1 hown hK hP 0 rfl rfl 6 (by decide) (hts (.fieldLink RX1 34 "FaultIsolation$Machine" "slips" "I") (by decide +kernel)) (fun _ h9 => h9) rfl dX1_jump_116 ?_
            refine lv_iconst (v := 1) hx hb dX1_jump_119 (by decide) ?_
            refine lv_iadd hx hb dX1_jump_120 ?_
            refine va_put (D := g.1) (ci := 1) (v := .int (sl + 1)) (ty := .int) (C := RX1) (T := TX1) (N := 9) hx hb hts iX1 tyX1 tyX1_ok nmX1 hown hK hP hD hS 0 rfl rfl 6 (by decide) (hts (.fieldLink RX1 34 "FaultIsolation$Machine" "slips" "I") (by decide +kernel)) (fun _ h9 => h9) rfl (by decide +kernel) rfl rfl (Nat.le_of_ble_eq_true rfl) dX1_jump_121 (fun H locs hP hD hS => ?_)
            have hP : va_P g.1 vwCl [(hM, .inr (1, [.int base, .ref qr, .ref qm, .int ad, .int sn, .int sy, .int (sl + 1), .int rg, .int ly])), (qr, .inl (g.2.1.1, 8, .inl (sp_X1_change_registers fr 7 (ad + 4)))), (qm, .inl (g.2.1.1, 4096, .inl fm)), (h, .inr (0, [.ref q, .int len])), (q, .inl (g.2.1.1, N, .inl f))] H := hP
            have hD : va_D A [(hM, .inr (1, [.int base, .ref qr, .ref qm, .int ad, .int sn, .int sy, .int (sl + 1), .int rg, .int ly])), (qr, .inl (g.2.1.1, 8, .inl (sp_X1_change_registers fr 7 (ad + 4)))), (qm, .inl (g.2.1.1, 4096, .inl fm)), (h, .inr (0, [.ref q, .int len])), (q, .inl (g.2.1.1, N, .inl f))] := hD
            refine lv_aload_n hx hb dX1_jump_124 rfl (lv_at hl 3 rfl) ?_
            refine lv_iload hx hb dX1_jump_125 (lv_at hl 0 rfl) ?_
            refine va_put (D := g.1) (ci := 1) (v := .int (sp_X0_n N f ad)) (ty := .int) (C := RX1) (T := TX1) (N := 9) hx hb hts iX1 tyX1 tyX1_ok nmX1 hown hK hP hD hS 0 rfl rfl 3 (by decide) (hts (.fieldLink RX1 25 "FaultIsolation$Machine" "address" "I") (by decide +kernel)) (fun _ h9 => h9) rfl (by decide +kernel) rfl rfl (Nat.le_of_ble_eq_true rfl) dX1_jump_127 (fun H locs hP hD hS => ?_)
            have hP : va_P g.1 vwCl [(hM, .inr (1, [.int base, .ref qr, .ref qm, .int (sp_X0_n N f ad), .int sn, .int sy, .int (sl + 1), .int rg, .int ly])), (qr, .inl (g.2.1.1, 8, .inl (sp_X1_change_registers fr 7 (ad + 4)))), (qm, .inl (g.2.1.1, 4096, .inl fm)), (h, .inr (0, [.ref q, .int len])), (q, .inl (g.2.1.1, N, .inl f))] H := hP
            have hD : va_D A [(hM, .inr (1, [.int base, .ref qr, .ref qm, .int (sp_X0_n N f ad), .int sn, .int sy, .int (sl + 1), .int rg, .int ly])), (qr, .inl (g.2.1.1, 8, .inl (sp_X1_change_registers fr 7 (ad + 4)))), (qm, .inl (g.2.1.1, 4096, .inl fm)), (h, .inr (0, [.ref q, .int len])), (q, .inl (g.2.1.1, N, .inl f))] := hD
            exact k_vret hx hb hr hlocks ⟨hK, hP, hD, hS, hA, hE, hN⟩ dX1_jump_130 (Nat.le_of_ble_eq_true rfl) (Nat.le_of_ble_eq_true rfl) (by simp only [sp_X1_jump_address, sp_X1_jump_slips, sp_X1_jump_registers, if_neg c_0, if_pos c_1, if_neg c_2, if_pos c_3, if_pos c_5])
      · skip
        refine lv_aload_n hx hb dX1_jump_78 rfl (lv_at hl 3 rfl) ?_
        refine lv_aload_n hx hb dX1_jump_79 rfl (lv_at hl 4 rfl) ?_
        refine lv_aload_n hx hb dX1_jump_80 rfl (lv_at hl 3 rfl) ?_
        refine va_get (D := g.1) (ci := 1) (v := .int ad) (C := RX1) (T := TX1) (N := 9) hx hb hts iX1 hown hK hP 0 rfl rfl 3 (by decide) (hts (.fieldLink RX1 25 "FaultIsolation$Machine" "address" "I") (by decide +kernel)) (fun _ h9 => h9) rfl dX1_jump_81 ?_
        refine kiV (As := [.int ad]) (rest := [.ref hM]) (wc := [(h, .inr (0, [.ref q, .int len])), (q, .inl (g.2.1.1, N, .inl f))]) (wr := [(hM, .inr (1, [.int base, .ref qr, .ref qm, .int ad, .int sn, .int sy, .int sl, .int rg, .int ly])), (qr, .inl (g.2.1.1, 8, .inl fr)), (qm, .inl (g.2.1.1, 4096, .inl fm))]) ⟨hx, hb, hml, hown, hts⟩ (c_X0_a l g h q N f len ad hNn) (cwV 1 hts gX1_jump_X0_a rfl rfl rfl (by decide +kernel) ⟨Nat.le_of_ble_eq_true rfl, Nat.le_of_ble_eq_true rfl⟩) ⟨hK, hP, hD, hS, hA, hE, hN⟩ [3, 4] [0, 1, 2] ⟨rfl, rfl, by decide⟩ (q0 := 3) (ci := 0) rfl rfl rfl rfl hl.1 (Nat.le_of_ble_eq_true rfl) dX1_jump_84 ⟨Nat.le_of_ble_eq_true rfl, Nat.le_of_ble_eq_true rfl⟩ rfl (fun r u H locs hw hP hD hS => ?_)
        obtain ⟨hq, hw⟩ := hw
        subst r
        subst hw
        have hP := hP.sub (ws' := [(hM, .inr (1, [.int base, .ref qr, .ref qm, .int ad, .int sn, .int sy, .int sl, .int rg, .int ly])), (qr, .inl (g.2.1.1, 8, .inl fr)), (qm, .inl (g.2.1.1, 4096, .inl fm)), (h, .inr (0, [.ref q, .int len])), (q, .inl (g.2.1.1, N, .inl f))]) [0, 1, 2, 3, 4] rfl
        have hD := hD.sub (ws' := [(hM, .inr (1, [.int base, .ref qr, .ref qm, .int ad, .int sn, .int sy, .int sl, .int rg, .int ly])), (qr, .inl (g.2.1.1, 8, .inl fr)), (qm, .inl (g.2.1.1, 4096, .inl fm)), (h, .inr (0, [.ref q, .int len])), (q, .inl (g.2.1.1, N, .inl f))]) [0, 1, 2, 3, 4] (by decide) rfl
        refine kiV (As := [.int (sp_X0_a N f ad)]) (rest := []) (wc := [(hM, .inr (1, [.int base, .ref qr, .ref qm, .int ad, .int sn, .int sy, .int sl, .int rg, .int ly])), (qr, .inl (g.2.1.1, 8, .inl fr)), (qm, .inl (g.2.1.1, 4096, .inl fm))]) (wr := [(h, .inr (0, [.ref q, .int len])), (q, .inl (g.2.1.1, N, .inl f))]) ⟨hx, hb, hml, hown, hts⟩ (c_X1_valueOf l g hM qr qm fr fm base ad sn sy sl rg ly (sp_X0_a N f ad)) (cwV 1 hts gX1_jump_X1_valueOf rfl rfl rfl (by decide +kernel) ⟨Nat.le_of_ble_eq_true rfl, Nat.le_of_ble_eq_true rfl⟩) ⟨hK, hP, hD, hS, hA, hE, hN⟩ [0, 1, 2] [3, 4] ⟨rfl, rfl, by decide⟩ (q0 := 0) (ci := 1) rfl rfl rfl rfl hl.1 (Nat.le_of_ble_eq_true rfl) dX1_jump_87 ⟨Nat.le_of_ble_eq_true rfl, Nat.le_of_ble_eq_true rfl⟩ rfl (fun r u H locs hw hP hD hS => ?_)
        obtain ⟨hq, hw⟩ := hw
        subst r
        subst hw
        have hP := hP.sub (ws' := [(hM, .inr (1, [.int base, .ref qr, .ref qm, .int ad, .int sn, .int sy, .int sl, .int rg, .int ly])), (qr, .inl (g.2.1.1, 8, .inl fr)), (qm, .inl (g.2.1.1, 4096, .inl fm)), (h, .inr (0, [.ref q, .int len])), (q, .inl (g.2.1.1, N, .inl f))]) [2, 3, 4, 0, 1] rfl
        have hD := hD.sub (ws' := [(hM, .inr (1, [.int base, .ref qr, .ref qm, .int ad, .int sn, .int sy, .int sl, .int rg, .int ly])), (qr, .inl (g.2.1.1, 8, .inl fr)), (qm, .inl (g.2.1.1, 4096, .inl fm)), (h, .inr (0, [.ref q, .int len])), (q, .inl (g.2.1.1, N, .inl f))]) [2, 3, 4, 0, 1] (by decide) rfl
        refine lv_istore (lv' := [(5, .int (sp_X1_valueOf fr (sp_X0_a N f ad))), (4, .int (ad + 4)), (3, .int (sp_X0_word N f ad)), (0, .ref hM), (1, .ref h), (2, .int pr)]) hx hb dX1_jump_90 hl (by decide) rfl (fun ls hl => ?_)
        refine lv_iload_n hx hb dX1_jump_92 rfl (lv_at hl 2 rfl) ?_
        refine lv_bipush (v := 15) hx hb dX1_jump_93 (by decide) ?_
        refine lv_icmp_ne (tgt := 106) hx hb dX1_jump_95 (by decide) (fun c_6 => ?_) (fun c_6 => ?_)
        · skip
          refine lv_iload hx hb dX1_jump_106 (lv_at hl 0 rfl) ?_
          refine kiSN (As := [.int (sp_X1_valueOf fr (sp_X0_a N f ad))]) (rest := []) (wc := []) (wr := [(hM, .inr (1, [.int base, .ref qr, .ref qm, .int ad, .int sn, .int sy, .int sl, .int rg, .int ly])), (qr, .inl (g.2.1.1, 8, .inl fr)), (qm, .inl (g.2.1.1, 4096, .inl fm)), (h, .inr (0, [.ref q, .int len])), (q, .inl (g.2.1.1, N, .inl f))]) ⟨hx, hb, hml, hown, hts⟩ (c_X5_isBundleStart l g (sp_X1_valueOf fr (sp_X0_a N f ad))) ⟨va_cnB (host := RX5) 1 hts gX1_jump_X5_isBundleStart_n105 rfl rfl rfl (hN.1 (RX1, 105, yX5_isBundleStart) (List.mem_of_getElem? (i := 2) rfl)) (hts (.initialized RX5) (by decide +kernel)) (by decide +kernel) ⟨Nat.le_of_ble_eq_true rfl, Nat.le_of_ble_eq_true rfl⟩, hts (.static yX5_isBundleStart) (by decide +kernel), trivial⟩ ⟨hK, hP, hD, hS, hA, hE, hN⟩ [] [0, 1, 2, 3, 4] ⟨rfl, rfl, by decide⟩ rfl hl.1 (Nat.le_of_ble_eq_true rfl) dX1_jump_108 ⟨Nat.le_of_ble_eq_true rfl, Nat.le_of_ble_eq_true rfl⟩ rfl (fun r u H locs hw hP hD hS => ?_)
          obtain ⟨hq, hw⟩ := hw
          subst r
          subst hw
          have hP := hP.sub (ws' := [(hM, .inr (1, [.int base, .ref qr, .ref qm, .int ad, .int sn, .int sy, .int sl, .int rg, .int ly])), (qr, .inl (g.2.1.1, 8, .inl fr)), (qm, .inl (g.2.1.1, 4096, .inl fm)), (h, .inr (0, [.ref q, .int len])), (q, .inl (g.2.1.1, N, .inl f))]) [0, 1, 2, 3, 4] rfl
          have hD := hD.sub (ws' := [(hM, .inr (1, [.int base, .ref qr, .ref qm, .int ad, .int sn, .int sy, .int sl, .int rg, .int ly])), (qr, .inl (g.2.1.1, 8, .inl fr)), (qm, .inl (g.2.1.1, 4096, .inl fm)), (h, .inr (0, [.ref q, .int len])), (q, .inl (g.2.1.1, N, .inl f))]) [0, 1, 2, 3, 4] (by decide) rfl
          refine lv_if_ne (tgt := 124) hx hb dX1_jump_111 (by decide) (fun c_7 => ?_) (fun c_7 => ?_)
          · skip
            refine lv_aload_n hx hb dX1_jump_124 rfl (lv_at hl 3 rfl) ?_
            refine lv_iload hx hb dX1_jump_125 (lv_at hl 0 rfl) ?_
            refine va_put (D := g.1) (ci := 1) (v := .int (sp_X1_valueOf fr (sp_X0_a N f ad))) (ty := .int) (C := RX1) (T := TX1) (N := 9) hx hb hts iX1 tyX1 tyX1_ok nmX1 hown hK hP hD hS 0 rfl rfl 3 (by decide) (hts (.fieldLink RX1 25 "FaultIsolation$Machine" "address" "I") (by decide +kernel)) (fun _ h9 => h9) rfl (by decide +kernel) rfl rfl (Nat.le_of_ble_eq_true rfl) dX1_jump_127 (fun H locs hP hD hS => ?_)
            have hP : va_P g.1 vwCl [(hM, .inr (1, [.int base, .ref qr, .ref qm, .int (sp_X1_valueOf fr (sp_X0_a N f ad)), .int sn, .int sy, .int sl, .int rg, .int ly])), (qr, .inl (g.2.1.1, 8, .inl fr)), (qm, .inl (g.2.1.1, 4096, .inl fm)), (h, .inr (0, [.ref q, .int len])), (q, .inl (g.2.1.1, N, .inl f))] H := hP
            have hD : va_D A [(hM, .inr (1, [.int base, .ref qr, .ref qm, .int (sp_X1_valueOf fr (sp_X0_a N f ad)), .int sn, .int sy, .int sl, .int rg, .int ly])), (qr, .inl (g.2.1.1, 8, .inl fr)), (qm, .inl (g.2.1.1, 4096, .inl fm)), (h, .inr (0, [.ref q, .int len])), (q, .inl (g.2.1.1, N, .inl f))] := hD
            exact k_vret hx hb hr hlocks ⟨hK, hP, hD, hS, hA, hE, hN⟩ dX1_jump_130 (Nat.le_of_ble_eq_true rfl) (Nat.le_of_ble_eq_true rfl) (by simp only [sp_X1_jump_address, sp_X1_jump_slips, sp_X1_jump_registers, if_neg c_0, if_pos c_1, if_pos c_2, if_neg c_6, if_neg c_7])
          · skip
            refine lv_aload_n hx hb dX1_jump_114 rfl (lv_at hl 3 rfl) ?_
            refine lv_dup hx hb dX1_jump_115 rfl ?_
            refine va_get (D := g.1) (ci := 1) (v := .int sl) (C := RX1) (T := TX1) (N := 9) hx hb hts iX1 hown hK hP 0 rfl rfl 6 (by decide) (hts (.fieldLink RX1 34 "FaultIsolation$Machine" "slips" "I") (by decide +kernel)) (fun _ h9 => h9) rfl dX1_jump_116 ?_
            refine lv_iconst (v := 1) hx hb dX1_jump_119 (by decide) ?_
            refine lv_iadd hx hb dX1_jump_120 ?_
            refine va_put (D := g.1) (ci := 1) (v := .int (sl + 1)) (ty := .int) (C := RX1) (T := TX1) (N := 9) hx hb hts iX1 tyX1 tyX1_ok nmX1 hown hK hP hD hS 0 rfl rfl 6 (by decide) (hts (.fieldLink RX1 34 "FaultIsolation$Machine" "slips" "I") (by decide +kernel)) (fun _ h9 => h9) rfl (by decide +kernel) rfl rfl (Nat.le_of_ble_eq_true rfl) dX1_jump_121 (fun H locs hP hD hS => ?_)
            have hP : va_P g.1 vwCl [(hM, .inr (1, [.int base, .ref qr, .ref qm, .int ad, .int sn, .int sy, .int (sl + 1), .int rg, .int ly])), (qr, .inl (g.2.1.1, 8, .inl fr)), (qm, .inl (g.2.1.1, 4096, .inl fm)), (h, .inr (0, [.ref q, .int len])), (q, .inl (g.2.1.1, N, .inl f))] H := hP
            have hD : va_D A [(hM, .inr (1, [.int base, .ref qr, .ref qm, .int ad, .int sn, .int sy, .int (sl + 1), .int rg, .int ly])), (qr, .inl (g.2.1.1, 8, .inl fr)), (qm, .inl (g.2.1.1, 4096, .inl fm)), (h, .inr (0, [.ref q, .int len])), (q, .inl (g.2.1.1, N, .inl f))] := hD
            refine lv_aload_n hx hb dX1_jump_124 rfl (lv_at hl 3 rfl) ?_
            refine lv_iload hx hb dX1_jump_125 (lv_at hl 0 rfl) ?_
            refine va_put (D := g.1) (ci := 1) (v := .int (sp_X1_valueOf fr (sp_X0_a N f ad))) (ty := .int) (C := RX1) (T := TX1) (N := 9) hx hb hts iX1 tyX1 tyX1_ok nmX1 hown hK hP hD hS 0 rfl rfl 3 (by decide) (hts (.fieldLink RX1 25 "FaultIsolation$Machine" "address" "I") (by decide +kernel)) (fun _ h9 => h9) rfl (by decide +kernel) rfl rfl (Nat.le_of_ble_eq_true rfl) dX1_jump_127 (fun H locs hP hD hS => ?_)
            have hP : va_P g.1 vwCl [(hM, .inr (1, [.int base, .ref qr, .ref qm, .int (sp_X1_valueOf fr (sp_X0_a N f ad)), .int sn, .int sy, .int (sl + 1), .int rg, .int ly])), (qr, .inl (g.2.1.1, 8, .inl fr)), (qm, .inl (g.2.1.1, 4096, .inl fm)), (h, .inr (0, [.ref q, .int len])), (q, .inl (g.2.1.1, N, .inl f))] H := hP
            have hD : va_D A [(hM, .inr (1, [.int base, .ref qr, .ref qm, .int (sp_X1_valueOf fr (sp_X0_a N f ad)), .int sn, .int sy, .int (sl + 1), .int rg, .int ly])), (qr, .inl (g.2.1.1, 8, .inl fr)), (qm, .inl (g.2.1.1, 4096, .inl fm)), (h, .inr (0, [.ref q, .int len])), (q, .inl (g.2.1.1, N, .inl f))] := hD
            exact k_vret hx hb hr hlocks ⟨hK, hP, hD, hS, hA, hE, hN⟩ dX1_jump_130 (Nat.le_of_ble_eq_true rfl) (Nat.le_of_ble_eq_true rfl) (by simp only [sp_X1_jump_address, sp_X1_jump_slips, sp_X1_jump_registers, if_neg c_0, if_pos c_1, if_pos c_2, if_neg c_6, if_pos c_7])
        · skip
          refine lv_aload_n hx hb dX1_jump_98 rfl (lv_at hl 3 rfl) ?_
          refine lv_bipush (v := 7) hx hb dX1_jump_99 (by decide) ?_
          refine lv_iload hx hb dX1_jump_101 (lv_at hl 1 rfl) ?_
          refine kvV (As := [.int 7, .int (ad + 4)]) (rest := []) (wc := [(hM, .inr (1, [.int base, .ref qr, .ref qm, .int ad, .int sn, .int sy, .int sl, .int rg, .int ly])), (qr, .inl (g.2.1.1, 8, .inl fr)), (qm, .inl (g.2.1.1, 4096, .inl fm))]) (wr := [(h, .inr (0, [.ref q, .int len])), (q, .inl (g.2.1.1, N, .inl f))]) ⟨hx, hb, hml, hown, hts⟩ (c_X1_change l g hM qr qm fr fm base ad sn sy sl rg ly 7 (ad + 4)) (cwV 2 hts gX1_jump_X1_change rfl rfl rfl (by decide +kernel) ⟨Nat.le_of_ble_eq_true rfl, Nat.le_of_ble_eq_true rfl⟩) ⟨hK, hP, hD, hS, hA, hE, hN⟩ [0, 1, 2] [3, 4] ⟨rfl, rfl, by decide⟩ (q0 := 0) (ci := 1) rfl rfl rfl rfl hl.1 (Nat.le_of_ble_eq_true rfl) dX1_jump_103 ⟨Nat.le_of_ble_eq_true rfl, Nat.le_of_ble_eq_true rfl⟩ rfl (fun u H locs hw hP hD hS => ?_)
          subst hw
          have hP := hP.sub (ws' := [(hM, .inr (1, [.int base, .ref qr, .ref qm, .int ad, .int sn, .int sy, .int sl, .int rg, .int ly])), (qr, .inl (g.2.1.1, 8, .inl (sp_X1_change_registers fr 7 (ad + 4)))), (qm, .inl (g.2.1.1, 4096, .inl fm)), (h, .inr (0, [.ref q, .int len])), (q, .inl (g.2.1.1, N, .inl f))]) [2, 3, 4, 0, 1] rfl
          have hD := hD.sub (ws' := [(hM, .inr (1, [.int base, .ref qr, .ref qm, .int ad, .int sn, .int sy, .int sl, .int rg, .int ly])), (qr, .inl (g.2.1.1, 8, .inl (sp_X1_change_registers fr 7 (ad + 4)))), (qm, .inl (g.2.1.1, 4096, .inl fm)), (h, .inr (0, [.ref q, .int len])), (q, .inl (g.2.1.1, N, .inl f))]) [2, 3, 4, 0, 1] (by decide) rfl
          refine lv_iload hx hb dX1_jump_106 (lv_at hl 0 rfl) ?_
          refine kiSN (As := [.int (sp_X1_valueOf fr (sp_X0_a N f ad))]) (rest := []) (wc := []) (wr := [(hM, .inr (1, [.int base, .ref qr, .ref qm, .int ad, .int sn, .int sy, .int sl, .int rg, .int ly])), (qr, .inl (g.2.1.1, 8, .inl (sp_X1_change_registers fr 7 (ad + 4)))), (qm, .inl (g.2.1.1, 4096, .inl fm)), (h, .inr (0, [.ref q, .int len])), (q, .inl (g.2.1.1, N, .inl f))]) ⟨hx, hb, hml, hown, hts⟩ (c_X5_isBundleStart l g (sp_X1_valueOf fr (sp_X0_a N f ad))) ⟨va_cnB (host := RX5) 1 hts gX1_jump_X5_isBundleStart_n105 rfl rfl rfl (hN.1 (RX1, 105, yX5_isBundleStart) (List.mem_of_getElem? (i := 2) rfl)) (hts (.initialized RX5) (by decide +kernel)) (by decide +kernel) ⟨Nat.le_of_ble_eq_true rfl, Nat.le_of_ble_eq_true rfl⟩, hts (.static yX5_isBundleStart) (by decide +kernel), trivial⟩ ⟨hK, hP, hD, hS, hA, hE, hN⟩ [] [0, 1, 2, 3, 4] ⟨rfl, rfl, by decide⟩ rfl hl.1 (Nat.le_of_ble_eq_true rfl) dX1_jump_108 ⟨Nat.le_of_ble_eq_true rfl, Nat.le_of_ble_eq_true rfl⟩ rfl (fun r u H locs hw hP hD hS => ?_)
          obtain ⟨hq, hw⟩ := hw
          subst r
          subst hw
          have hP := hP.sub (ws' := [(hM, .inr (1, [.int base, .ref qr, .ref qm, .int ad, .int sn, .int sy, .int sl, .int rg, .int ly])), (qr, .inl (g.2.1.1, 8, .inl (sp_X1_change_registers fr 7 (ad + 4)))), (qm, .inl (g.2.1.1, 4096, .inl fm)), (h, .inr (0, [.ref q, .int len])), (q, .inl (g.2.1.1, N, .inl f))]) [0, 1, 2, 3, 4] rfl
          have hD := hD.sub (ws' := [(hM, .inr (1, [.int base, .ref qr, .ref qm, .int ad, .int sn, .int sy, .int sl, .int rg, .int ly])), (qr, .inl (g.2.1.1, 8, .inl (sp_X1_change_registers fr 7 (ad + 4)))), (qm, .inl (g.2.1.1, 4096, .inl fm)), (h, .inr (0, [.ref q, .int len])), (q, .inl (g.2.1.1, N, .inl f))]) [0, 1, 2, 3, 4] (by decide) rfl
          refine lv_if_ne (tgt := 124) hx hb dX1_jump_111 (by decide) (fun c_8 => ?_) (fun c_8 => ?_)
          · skip
            refine lv_aload_n hx hb dX1_jump_124 rfl (lv_at hl 3 rfl) ?_
            refine lv_iload hx hb dX1_jump_125 (lv_at hl 0 rfl) ?_
            refine va_put (D := g.1) (ci := 1) (v := .int (sp_X1_valueOf fr (sp_X0_a N f ad))) (ty := .int) (C := RX1) (T := TX1) (N := 9) hx hb hts iX1 tyX1 tyX1_ok nmX1 hown hK hP hD hS 0 rfl rfl 3 (by decide) (hts (.fieldLink RX1 25 "FaultIsolation$Machine" "address" "I") (by decide +kernel)) (fun _ h9 => h9) rfl (by decide +kernel) rfl rfl (Nat.le_of_ble_eq_true rfl) dX1_jump_127 (fun H locs hP hD hS => ?_)
            have hP : va_P g.1 vwCl [(hM, .inr (1, [.int base, .ref qr, .ref qm, .int (sp_X1_valueOf fr (sp_X0_a N f ad)), .int sn, .int sy, .int sl, .int rg, .int ly])), (qr, .inl (g.2.1.1, 8, .inl (sp_X1_change_registers fr 7 (ad + 4)))), (qm, .inl (g.2.1.1, 4096, .inl fm)), (h, .inr (0, [.ref q, .int len])), (q, .inl (g.2.1.1, N, .inl f))] H := hP
            have hD : va_D A [(hM, .inr (1, [.int base, .ref qr, .ref qm, .int (sp_X1_valueOf fr (sp_X0_a N f ad)), .int sn, .int sy, .int sl, .int rg, .int ly])), (qr, .inl (g.2.1.1, 8, .inl (sp_X1_change_registers fr 7 (ad + 4)))), (qm, .inl (g.2.1.1, 4096, .inl fm)), (h, .inr (0, [.ref q, .int len])), (q, .inl (g.2.1.1, N, .inl f))] := hD
            exact k_vret hx hb hr hlocks ⟨hK, hP, hD, hS, hA, hE, hN⟩ dX1_jump_130 (Nat.le_of_ble_eq_true rfl) (Nat.le_of_ble_eq_true rfl) (by simp only [sp_X1_jump_address, sp_X1_jump_slips, sp_X1_jump_registers, if_neg c_0, if_pos c_1, if_pos c_2, if_pos c_6, if_neg c_8])
          · skip
            refine lv_aload_n hx hb dX1_jump_114 rfl (lv_at hl 3 rfl) ?_
            refine lv_dup hx hb dX1_jump_115 rfl ?_
            refine va_get (D := g.1) (ci := 1) (v := .int sl) (C := RX1) (T := TX1) (N := 9) hx hb hts iX1 hown hK hP 0 rfl rfl 6 (by decide) (hts (.fieldLink RX1 34 "FaultIsolation$Machine" "slips" "I") (by decide +kernel)) (fun _ h9 => h9) rfl dX1_jump_116 ?_
            refine lv_iconst (v := 1) hx hb dX1_jump_119 (by decide) ?_
            refine lv_iadd hx hb dX1_jump_120 ?_
            refine va_put (D := g.1) (ci := 1) (v := .int (sl + 1)) (ty := .int) (C := RX1) (T := TX1) (N := 9) hx hb hts iX1 tyX1 tyX1_ok nmX1 hown hK hP hD hS 0 rfl rfl 6 (by decide) (hts (.fieldLink RX1 34 "FaultIsolation$Machine" "slips" "I") (by decide +kernel)) (fun _ h9 => h9) rfl (by decide +kernel) rfl rfl (Nat.le_of_ble_eq_true rfl) dX1_jump_121 (fun H locs hP hD hS => ?_)
            have hP : va_P g.1 vwCl [(hM, .inr (1, [.int base, .ref qr, .ref qm, .int ad, .int sn, .int sy, .int (sl + 1), .int rg, .int ly])), (qr, .inl (g.2.1.1, 8, .inl (sp_X1_change_registers fr 7 (ad + 4)))), (qm, .inl (g.2.1.1, 4096, .inl fm)), (h, .inr (0, [.ref q, .int len])), (q, .inl (g.2.1.1, N, .inl f))] H := hP
            have hD : va_D A [(hM, .inr (1, [.int base, .ref qr, .ref qm, .int ad, .int sn, .int sy, .int (sl + 1), .int rg, .int ly])), (qr, .inl (g.2.1.1, 8, .inl (sp_X1_change_registers fr 7 (ad + 4)))), (qm, .inl (g.2.1.1, 4096, .inl fm)), (h, .inr (0, [.ref q, .int len])), (q, .inl (g.2.1.1, N, .inl f))] := hD
            refine lv_aload_n hx hb dX1_jump_124 rfl (lv_at hl 3 rfl) ?_
            refine lv_iload hx hb dX1_jump_125 (lv_at hl 0 rfl) ?_
            refine va_put (D := g.1) (ci := 1) (v := .int (sp_X1_valueOf fr (sp_X0_a N f ad))) (ty := .int) (C := RX1) (T := TX1) (N := 9) hx hb hts iX1 tyX1 tyX1_ok nmX1 hown hK hP hD hS 0 rfl rfl 3 (by decide) (hts (.fieldLink RX1 25 "FaultIsolation$Machine" "address" "I") (by decide +kernel)) (fun _ h9 => h9) rfl (by decide +kernel) rfl rfl (Nat.le_of_ble_eq_true rfl) dX1_jump_127 (fun H locs hP hD hS => ?_)
            have hP : va_P g.1 vwCl [(hM, .inr (1, [.int base, .ref qr, .ref qm, .int (sp_X1_valueOf fr (sp_X0_a N f ad)), .int sn, .int sy, .int (sl + 1), .int rg, .int ly])), (qr, .inl (g.2.1.1, 8, .inl (sp_X1_change_registers fr 7 (ad + 4)))), (qm, .inl (g.2.1.1, 4096, .inl fm)), (h, .inr (0, [.ref q, .int len])), (q, .inl (g.2.1.1, N, .inl f))] H := hP
            have hD : va_D A [(hM, .inr (1, [.int base, .ref qr, .ref qm, .int (sp_X1_valueOf fr (sp_X0_a N f ad)), .int sn, .int sy, .int (sl + 1), .int rg, .int ly])), (qr, .inl (g.2.1.1, 8, .inl (sp_X1_change_registers fr 7 (ad + 4)))), (qm, .inl (g.2.1.1, 4096, .inl fm)), (h, .inr (0, [.ref q, .int len])), (q, .inl (g.2.1.1, N, .inl f))] := hD
            exact k_vret hx hb hr hlocks ⟨hK, hP, hD, hS, hA, hE, hN⟩ dX1_jump_130 (Nat.le_of_ble_eq_true rfl) (Nat.le_of_ble_eq_true rfl) (by simp only [sp_X1_jump_address, sp_X1_jump_slips, sp_X1_jump_registers, if_neg c_0, if_pos c_1, if_pos c_2, if_pos c_6, if_pos c_8])
    · skip
      refine lv_iconst (v := 4) hx hb dX1_jump_49 (by decide) ?_
      refine lv_aload_n hx hb dX1_jump_50 rfl (lv_at hl 3 rfl) ?_
      refine lv_aload_n hx hb dX1_jump_51 rfl (lv_at hl 2 rfl) ?_
      refine va_get (D := g.1) (ci := 1) (v := .int ad) (C := RX1) (T := TX1) (N := 9) hx hb hts iX1 hown hK hP 0 rfl rfl 3 (by decide) (hts (.fieldLink RX1 25 "FaultIsolation$Machine" "address" "I") (by decide +kernel)) (fun _ h9 => h9) rfl dX1_jump_52 ?_
      refine kiV (As := [.int ad]) (rest := [.int 4]) (wc := [(h, .inr (0, [.ref q, .int len])), (q, .inl (g.2.1.1, N, .inl f))]) (wr := [(hM, .inr (1, [.int base, .ref qr, .ref qm, .int ad, .int sn, .int sy, .int sl, .int rg, .int ly])), (qr, .inl (g.2.1.1, 8, .inl fr)), (qm, .inl (g.2.1.1, 4096, .inl fm))]) ⟨hx, hb, hml, hown, hts⟩ (c_X0_n l g h q N f len ad hNn) (cwV 1 hts gX1_jump_X0_n rfl rfl rfl (by decide +kernel) ⟨Nat.le_of_ble_eq_true rfl, Nat.le_of_ble_eq_true rfl⟩) ⟨hK, hP, hD, hS, hA, hE, hN⟩ [3, 4] [0, 1, 2] ⟨rfl, rfl, by decide⟩ (q0 := 3) (ci := 0) rfl rfl rfl rfl hl.1 (Nat.le_of_ble_eq_true rfl) dX1_jump_55 ⟨Nat.le_of_ble_eq_true rfl, Nat.le_of_ble_eq_true rfl⟩ rfl (fun r u H locs hw hP hD hS => ?_)
      obtain ⟨hq, hw⟩ := hw
      subst r
      subst hw
      have hP := hP.sub (ws' := [(hM, .inr (1, [.int base, .ref qr, .ref qm, .int ad, .int sn, .int sy, .int sl, .int rg, .int ly])), (qr, .inl (g.2.1.1, 8, .inl fr)), (qm, .inl (g.2.1.1, 4096, .inl fm)), (h, .inr (0, [.ref q, .int len])), (q, .inl (g.2.1.1, N, .inl f))]) [0, 1, 2, 3, 4] rfl
      have hD := hD.sub (ws' := [(hM, .inr (1, [.int base, .ref qr, .ref qm, .int ad, .int sn, .int sy, .int sl, .int rg, .int ly])), (qr, .inl (g.2.1.1, 8, .inl fr)), (qm, .inl (g.2.1.1, 4096, .inl fm)), (h, .inr (0, [.ref q, .int len])), (q, .inl (g.2.1.1, N, .inl f))]) [0, 1, 2, 3, 4] (by decide) rfl
      refine lv_imul hx hb dX1_jump_58 ?_
      refine lv_goto (tgt := 70) hx hb dX1_jump_59 (by decide) ?_
      refine lv_istore (lv' := [(5, .int (4 * (sp_X0_n N f ad))), (4, .int (ad + 4)), (3, .int (sp_X0_word N f ad)), (0, .ref hM), (1, .ref h), (2, .int pr)]) hx hb dX1_jump_70 hl (by decide) rfl (fun ls hl => ?_)
      refine lv_iload_n hx hb dX1_jump_72 rfl (lv_at hl 2 rfl) ?_
      refine lv_bipush (v := 14) hx hb dX1_jump_73 (by decide) ?_
      refine lv_icmp_ne (tgt := 92) hx hb dX1_jump_75 (by decide) (fun c_9 => ?_) (fun c_9 => ?_)
      · skip
        refine lv_iload_n hx hb dX1_jump_92 rfl (lv_at hl 2 rfl) ?_
        refine lv_bipush (v := 15) hx hb dX1_jump_93 (by decide) ?_
        refine lv_icmp_ne (tgt := 106) hx hb dX1_jump_95 (by decide) (fun c_10 => ?_) (fun c_10 => ?_)
        · skip
          refine lv_iload hx hb dX1_jump_106 (lv_at hl 0 rfl) ?_
          refine kiSN (As := [.int (4 * (sp_X0_n N f ad))]) (rest := []) (wc := []) (wr := [(hM, .inr (1, [.int base, .ref qr, .ref qm, .int ad, .int sn, .int sy, .int sl, .int rg, .int ly])), (qr, .inl (g.2.1.1, 8, .inl fr)), (qm, .inl (g.2.1.1, 4096, .inl fm)), (h, .inr (0, [.ref q, .int len])), (q, .inl (g.2.1.1, N, .inl f))]) ⟨hx, hb, hml, hown, hts⟩ (c_X5_isBundleStart l g (4 * (sp_X0_n N f ad))) ⟨va_cnB (host := RX5) 1 hts gX1_jump_X5_isBundleStart_n105 rfl rfl rfl (hN.1 (RX1, 105, yX5_isBundleStart) (List.mem_of_getElem? (i := 2) rfl)) (hts (.initialized RX5) (by decide +kernel)) (by decide +kernel) ⟨Nat.le_of_ble_eq_true rfl, Nat.le_of_ble_eq_true rfl⟩, hts (.static yX5_isBundleStart) (by decide +kernel), trivial⟩ ⟨hK, hP, hD, hS, hA, hE, hN⟩ [] [0, 1, 2, 3, 4] ⟨rfl, rfl, by decide⟩ rfl hl.1 (Nat.le_of_ble_eq_true rfl) dX1_jump_108 ⟨Nat.le_of_ble_eq_true rfl, Nat.le_of_ble_eq_true rfl⟩ rfl (fun r u H locs hw hP hD hS => ?_)
          obtain ⟨hq, hw⟩ := hw
          subst r
          subst hw
          have hP := hP.sub (ws' := [(hM, .inr (1, [.int base, .ref qr, .ref qm, .int ad, .int sn, .int sy, .int sl, .int rg, .int ly])), (qr, .inl (g.2.1.1, 8, .inl fr)), (qm, .inl (g.2.1.1, 4096, .inl fm)), (h, .inr (0, [.ref q, .int len])), (q, .inl (g.2.1.1, N, .inl f))]) [0, 1, 2, 3, 4] rfl
          have hD := hD.sub (ws' := [(hM, .inr (1, [.int base, .ref qr, .ref qm, .int ad, .int sn, .int sy, .int sl, .int rg, .int ly])), (qr, .inl (g.2.1.1, 8, .inl fr)), (qm, .inl (g.2.1.1, 4096, .inl fm)), (h, .inr (0, [.ref q, .int len])), (q, .inl (g.2.1.1, N, .inl f))]) [0, 1, 2, 3, 4] (by decide) rfl
          refine lv_if_ne (tgt := 124) hx hb dX1_jump_111 (by decide) (fun c_11 => ?_) (fun c_11 => ?_)
          · skip
            refine lv_aload_n hx hb dX1_jump_124 rfl (lv_at hl 3 rfl) ?_
            refine lv_iload hx hb dX1_jump_125 (lv_at hl 0 rfl) ?_
            refine va_put (D := g.1) (ci := 1) (v := .int (4 * (sp_X0_n N f ad))) (ty := .int) (C := RX1) (T := TX1) (N := 9) hx hb hts iX1 tyX1 tyX1_ok nmX1 hown hK hP hD hS 0 rfl rfl 3 (by decide) (hts (.fieldLink RX1 25 "FaultIsolation$Machine" "address" "I") (by decide +kernel)) (fun _ h9 => h9) rfl (by decide +kernel) rfl rfl (Nat.le_of_ble_eq_true rfl) dX1_jump_127 (fun H locs hP hD hS => ?_)
            have hP : va_P g.1 vwCl [(hM, .inr (1, [.int base, .ref qr, .ref qm, .int (4 * (sp_X0_n N f ad)), .int sn, .int sy, .int sl, .int rg, .int ly])), (qr, .inl (g.2.1.1, 8, .inl fr)), (qm, .inl (g.2.1.1, 4096, .inl fm)), (h, .inr (0, [.ref q, .int len])), (q, .inl (g.2.1.1, N, .inl f))] H := hP
            have hD : va_D A [(hM, .inr (1, [.int base, .ref qr, .ref qm, .int (4 * (sp_X0_n N f ad)), .int sn, .int sy, .int sl, .int rg, .int ly])), (qr, .inl (g.2.1.1, 8, .inl fr)), (qm, .inl (g.2.1.1, 4096, .inl fm)), (h, .inr (0, [.ref q, .int len])), (q, .inl (g.2.1.1, N, .inl f))] := hD
            exact k_vret hx hb hr hlocks ⟨hK, hP, hD, hS, hA, hE, hN⟩ dX1_jump_130 (Nat.le_of_ble_eq_true rfl) (Nat.le_of_ble_eq_true rfl) (by simp only [sp_X1_jump_address, sp_X1_jump_slips, sp_X1_jump_registers, if_neg c_0, if_neg c_1, if_neg c_9, if_neg c_10, if_neg c_11])
          · skip
            refine lv_aload_n hx hb dX1_jump_114 rfl (lv_at hl 3 rfl) ?_
            refine lv_dup hx hb dX1_jump_115 rfl ?_
            refine va_get (D := g.1) (ci := 1) (v := .int sl) (C := RX1) (T := TX1) (N := 9) hx hb hts iX1 hown hK hP 0 rfl rfl 6 (by decide) (hts (.fieldLink RX1 34 "FaultIsolation$Machine" "slips" "I") (by decide +kernel)) (fun _ h9 => h9) rfl dX1_jump_116 ?_
            refine lv_iconst (v := 1) hx hb dX1_jump_119 (by decide) ?_
            refine lv_iadd hx hb dX1_jump_120 ?_
            refine va_put (D := g.1) (ci := 1) (v := .int (sl + 1)) (ty := .int) (C := RX1) (T := TX1) (N := 9) hx hb hts iX1 tyX1 tyX1_ok nmX1 hown hK hP hD hS 0 rfl rfl 6 (by decide) (hts (.fieldLink RX1 34 "FaultIsolation$Machine" "slips" "I") (by decide +kernel)) (fun _ h9 => h9) rfl (by decide +kernel) rfl rfl (Nat.le_of_ble_eq_true rfl) dX1_jump_121 (fun H locs hP hD hS => ?_)
            have hP : va_P g.1 vwCl [(hM, .inr (1, [.int base, .ref qr, .ref qm, .int ad, .int sn, .int sy, .int (sl + 1), .int rg, .int ly])), (qr, .inl (g.2.1.1, 8, .inl fr)), (qm, .inl (g.2.1.1, 4096, .inl fm)), (h, .inr (0, [.ref q, .int len])), (q, .inl (g.2.1.1, N, .inl f))] H := hP
            have hD : va_D A [(hM, .inr (1, [.int base, .ref qr, .ref qm, .int ad, .int sn, .int sy, .int (sl + 1), .int rg, .int ly])), (qr, .inl (g.2.1.1, 8, .inl fr)), (qm, .inl (g.2.1.1, 4096, .inl fm)), (h, .inr (0, [.ref q, .int len])), (q, .inl (g.2.1.1, N, .inl f))] := hD
            refine lv_aload_n hx hb dX1_jump_124 rfl (lv_at hl 3 rfl) ?_
            refine lv_iload hx hb dX1_jump_125 (lv_at hl 0 rfl) ?_
            refine va_put (D := g.1) (ci := 1) (v := .int (4 * (sp_X0_n N f ad))) (ty := .int) (C := RX1) (T := TX1) (N := 9) hx hb hts iX1 tyX1 tyX1_ok nmX1 hown hK hP hD hS 0 rfl rfl 3 (by decide) (hts (.fieldLink RX1 25 "FaultIsolation$Machine" "address" "I") (by decide +kernel)) (fun _ h9 => h9) rfl (by decide +kernel) rfl rfl (Nat.le_of_ble_eq_true rfl) dX1_jump_127 (fun H locs hP hD hS => ?_)
            have hP : va_P g.1 vwCl [(hM, .inr (1, [.int base, .ref qr, .ref qm, .int (4 * (sp_X0_n N f ad)), .int sn, .int sy, .int (sl + 1), .int rg, .int ly])), (qr, .inl (g.2.1.1, 8, .inl fr)), (qm, .inl (g.2.1.1, 4096, .inl fm)), (h, .inr (0, [.ref q, .int len])), (q, .inl (g.2.1.1, N, .inl f))] H := hP
            have hD : va_D A [(hM, .inr (1, [.int base, .ref qr, .ref qm, .int (4 * (sp_X0_n N f ad)), .int sn, .int sy, .int (sl + 1), .int rg, .int ly])), (qr, .inl (g.2.1.1, 8, .inl fr)), (qm, .inl (g.2.1.1, 4096, .inl fm)), (h, .inr (0, [.ref q, .int len])), (q, .inl (g.2.1.1, N, .inl f))] := hD
            exact k_vret hx hb hr hlocks ⟨hK, hP, hD, hS, hA, hE, hN⟩ dX1_jump_130 (Nat.le_of_ble_eq_true rfl) (Nat.le_of_ble_eq_true rfl) (by simp only [sp_X1_jump_address, sp_X1_jump_slips, sp_X1_jump_registers, if_neg c_0, if_neg c_1, if_neg c_9, if_neg c_10, if_pos c_11])
        · skip
          refine lv_aload_n hx hb dX1_jump_98 rfl (lv_at hl 3 rfl) ?_
          refine lv_bipush (v := 7) hx hb dX1_jump_99 (by decide) ?_
          refine lv_iload hx hb dX1_jump_101 (lv_at hl 1 rfl) ?_
          refine kvV (As := [.int 7, .int (ad + 4)]) (rest := []) (wc := [(hM, .inr (1, [.int base, .ref qr, .ref qm, .int ad, .int sn, .int sy, .int sl, .int rg, .int ly])), (qr, .inl (g.2.1.1, 8, .inl fr)), (qm, .inl (g.2.1.1, 4096, .inl fm))]) (wr := [(h, .inr (0, [.ref q, .int len])), (q, .inl (g.2.1.1, N, .inl f))]) ⟨hx, hb, hml, hown, hts⟩ (c_X1_change l g hM qr qm fr fm base ad sn sy sl rg ly 7 (ad + 4)) (cwV 2 hts gX1_jump_X1_change rfl rfl rfl (by decide +kernel) ⟨Nat.le_of_ble_eq_true rfl, Nat.le_of_ble_eq_true rfl⟩) ⟨hK, hP, hD, hS, hA, hE, hN⟩ [0, 1, 2] [3, 4] ⟨rfl, rfl, by decide⟩ (q0 := 0) (ci := 1) rfl rfl rfl rfl hl.1 (Nat.le_of_ble_eq_true rfl) dX1_jump_103 ⟨Nat.le_of_ble_eq_true rfl, Nat.le_of_ble_eq_true rfl⟩ rfl (fun u H locs hw hP hD hS => ?_)
          subst hw
          have hP := hP.sub (ws' := [(hM, .inr (1, [.int base, .ref qr, .ref qm, .int ad, .int sn, .int sy, .int sl, .int rg, .int ly])), (qr, .inl (g.2.1.1, 8, .inl (sp_X1_change_registers fr 7 (ad + 4)))), (qm, .inl (g.2.1.1, 4096, .inl fm)), (h, .inr (0, [.ref q, .int len])), (q, .inl (g.2.1.1, N, .inl f))]) [2, 3, 4, 0, 1] rfl
          have hD := hD.sub (ws' := [(hM, .inr (1, [.int base, .ref qr, .ref qm, .int ad, .int sn, .int sy, .int sl, .int rg, .int ly])), (qr, .inl (g.2.1.1, 8, .inl (sp_X1_change_registers fr 7 (ad + 4)))), (qm, .inl (g.2.1.1, 4096, .inl fm)), (h, .inr (0, [.ref q, .int len])), (q, .inl (g.2.1.1, N, .inl f))]) [2, 3, 4, 0, 1] (by decide) rfl
          refine lv_iload hx hb dX1_jump_106 (lv_at hl 0 rfl) ?_
          refine kiSN (As := [.int (4 * (sp_X0_n N f ad))]) (rest := []) (wc := []) (wr := [(hM, .inr (1, [.int base, .ref qr, .ref qm, .int ad, .int sn, .int sy, .int sl, .int rg, .int ly])), (qr, .inl (g.2.1.1, 8, .inl (sp_X1_change_registers fr 7 (ad + 4)))), (qm, .inl (g.2.1.1, 4096, .inl fm)), (h, .inr (0, [.ref q, .int len])), (q, .inl (g.2.1.1, N, .inl f))]) ⟨hx, hb, hml, hown, hts⟩ (c_X5_isBundleStart l g (4 * (sp_X0_n N f ad))) ⟨va_cnB (host := RX5) 1 hts gX1_jump_X5_isBundleStart_n105 rfl rfl rfl (hN.1 (RX1, 105, yX5_isBundleStart) (List.mem_of_getElem? (i := 2) rfl)) (hts (.initialized RX5) (by decide +kernel)) (by decide +kernel) ⟨Nat.le_of_ble_eq_true rfl, Nat.le_of_ble_eq_true rfl⟩, hts (.static yX5_isBundleStart) (by decide +kernel), trivial⟩ ⟨hK, hP, hD, hS, hA, hE, hN⟩ [] [0, 1, 2, 3, 4] ⟨rfl, rfl, by decide⟩ rfl hl.1 (Nat.le_of_ble_eq_true rfl) dX1_jump_108 ⟨Nat.le_of_ble_eq_true rfl, Nat.le_of_ble_eq_true rfl⟩ rfl (fun r u H locs hw hP hD hS => ?_)
          obtain ⟨hq, hw⟩ := hw
          subst r
          subst hw
          have hP := hP.sub (ws' := [(hM, .inr (1, [.int base, .ref qr, .ref qm, .int ad, .int sn, .int sy, .int sl, .int rg, .int ly])), (qr, .inl (g.2.1.1, 8, .inl (sp_X1_change_registers fr 7 (ad + 4)))), (qm, .inl (g.2.1.1, 4096, .inl fm)), (h, .inr (0, [.ref q, .int len])), (q, .inl (g.2.1.1, N, .inl f))]) [0, 1, 2, 3, 4] rfl
          have hD := hD.sub (ws' := [(hM, .inr (1, [.int base, .ref qr, .ref qm, .int ad, .int sn, .int sy, .int sl, .int rg, .int ly])), (qr, .inl (g.2.1.1, 8, .inl (sp_X1_change_registers fr 7 (ad + 4)))), (qm, .inl (g.2.1.1, 4096, .inl fm)), (h, .inr (0, [.ref q, .int len])), (q, .inl (g.2.1.1, N, .inl f))]) [0, 1, 2, 3, 4] (by decide) rfl
          refine lv_if_ne (tgt := 124) hx hb dX1_jump_111 (by decide) (fun c_12 => ?_) (fun c_12 => ?_)
          · skip
            refine lv_aload_n hx hb dX1_jump_124 rfl (lv_at hl 3 rfl) ?_
            refine lv_iload hx hb dX1_jump_125 (lv_at hl 0 rfl) ?_
            refine va_put (D := g.1) (ci := 1) (v := .int (4 * (sp_X0_n N f ad))) (ty := .int) (C := RX1) (T := TX1) (N := 9) hx hb hts iX1 tyX1 tyX1_ok nmX1 hown hK hP hD hS 0 rfl rfl 3 (by decide) (hts (.fieldLink RX1 25 "FaultIsolation$Machine" "address" "I") (by decide +kernel)) (fun _ h9 => h9) rfl (by decide +kernel) rfl rfl (Nat.le_of_ble_eq_true rfl) dX1_jump_127 (fun H locs hP hD hS => ?_)
            have hP : va_P g.1 vwCl [(hM, .inr (1, [.int base, .ref qr, .ref qm, .int (4 * (sp_X0_n N f ad)), .int sn, .int sy, .int sl, .int rg, .int ly])), (qr, .inl (g.2.1.1, 8, .inl (sp_X1_change_registers fr 7 (ad + 4)))), (qm, .inl (g.2.1.1, 4096, .inl fm)), (h, .inr (0, [.ref q, .int len])), (q, .inl (g.2.1.1, N, .inl f))] H := hP
            have hD : va_D A [(hM, .inr (1, [.int base, .ref qr, .ref qm, .int (4 * (sp_X0_n N f ad)), .int sn, .int sy, .int sl, .int rg, .int ly])), (qr, .inl (g.2.1.1, 8, .inl (sp_X1_change_registers fr 7 (ad + 4)))), (qm, .inl (g.2.1.1, 4096, .inl fm)), (h, .inr (0, [.ref q, .int len])), (q, .inl (g.2.1.1, N, .inl f))] := hD
            exact k_vret hx hb hr hlocks ⟨hK, hP, hD, hS, hA, hE, hN⟩ dX1_jump_130 (Nat.le_of_ble_eq_true rfl) (Nat.le_of_ble_eq_true rfl) (by simp only [sp_X1_jump_address, sp_X1_jump_slips, sp_X1_jump_registers, if_neg c_0, if_neg c_1, if_neg c_9, if_pos c_10, if_neg c_12])
          · skip
            refine lv_aload_n hx hb dX1_jump_114 rfl (lv_at hl 3 rfl) ?_
            refine lv_dup hx hb dX1_jump_115 rfl ?_
            refine va_get (D := g.1) (ci := 1) (v := .int sl) (C := RX1) (T := TX1) (N := 9) hx hb hts iX1 hown hK hP 0 rfl rfl 6 (by decide) (hts (.fieldLink RX1 34 "FaultIsolation$Machine" "slips" "I") (by decide +kernel)) (fun _ h9 => h9) rfl dX1_jump_116 ?_
            refine lv_iconst (v := 1) hx hb dX1_jump_119 (by decide) ?_
            refine lv_iadd hx hb dX1_jump_120 ?_
            refine va_put (D := g.1) (ci := 1) (v := .int (sl + 1)) (ty := .int) (C := RX1) (T := TX1) (N := 9) hx hb hts iX1 tyX1 tyX1_ok nmX1 hown hK hP hD hS 0 rfl rfl 6 (by decide) (hts (.fieldLink RX1 34 "FaultIsolation$Machine" "slips" "I") (by decide +kernel)) (fun _ h9 => h9) rfl (by decide +kernel) rfl rfl (Nat.le_of_ble_eq_true rfl) dX1_jump_121 (fun H locs hP hD hS => ?_)
            have hP : va_P g.1 vwCl [(hM, .inr (1, [.int base, .ref qr, .ref qm, .int ad, .int sn, .int sy, .int (sl + 1), .int rg, .int ly])), (qr, .inl (g.2.1.1, 8, .inl (sp_X1_change_registers fr 7 (ad + 4)))), (qm, .inl (g.2.1.1, 4096, .inl fm)), (h, .inr (0, [.ref q, .int len])), (q, .inl (g.2.1.1, N, .inl f))] H := hP
            have hD : va_D A [(hM, .inr (1, [.int base, .ref qr, .ref qm, .int ad, .int sn, .int sy, .int (sl + 1), .int rg, .int ly])), (qr, .inl (g.2.1.1, 8, .inl (sp_X1_change_registers fr 7 (ad + 4)))), (qm, .inl (g.2.1.1, 4096, .inl fm)), (h, .inr (0, [.ref q, .int len])), (q, .inl (g.2.1.1, N, .inl f))] := hD
            refine lv_aload_n hx hb dX1_jump_124 rfl (lv_at hl 3 rfl) ?_
            refine lv_iload hx hb dX1_jump_125 (lv_at hl 0 rfl) ?_
            refine va_put (D := g.1) (ci := 1) (v := .int (4 * (sp_X0_n N f ad))) (ty := .int) (C := RX1) (T := TX1) (N := 9) hx hb hts iX1 tyX1 tyX1_ok nmX1 hown hK hP hD hS 0 rfl rfl 3 (by decide) (hts (.fieldLink RX1 25 "FaultIsolation$Machine" "address" "I") (by decide +kernel)) (fun _ h9 => h9) rfl (by decide +kernel) rfl rfl (Nat.le_of_ble_eq_true rfl) dX1_jump_127 (fun H locs hP hD hS => ?_)
            have hP : va_P g.1 vwCl [(hM, .inr (1, [.int base, .ref qr, .ref qm, .int (4 * (sp_X0_n N f ad)), .int sn, .int sy, .int (sl + 1), .int rg, .int ly])), (qr, .inl (g.2.1.1, 8, .inl (sp_X1_change_registers fr 7 (ad + 4)))), (qm, .inl (g.2.1.1, 4096, .inl fm)), (h, .inr (0, [.ref q, .int len])), (q, .inl (g.2.1.1, N, .inl f))] H := hP
            have hD : va_D A [(hM, .inr (1, [.int base, .ref qr, .ref qm, .int (4 * (sp_X0_n N f ad)), .int sn, .int sy, .int (sl + 1), .int rg, .int ly])), (qr, .inl (g.2.1.1, 8, .inl (sp_X1_change_registers fr 7 (ad + 4)))), (qm, .inl (g.2.1.1, 4096, .inl fm)), (h, .inr (0, [.ref q, .int len])), (q, .inl (g.2.1.1, N, .inl f))] := hD
            exact k_vret hx hb hr hlocks ⟨hK, hP, hD, hS, hA, hE, hN⟩ dX1_jump_130 (Nat.le_of_ble_eq_true rfl) (Nat.le_of_ble_eq_true rfl) (by simp only [sp_X1_jump_address, sp_X1_jump_slips, sp_X1_jump_registers, if_neg c_0, if_neg c_1, if_neg c_9, if_pos c_10, if_pos c_12])
      · skip
        refine lv_aload_n hx hb dX1_jump_78 rfl (lv_at hl 3 rfl) ?_
        refine lv_aload_n hx hb dX1_jump_79 rfl (lv_at hl 4 rfl) ?_
        refine lv_aload_n hx hb dX1_jump_80 rfl (lv_at hl 3 rfl) ?_
        refine va_get (D := g.1) (ci := 1) (v := .int ad) (C := RX1) (T := TX1) (N := 9) hx hb hts iX1 hown hK hP 0 rfl rfl 3 (by decide) (hts (.fieldLink RX1 25 "FaultIsolation$Machine" "address" "I") (by decide +kernel)) (fun _ h9 => h9) rfl dX1_jump_81 ?_
        refine kiV (As := [.int ad]) (rest := [.ref hM]) (wc := [(h, .inr (0, [.ref q, .int len])), (q, .inl (g.2.1.1, N, .inl f))]) (wr := [(hM, .inr (1, [.int base, .ref qr, .ref qm, .int ad, .int sn, .int sy, .int sl, .int rg, .int ly])), (qr, .inl (g.2.1.1, 8, .inl fr)), (qm, .inl (g.2.1.1, 4096, .inl fm))]) ⟨hx, hb, hml, hown, hts⟩ (c_X0_a l g h q N f len ad hNn) (cwV 1 hts gX1_jump_X0_a rfl rfl rfl (by decide +kernel) ⟨Nat.le_of_ble_eq_true rfl, Nat.le_of_ble_eq_true rfl⟩) ⟨hK, hP, hD, hS, hA, hE, hN⟩ [3, 4] [0, 1, 2] ⟨rfl, rfl, by decide⟩ (q0 := 3) (ci := 0) rfl rfl rfl rfl hl.1 (Nat.le_of_ble_eq_true rfl) dX1_jump_84 ⟨Nat.le_of_ble_eq_true rfl, Nat.le_of_ble_eq_true rfl⟩ rfl (fun r u H locs hw hP hD hS => ?_)
        obtain ⟨hq, hw⟩ := hw
        subst r
        subst hw
        have hP := hP.sub (ws' := [(hM, .inr (1, [.int base, .ref qr, .ref qm, .int ad, .int sn, .int sy, .int sl, .int rg, .int ly])), (qr, .inl (g.2.1.1, 8, .inl fr)), (qm, .inl (g.2.1.1, 4096, .inl fm)), (h, .inr (0, [.ref q, .int len])), (q, .inl (g.2.1.1, N, .inl f))]) [0, 1, 2, 3, 4] rfl
        have hD := hD.sub (ws' := [(hM, .inr (1, [.int base, .ref qr, .ref qm, .int ad, .int sn, .int sy, .int sl, .int rg, .int ly])), (qr, .inl (g.2.1.1, 8, .inl fr)), (qm, .inl (g.2.1.1, 4096, .inl fm)), (h, .inr (0, [.ref q, .int len])), (q, .inl (g.2.1.1, N, .inl f))]) [0, 1, 2, 3, 4] (by decide) rfl
        refine kiV (As := [.int (sp_X0_a N f ad)]) (rest := []) (wc := [(hM, .inr (1, [.int base, .ref qr, .ref qm, .int ad, .int sn, .int sy, .int sl, .int rg, .int ly])), (qr, .inl (g.2.1.1, 8, .inl fr)), (qm, .inl (g.2.1.1, 4096, .inl fm))]) (wr := [(h, .inr (0, [.ref q, .int len])), (q, .inl (g.2.1.1, N, .inl f))]) ⟨hx, hb, hml, hown, hts⟩ (c_X1_valueOf l g hM qr qm fr fm base ad sn sy sl rg ly (sp_X0_a N f ad)) (cwV 1 hts gX1_jump_X1_valueOf rfl rfl rfl (by decide +kernel) ⟨Nat.le_of_ble_eq_true rfl, Nat.le_of_ble_eq_true rfl⟩) ⟨hK, hP, hD, hS, hA, hE, hN⟩ [0, 1, 2] [3, 4] ⟨rfl, rfl, by decide⟩ (q0 := 0) (ci := 1) rfl rfl rfl rfl hl.1 (Nat.le_of_ble_eq_true rfl) dX1_jump_87 ⟨Nat.le_of_ble_eq_true rfl, Nat.le_of_ble_eq_true rfl⟩ rfl (fun r u H locs hw hP hD hS => ?_)
        obtain ⟨hq, hw⟩ := hw
        subst r
        subst hw
        have hP := hP.sub (ws' := [(hM, .inr (1, [.int base, .ref qr, .ref qm, .int ad, .int sn, .int sy, .int sl, .int rg, .int ly])), (qr, .inl (g.2.1.1, 8, .inl fr)), (qm, .inl (g.2.1.1, 4096, .inl fm)), (h, .inr (0, [.ref q, .int len])), (q, .inl (g.2.1.1, N, .inl f))]) [2, 3, 4, 0, 1] rfl
        have hD := hD.sub (ws' := [(hM, .inr (1, [.int base, .ref qr, .ref qm, .int ad, .int sn, .int sy, .int sl, .int rg, .int ly])), (qr, .inl (g.2.1.1, 8, .inl fr)), (qm, .inl (g.2.1.1, 4096, .inl fm)), (h, .inr (0, [.ref q, .int len])), (q, .inl (g.2.1.1, N, .inl f))]) [2, 3, 4, 0, 1] (by decide) rfl
        refine lv_istore (lv' := [(5, .int (sp_X1_valueOf fr (sp_X0_a N f ad))), (4, .int (ad + 4)), (3, .int (sp_X0_word N f ad)), (0, .ref hM), (1, .ref h), (2, .int pr)]) hx hb dX1_jump_90 hl (by decide) rfl (fun ls hl => ?_)
        refine lv_iload_n hx hb dX1_jump_92 rfl (lv_at hl 2 rfl) ?_
        refine lv_bipush (v := 15) hx hb dX1_jump_93 (by decide) ?_
        refine lv_icmp_ne (tgt := 106) hx hb dX1_jump_95 (by decide) (fun c_13 => ?_) (fun c_13 => ?_)
        · skip
          refine lv_iload hx hb dX1_jump_106 (lv_at hl 0 rfl) ?_
          refine kiSN (As := [.int (sp_X1_valueOf fr (sp_X0_a N f ad))]) (rest := []) (wc := []) (wr := [(hM, .inr (1, [.int base, .ref qr, .ref qm, .int ad, .int sn, .int sy, .int sl, .int rg, .int ly])), (qr, .inl (g.2.1.1, 8, .inl fr)), (qm, .inl (g.2.1.1, 4096, .inl fm)), (h, .inr (0, [.ref q, .int len])), (q, .inl (g.2.1.1, N, .inl f))]) ⟨hx, hb, hml, hown, hts⟩ (c_X5_isBundleStart l g (sp_X1_valueOf fr (sp_X0_a N f ad))) ⟨va_cnB (host := RX5) 1 hts gX1_jump_X5_isBundleStart_n105 rfl rfl rfl (hN.1 (RX1, 105, yX5_isBundleStart) (List.mem_of_getElem? (i := 2) rfl)) (hts (.initialized RX5) (by decide +kernel)) (by decide +kernel) ⟨Nat.le_of_ble_eq_true rfl, Nat.le_of_ble_eq_true rfl⟩, hts (.static yX5_isBundleStart) (by decide +kernel), trivial⟩ ⟨hK, hP, hD, hS, hA, hE, hN⟩ [] [0, 1, 2, 3, 4] ⟨rfl, rfl, by decide⟩ rfl hl.1 (Nat.le_of_ble_eq_true rfl) dX1_jump_108 ⟨Nat.le_of_ble_eq_true rfl, Nat.le_of_ble_eq_true rfl⟩ rfl (fun r u H locs hw hP hD hS => ?_)
          obtain ⟨hq, hw⟩ := hw
          subst r
          subst hw
          have hP := hP.sub (ws' := [(hM, .inr (1, [.int base, .ref qr, .ref qm, .int ad, .int sn, .int sy, .int sl, .int rg, .int ly])), (qr, .inl (g.2.1.1, 8, .inl fr)), (qm, .inl (g.2.1.1, 4096, .inl fm)), (h, .inr (0, [.ref q, .int len])), (q, .inl (g.2.1.1, N, .inl f))]) [0, 1, 2, 3, 4] rfl
          have hD := hD.sub (ws' := [(hM, .inr (1, [.int base, .ref qr, .ref qm, .int ad, .int sn, .int sy, .int sl, .int rg, .int ly])), (qr, .inl (g.2.1.1, 8, .inl fr)), (qm, .inl (g.2.1.1, 4096, .inl fm)), (h, .inr (0, [.ref q, .int len])), (q, .inl (g.2.1.1, N, .inl f))]) [0, 1, 2, 3, 4] (by decide) rfl
          refine lv_if_ne (tgt := 124) hx hb dX1_jump_111 (by decide) (fun c_14 => ?_) (fun c_14 => ?_)
          · skip
            refine lv_aload_n hx hb dX1_jump_124 rfl (lv_at hl 3 rfl) ?_
            refine lv_iload hx hb dX1_jump_125 (lv_at hl 0 rfl) ?_
            refine va_put (D := g.1) (ci := 1) (v := .int (sp_X1_valueOf fr (sp_X0_a N f ad))) (ty := .int) (C := RX1) (T := TX1) (N := 9) hx hb hts iX1 tyX1 tyX1_ok nmX1 hown hK hP hD hS 0 rfl rfl 3 (by decide) (hts (.fieldLink RX1 25 "FaultIsolation$Machine" "address" "I") (by decide +kernel)) (fun _ h9 => h9) rfl (by decide +kernel) rfl rfl (Nat.le_of_ble_eq_true rfl) dX1_jump_127 (fun H locs hP hD hS => ?_)
            have hP : va_P g.1 vwCl [(hM, .inr (1, [.int base, .ref qr, .ref qm, .int (sp_X1_valueOf fr (sp_X0_a N f ad)), .int sn, .int sy, .int sl, .int rg, .int ly])), (qr, .inl (g.2.1.1, 8, .inl fr)), (qm, .inl (g.2.1.1, 4096, .inl fm)), (h, .inr (0, [.ref q, .int len])), (q, .inl (g.2.1.1, N, .inl f))] H := hP
            have hD : va_D A [(hM, .inr (1, [.int base, .ref qr, .ref qm, .int (sp_X1_valueOf fr (sp_X0_a N f ad)), .int sn, .int sy, .int sl, .int rg, .int ly])), (qr, .inl (g.2.1.1, 8, .inl fr)), (qm, .inl (g.2.1.1, 4096, .inl fm)), (h, .inr (0, [.ref q, .int len])), (q, .inl (g.2.1.1, N, .inl f))] := hD
            exact k_vret hx hb hr hlocks ⟨hK, hP, hD, hS, hA, hE, hN⟩ dX1_jump_130 (Nat.le_of_ble_eq_true rfl) (Nat.le_of_ble_eq_true rfl) (by simp only [sp_X1_jump_address, sp_X1_jump_slips, sp_X1_jump_registers, if_neg c_0, if_neg c_1, if_pos c_9, if_neg c_13, if_neg c_14])
          · skip
            refine lv_aload_n hx hb dX1_jump_114 rfl (lv_at hl 3 rfl) ?_
            refine lv_dup hx hb dX1_jump_115 rfl ?_
            refine va_get (D := g.1) (ci := 1) (v := .int sl) (C := RX1) (T := TX1) (N := 9) hx hb hts iX1 hown hK hP 0 rfl rfl 6 (by decide) (hts (.fieldLink RX1 34 "FaultIsolation$Machine" "slips" "I") (by decide +kernel)) (fun _ h9 => h9) rfl dX1_jump_116 ?_
            refine lv_iconst (v := 1) hx hb dX1_jump_119 (by decide) ?_
            refine lv_iadd hx hb dX1_jump_120 ?_
            refine va_put (D := g.1) (ci := 1) (v := .int (sl + 1)) (ty := .int) (C := RX1) (T := TX1) (N := 9) hx hb hts iX1 tyX1 tyX1_ok nmX1 hown hK hP hD hS 0 rfl rfl 6 (by decide) (hts (.fieldLink RX1 34 "FaultIsolation$Machine" "slips" "I") (by decide +kernel)) (fun _ h9 => h9) rfl (by decide +kernel) rfl rfl (Nat.le_of_ble_eq_true rfl) dX1_jump_121 (fun H locs hP hD hS => ?_)
            have hP : va_P g.1 vwCl [(hM, .inr (1, [.int base, .ref qr, .ref qm, .int ad, .int sn, .int sy, .int (sl + 1), .int rg, .int ly])), (qr, .inl (g.2.1.1, 8, .inl fr)), (qm, .inl (g.2.1.1, 4096, .inl fm)), (h, .inr (0, [.ref q, .int len])), (q, .inl (g.2.1.1, N, .inl f))] H := hP
            have hD : va_D A [(hM, .inr (1, [.int base, .ref qr, .ref qm, .int ad, .int sn, .int sy, .int (sl + 1), .int rg, .int ly])), (qr, .inl (g.2.1.1, 8, .inl fr)), (qm, .inl (g.2.1.1, 4096, .inl fm)), (h, .inr (0, [.ref q, .int len])), (q, .inl (g.2.1.1, N, .inl f))] := hD
            refine lv_aload_n hx hb dX1_jump_124 rfl (lv_at hl 3 rfl) ?_
            refine lv_iload hx hb dX1_jump_125 (lv_at hl 0 rfl) ?_
            refine va_put (D := g.1) (ci := 1) (v := .int (sp_X1_valueOf fr (sp_X0_a N f ad))) (ty := .int) (C := RX1) (T := TX1) (N := 9) hx hb hts iX1 tyX1 tyX1_ok nmX1 hown hK hP hD hS 0 rfl rfl 3 (by decide) (hts (.fieldLink RX1 25 "FaultIsolation$Machine" "address" "I") (by decide +kernel)) (fun _ h9 => h9) rfl (by decide +kernel) rfl rfl (Nat.le_of_ble_eq_true rfl) dX1_jump_127 (fun H locs hP hD hS => ?_)
            have hP : va_P g.1 vwCl [(hM, .inr (1, [.int base, .ref qr, .ref qm, .int (sp_X1_valueOf fr (sp_X0_a N f ad)), .int sn, .int sy, .int (sl + 1), .int rg, .int ly])), (qr, .inl (g.2.1.1, 8, .inl fr)), (qm, .inl (g.2.1.1, 4096, .inl fm)), (h, .inr (0, [.ref q, .int len])), (q, .inl (g.2.1.1, N, .inl f))] H := hP
            have hD : va_D A [(hM, .inr (1, [.int base, .ref qr, .ref qm, .int (sp_X1_valueOf fr (sp_X0_a N f ad)), .int sn, .int sy, .int (sl + 1), .int rg, .int ly])), (qr, .inl (g.2.1.1, 8, .inl fr)), (qm, .inl (g.2.1.1, 4096, .inl fm)), (h, .inr (0, [.ref q, .int len])), (q, .inl (g.2.1.1, N, .inl f))] := hD
            exact k_vret hx hb hr hlocks ⟨hK, hP, hD, hS, hA, hE, hN⟩ dX1_jump_130 (Nat.le_of_ble_eq_true rfl) (Nat.le_of_ble_eq_true rfl) (by simp only [sp_X1_jump_address, sp_X1_jump_slips, sp_X1_jump_registers, if_neg c_0, if_neg c_1, if_pos c_9, if_neg c_13, if_pos c_14])
        · skip
          refine lv_aload_n hx hb dX1_jump_98 rfl (lv_at hl 3 rfl) ?_
          refine lv_bipush (v := 7) hx hb dX1_jump_99 (by decide) ?_
          refine lv_iload hx hb dX1_jump_101 (lv_at hl 1 rfl) ?_
          refine kvV (As := [.int 7, .int (ad + 4)]) (rest := []) (wc := [(hM, .inr (1, [.int base, .ref qr, .ref qm, .int ad, .int sn, .int sy, .int sl, .int rg, .int ly])), (qr, .inl (g.2.1.1, 8, .inl fr)), (qm, .inl (g.2.1.1, 4096, .inl fm))]) (wr := [(h, .inr (0, [.ref q, .int len])), (q, .inl (g.2.1.1, N, .inl f))]) ⟨hx, hb, hml, hown, hts⟩ (c_X1_change l g hM qr qm fr fm base ad sn sy sl rg ly 7 (ad + 4)) (cwV 2 hts gX1_jump_X1_change rfl rfl rfl (by decide +kernel) ⟨Nat.le_of_ble_eq_true rfl, Nat.le_of_ble_eq_true rfl⟩) ⟨hK, hP, hD, hS, hA, hE, hN⟩ [0, 1, 2] [3, 4] ⟨rfl, rfl, by decide⟩ (q0 := 0) (ci := 1) rfl rfl rfl rfl hl.1 (Nat.le_of_ble_eq_true rfl) dX1_jump_103 ⟨Nat.le_of_ble_eq_true rfl, Nat.le_of_ble_eq_true rfl⟩ rfl (fun u H locs hw hP hD hS => ?_)
          subst hw
          have hP := hP.sub (ws' := [(hM, .inr (1, [.int base, .ref qr, .ref qm, .int ad, .int sn, .int sy, .int sl, .int rg, .int ly])), (qr, .inl (g.2.1.1, 8, .inl (sp_X1_change_registers fr 7 (ad + 4)))), (qm, .inl (g.2.1.1, 4096, .inl fm)), (h, .inr (0, [.ref q, .int len])), (q, .inl (g.2.1.1, N, .inl f))]) [2, 3, 4, 0, 1] rfl
          have hD := hD.sub (ws' := [(hM, .inr (1, [.int base, .ref qr, .ref qm, .int ad, .int sn, .int sy, .int sl, .int rg, .int ly])), (qr, .inl (g.2.1.1, 8, .inl (sp_X1_change_registers fr 7 (ad + 4)))), (qm, .inl (g.2.1.1, 4096, .inl fm)), (h, .inr (0, [.ref q, .int len])), (q, .inl (g.2.1.1, N, .inl f))]) [2, 3, 4, 0, 1] (by decide) rfl
          refine lv_iload hx hb dX1_jump_106 (lv_at hl 0 rfl) ?_
          refine kiSN (As := [.int (sp_X1_valueOf fr (sp_X0_a N f ad))]) (rest := []) (wc := []) (wr := [(hM, .inr (1, [.int base, .ref qr, .ref qm, .int ad, .int sn, .int sy, .int sl, .int rg, .int ly])), (qr, .inl (g.2.1.1, 8, .inl (sp_X1_change_registers fr 7 (ad + 4)))), (qm, .inl (g.2.1.1, 4096, .inl fm)), (h, .inr (0, [.ref q, .int len])), (q, .inl (g.2.1.1, N, .inl f))]) ⟨hx, hb, hml, hown, hts⟩ (c_X5_isBundleStart l g (sp_X1_valueOf fr (sp_X0_a N f ad))) ⟨va_cnB (host := RX5) 1 hts gX1_jump_X5_isBundleStart_n105 rfl rfl rfl (hN.1 (RX1, 105, yX5_isBundleStart) (List.mem_of_getElem? (i := 2) rfl)) (hts (.initialized RX5) (by decide +kernel)) (by decide +kernel) ⟨Nat.le_of_ble_eq_true rfl, Nat.le_of_ble_eq_true rfl⟩, hts (.static yX5_isBundleStart) (by decide +kernel), trivial⟩ ⟨hK, hP, hD, hS, hA, hE, hN⟩ [] [0, 1, 2, 3, 4] ⟨rfl, rfl, by decide⟩ rfl hl.1 (Nat.le_of_ble_eq_true rfl) dX1_jump_108 ⟨Nat.le_of_ble_eq_true rfl, Nat.le_of_ble_eq_true rfl⟩ rfl (fun r u H locs hw hP hD hS => ?_)
          obtain ⟨hq, hw⟩ := hw
          subst r
          subst hw
          have hP := hP.sub (ws' := [(hM, .inr (1, [.int base, .ref qr, .ref qm, .int ad, .int sn, .int sy, .int sl, .int rg, .int ly])), (qr, .inl (g.2.1.1, 8, .inl (sp_X1_change_registers fr 7 (ad + 4)))), (qm, .inl (g.2.1.1, 4096, .inl fm)), (h, .inr (0, [.ref q, .int len])), (q, .inl (g.2.1.1, N, .inl f))]) [0, 1, 2, 3, 4] rfl
          have hD := hD.sub (ws' := [(hM, .inr (1, [.int base, .ref qr, .ref qm, .int ad, .int sn, .int sy, .int sl, .int rg, .int ly])), (qr, .inl (g.2.1.1, 8, .inl (sp_X1_change_registers fr 7 (ad + 4)))), (qm, .inl (g.2.1.1, 4096, .inl fm)), (h, .inr (0, [.ref q, .int len])), (q, .inl (g.2.1.1, N, .inl f))]) [0, 1, 2, 3, 4] (by decide) rfl
          refine lv_if_ne (tgt := 124) hx hb dX1_jump_111 (by decide) (fun c_15 => ?_) (fun c_15 => ?_)
          · skip
            refine lv_aload_n hx hb dX1_jump_124 rfl (lv_at hl 3 rfl) ?_
            refine lv_iload hx hb dX1_jump_125 (lv_at hl 0 rfl) ?_
            refine va_put (D := g.1) (ci := 1) (v := .int (sp_X1_valueOf fr (sp_X0_a N f ad))) (ty := .int) (C := RX1) (T := TX1) (N := 9) hx hb hts iX1 tyX1 tyX1_ok nmX1 hown hK hP hD hS 0 rfl rfl 3 (by decide) (hts (.fieldLink RX1 25 "FaultIsolation$Machine" "address" "I") (by decide +kernel)) (fun _ h9 => h9) rfl (by decide +kernel) rfl rfl (Nat.le_of_ble_eq_true rfl) dX1_jump_127 (fun H locs hP hD hS => ?_)
            have hP : va_P g.1 vwCl [(hM, .inr (1, [.int base, .ref qr, .ref qm, .int (sp_X1_valueOf fr (sp_X0_a N f ad)), .int sn, .int sy, .int sl, .int rg, .int ly])), (qr, .inl (g.2.1.1, 8, .inl (sp_X1_change_registers fr 7 (ad + 4)))), (qm, .inl (g.2.1.1, 4096, .inl fm)), (h, .inr (0, [.ref q, .int len])), (q, .inl (g.2.1.1, N, .inl f))] H := hP
            have hD : va_D A [(hM, .inr (1, [.int base, .ref qr, .ref qm, .int (sp_X1_valueOf fr (sp_X0_a N f ad)), .int sn, .int sy, .int sl, .int rg, .int ly])), (qr, .inl (g.2.1.1, 8, .inl (sp_X1_change_registers fr 7 (ad + 4)))), (qm, .inl (g.2.1.1, 4096, .inl fm)), (h, .inr (0, [.ref q, .int len])), (q, .inl (g.2.1.1, N, .inl f))] := hD
            exact k_vret hx hb hr hlocks ⟨hK, hP, hD, hS, hA, hE, hN⟩ dX1_jump_130 (Nat.le_of_ble_eq_true rfl) (Nat.le_of_ble_eq_true rfl) (by simp only [sp_X1_jump_address, sp_X1_jump_slips, sp_X1_jump_registers, if_neg c_0, if_neg c_1, if_pos c_9, if_pos c_13, if_neg c_15])
          · skip
            refine lv_aload_n hx hb dX1_jump_114 rfl (lv_at hl 3 rfl) ?_
            refine lv_dup hx hb dX1_jump_115 rfl ?_
            refine va_get (D := g.1) (ci := 1) (v := .int sl) (C := RX1) (T := TX1) (N := 9) hx hb hts iX1 hown hK hP 0 rfl rfl 6 (by decide) (hts (.fieldLink RX1 34 "FaultIsolation$Machine" "slips" "I") (by decide +kernel)) (fun _ h9 => h9) rfl dX1_jump_116 ?_
            refine lv_iconst (v := 1) hx hb dX1_jump_119 (by decide) ?_
            refine lv_iadd hx hb dX1_jump_120 ?_
            refine va_put (D := g.1) (ci := 1) (v := .int (sl + 1)) (ty := .int) (C := RX1) (T := TX1) (N := 9) hx hb hts iX1 tyX1 tyX1_ok nmX1 hown hK hP hD hS 0 rfl rfl 6 (by decide) (hts (.fieldLink RX1 34 "FaultIsolation$Machine" "slips" "I") (by decide +kernel)) (fun _ h9 => h9) rfl (by decide +kernel) rfl rfl (Nat.le_of_ble_eq_true rfl) dX1_jump_121 (fun H locs hP hD hS => ?_)
            have hP : va_P g.1 vwCl [(hM, .inr (1, [.int base, .ref qr, .ref qm, .int ad, .int sn, .int sy, .int (sl + 1), .int rg, .int ly])), (qr, .inl (g.2.1.1, 8, .inl (sp_X1_change_registers fr 7 (ad + 4)))), (qm, .inl (g.2.1.1, 4096, .inl fm)), (h, .inr (0, [.ref q, .int len])), (q, .inl (g.2.1.1, N, .inl f))] H := hP
            have hD : va_D A [(hM, .inr (1, [.int base, .ref qr, .ref qm, .int ad, .int sn, .int sy, .int (sl + 1), .int rg, .int ly])), (qr, .inl (g.2.1.1, 8, .inl (sp_X1_change_registers fr 7 (ad + 4)))), (qm, .inl (g.2.1.1, 4096, .inl fm)), (h, .inr (0, [.ref q, .int len])), (q, .inl (g.2.1.1, N, .inl f))] := hD
            refine lv_aload_n hx hb dX1_jump_124 rfl (lv_at hl 3 rfl) ?_
            refine lv_iload hx hb dX1_jump_125 (lv_at hl 0 rfl) ?_
            refine va_put (D := g.1) (ci := 1) (v := .int (sp_X1_valueOf fr (sp_X0_a N f ad))) (ty := .int) (C := RX1) (T := TX1) (N := 9) hx hb hts iX1 tyX1 tyX1_ok nmX1 hown hK hP hD hS 0 rfl rfl 3 (by decide) (hts (.fieldLink RX1 25 "FaultIsolation$Machine" "address" "I") (by decide +kernel)) (fun _ h9 => h9) rfl (by decide +kernel) rfl rfl (Nat.le_of_ble_eq_true rfl) dX1_jump_127 (fun H locs hP hD hS => ?_)
            have hP : va_P g.1 vwCl [(hM, .inr (1, [.int base, .ref qr, .ref qm, .int (sp_X1_valueOf fr (sp_X0_a N f ad)), .int sn, .int sy, .int (sl + 1), .int rg, .int ly])), (qr, .inl (g.2.1.1, 8, .inl (sp_X1_change_registers fr 7 (ad + 4)))), (qm, .inl (g.2.1.1, 4096, .inl fm)), (h, .inr (0, [.ref q, .int len])), (q, .inl (g.2.1.1, N, .inl f))] H := hP
            have hD : va_D A [(hM, .inr (1, [.int base, .ref qr, .ref qm, .int (sp_X1_valueOf fr (sp_X0_a N f ad)), .int sn, .int sy, .int (sl + 1), .int rg, .int ly])), (qr, .inl (g.2.1.1, 8, .inl (sp_X1_change_registers fr 7 (ad + 4)))), (qm, .inl (g.2.1.1, 4096, .inl fm)), (h, .inr (0, [.ref q, .int len])), (q, .inl (g.2.1.1, N, .inl f))] := hD
            exact k_vret hx hb hr hlocks ⟨hK, hP, hD, hS, hA, hE, hN⟩ dX1_jump_130 (Nat.le_of_ble_eq_true rfl) (Nat.le_of_ble_eq_true rfl) (by simp only [sp_X1_jump_address, sp_X1_jump_slips, sp_X1_jump_registers, if_neg c_0, if_neg c_1, if_pos c_9, if_pos c_13, if_pos c_15])
  · skip
    refine lv_aload_n hx hb dX1_jump_23 rfl (lv_at hl 2 rfl) ?_
    refine lv_aload_n hx hb dX1_jump_24 rfl (lv_at hl 3 rfl) ?_
    refine lv_aload_n hx hb dX1_jump_25 rfl (lv_at hl 2 rfl) ?_
    refine va_get (D := g.1) (ci := 1) (v := .int ad) (C := RX1) (T := TX1) (N := 9) hx hb hts iX1 hown hK hP 0 rfl rfl 3 (by decide) (hts (.fieldLink RX1 25 "FaultIsolation$Machine" "address" "I") (by decide +kernel)) (fun _ h9 => h9) rfl dX1_jump_26 ?_
    refine kiV (As := [.int ad]) (rest := [.ref hM]) (wc := [(h, .inr (0, [.ref q, .int len])), (q, .inl (g.2.1.1, N, .inl f))]) (wr := [(hM, .inr (1, [.int base, .ref qr, .ref qm, .int ad, .int sn, .int sy, .int sl, .int rg, .int ly])), (qr, .inl (g.2.1.1, 8, .inl fr)), (qm, .inl (g.2.1.1, 4096, .inl fm))]) ⟨hx, hb, hml, hown, hts⟩ (c_X0_a l g h q N f len ad hNn) (cwV 1 hts gX1_jump_X0_a rfl rfl rfl (by decide +kernel) ⟨Nat.le_of_ble_eq_true rfl, Nat.le_of_ble_eq_true rfl⟩) ⟨hK, hP, hD, hS, hA, hE, hN⟩ [3, 4] [0, 1, 2] ⟨rfl, rfl, by decide⟩ (q0 := 3) (ci := 0) rfl rfl rfl rfl hl.1 (Nat.le_of_ble_eq_true rfl) dX1_jump_29 ⟨Nat.le_of_ble_eq_true rfl, Nat.le_of_ble_eq_true rfl⟩ rfl (fun r u H locs hw hP hD hS => ?_)
    obtain ⟨hq, hw⟩ := hw
    subst r
    subst hw
    have hP := hP.sub (ws' := [(hM, .inr (1, [.int base, .ref qr, .ref qm, .int ad, .int sn, .int sy, .int sl, .int rg, .int ly])), (qr, .inl (g.2.1.1, 8, .inl fr)), (qm, .inl (g.2.1.1, 4096, .inl fm)), (h, .inr (0, [.ref q, .int len])), (q, .inl (g.2.1.1, N, .inl f))]) [0, 1, 2, 3, 4] rfl
    have hD := hD.sub (ws' := [(hM, .inr (1, [.int base, .ref qr, .ref qm, .int ad, .int sn, .int sy, .int sl, .int rg, .int ly])), (qr, .inl (g.2.1.1, 8, .inl fr)), (qm, .inl (g.2.1.1, 4096, .inl fm)), (h, .inr (0, [.ref q, .int len])), (q, .inl (g.2.1.1, N, .inl f))]) [0, 1, 2, 3, 4] (by decide) rfl
    refine kiV (As := [.int (sp_X0_a N f ad)]) (rest := []) (wc := [(hM, .inr (1, [.int base, .ref qr, .ref qm, .int ad, .int sn, .int sy, .int sl, .int rg, .int ly])), (qr, .inl (g.2.1.1, 8, .inl fr)), (qm, .inl (g.2.1.1, 4096, .inl fm))]) (wr := [(h, .inr (0, [.ref q, .int len])), (q, .inl (g.2.1.1, N, .inl f))]) ⟨hx, hb, hml, hown, hts⟩ (c_X1_valueOf l g hM qr qm fr fm base ad sn sy sl rg ly (sp_X0_a N f ad)) (cwV 1 hts gX1_jump_X1_valueOf rfl rfl rfl (by decide +kernel) ⟨Nat.le_of_ble_eq_true rfl, Nat.le_of_ble_eq_true rfl⟩) ⟨hK, hP, hD, hS, hA, hE, hN⟩ [0, 1, 2] [3, 4] ⟨rfl, rfl, by decide⟩ (q0 := 0) (ci := 1) rfl rfl rfl rfl hl.1 (Nat.le_of_ble_eq_true rfl) dX1_jump_32 ⟨Nat.le_of_ble_eq_true rfl, Nat.le_of_ble_eq_true rfl⟩ rfl (fun r u H locs hw hP hD hS => ?_)
    obtain ⟨hq, hw⟩ := hw
    subst r
    subst hw
    have hP := hP.sub (ws' := [(hM, .inr (1, [.int base, .ref qr, .ref qm, .int ad, .int sn, .int sy, .int sl, .int rg, .int ly])), (qr, .inl (g.2.1.1, 8, .inl fr)), (qm, .inl (g.2.1.1, 4096, .inl fm)), (h, .inr (0, [.ref q, .int len])), (q, .inl (g.2.1.1, N, .inl f))]) [2, 3, 4, 0, 1] rfl
    have hD := hD.sub (ws' := [(hM, .inr (1, [.int base, .ref qr, .ref qm, .int ad, .int sn, .int sy, .int sl, .int rg, .int ly])), (qr, .inl (g.2.1.1, 8, .inl fr)), (qm, .inl (g.2.1.1, 4096, .inl fm)), (h, .inr (0, [.ref q, .int len])), (q, .inl (g.2.1.1, N, .inl f))]) [2, 3, 4, 0, 1] (by decide) rfl
    refine lv_if_eq (tgt := 45) hx hb dX1_jump_35 (by decide) (fun c_16 => ?_) (fun c_16 => ?_)
    · skip
      refine lv_iload_n hx hb dX1_jump_45 rfl (lv_at hl 4 rfl) ?_
      refine lv_if_eq (tgt := 62) hx hb dX1_jump_46 (by decide) (fun c_17 => ?_) (fun c_17 => ?_)
      · skip
        refine lv_aload_n hx hb dX1_jump_62 rfl (lv_at hl 3 rfl) ?_
        refine lv_aload_n hx hb dX1_jump_63 rfl (lv_at hl 2 rfl) ?_
        refine va_get (D := g.1) (ci := 1) (v := .int ad) (C := RX1) (T := TX1) (N := 9) hx hb hts iX1 hown hK hP 0 rfl rfl 3 (by decide) (hts (.fieldLink RX1 25 "FaultIsolation$Machine" "address" "I") (by decide +kernel)) (fun _ h9 => h9) rfl dX1_jump_64 ?_
        refine kiV (As := [.int ad]) (rest := []) (wc := [(h, .inr (0, [.ref q, .int len])), (q, .inl (g.2.1.1, N, .inl f))]) (wr := [(hM, .inr (1, [.int base, .ref qr, .ref qm, .int ad, .int sn, .int sy, .int sl, .int rg, .int ly])), (qr, .inl (g.2.1.1, 8, .inl fr)), (qm, .inl (g.2.1.1, 4096, .inl fm))]) ⟨hx, hb, hml, hown, hts⟩ (c_X0_n l g h q N f len ad hNn) (cwV 1 hts gX1_jump_X0_n rfl rfl rfl (by decide +kernel) ⟨Nat.le_of_ble_eq_true rfl, Nat.le_of_ble_eq_true rfl⟩) ⟨hK, hP, hD, hS, hA, hE, hN⟩ [3, 4] [0, 1, 2] ⟨rfl, rfl, by decide⟩ (q0 := 3) (ci := 0) rfl rfl rfl rfl hl.1 (Nat.le_of_ble_eq_true rfl) dX1_jump_67 ⟨Nat.le_of_ble_eq_true rfl, Nat.le_of_ble_eq_true rfl⟩ rfl (fun r u H locs hw hP hD hS => ?_)
        obtain ⟨hq, hw⟩ := hw
        subst r
        subst hw
        have hP := hP.sub (ws' := [(hM, .inr (1, [.int base, .ref qr, .ref qm, .int ad, .int sn, .int sy, .int sl, .int rg, .int ly])), (qr, .inl (g.2.1.1, 8, .inl fr)), (qm, .inl (g.2.1.1, 4096, .inl fm)), (h, .inr (0, [.ref q, .int len])), (q, .inl (g.2.1.1, N, .inl f))]) [0, 1, 2, 3, 4] rfl
        have hD := hD.sub (ws' := [(hM, .inr (1, [.int base, .ref qr, .ref qm, .int ad, .int sn, .int sy, .int sl, .int rg, .int ly])), (qr, .inl (g.2.1.1, 8, .inl fr)), (qm, .inl (g.2.1.1, 4096, .inl fm)), (h, .inr (0, [.ref q, .int len])), (q, .inl (g.2.1.1, N, .inl f))]) [0, 1, 2, 3, 4] (by decide) rfl
        refine lv_istore (lv' := [(5, .int (sp_X0_n N f ad)), (4, .int (ad + 4)), (3, .int (sp_X0_word N f ad)), (0, .ref hM), (1, .ref h), (2, .int pr)]) hx hb dX1_jump_70 hl (by decide) rfl (fun ls hl => ?_)
        refine lv_iload_n hx hb dX1_jump_72 rfl (lv_at hl 2 rfl) ?_
        refine lv_bipush (v := 14) hx hb dX1_jump_73 (by decide) ?_
        refine lv_icmp_ne (tgt := 92) hx hb dX1_jump_75 (by decide) (fun c_18 => ?_) (fun c_18 => ?_)
        · skip
          refine lv_iload_n hx hb dX1_jump_92 rfl (lv_at hl 2 rfl) ?_
          refine lv_bipush (v := 15) hx hb dX1_jump_93 (by decide) ?_
          refine lv_icmp_ne (tgt := 106) hx hb dX1_jump_95 (by decide) (fun c_19 => ?_) (fun c_19 => ?_)
          · skip
            refine lv_iload hx hb dX1_jump_106 (lv_at hl 0 rfl) ?_
            refine kiSN (As := [.int (sp_X0_n N f ad)]) (rest := []) (wc := []) (wr := [(hM, .inr (1, [.int base, .ref qr, .ref qm, .int ad, .int sn, .int sy, .int sl, .int rg, .int ly])), (qr, .inl (g.2.1.1, 8, .inl fr)), (qm, .inl (g.2.1.1, 4096, .inl fm)), (h, .inr (0, [.ref q, .int len])), (q, .inl (g.2.1.1, N, .inl f))]) ⟨hx, hb, hml, hown, hts⟩ (c_X5_isBundleStart l g (sp_X0_n N f ad)) ⟨va_cnB (host := RX5) 1 hts gX1_jump_X5_isBundleStart_n105 rfl rfl rfl (hN.1 (RX1, 105, yX5_isBundleStart) (List.mem_of_getElem? (i := 2) rfl)) (hts (.initialized RX5) (by decide +kernel)) (by decide +kernel) ⟨Nat.le_of_ble_eq_true rfl, Nat.le_of_ble_eq_true rfl⟩, hts (.static yX5_isBundleStart) (by decide +kernel), trivial⟩ ⟨hK, hP, hD, hS, hA, hE, hN⟩ [] [0, 1, 2, 3, 4] ⟨rfl, rfl, by decide⟩ rfl hl.1 (Nat.le_of_ble_eq_true rfl) dX1_jump_108 ⟨Nat.le_of_ble_eq_true rfl, Nat.le_of_ble_eq_true rfl⟩ rfl (fun r u H locs hw hP hD hS => ?_)
            obtain ⟨hq, hw⟩ := hw
            subst r
            subst hw
            have hP := hP.sub (ws' := [(hM, .inr (1, [.int base, .ref qr, .ref qm, .int ad, .int sn, .int sy, .int sl, .int rg, .int ly])), (qr, .inl (g.2.1.1, 8, .inl fr)), (qm, .inl (g.2.1.1, 4096, .inl fm)), (h, .inr (0, [.ref q, .int len])), (q, .inl (g.2.1.1, N, .inl f))]) [0, 1, 2, 3, 4] rfl
            have hD := hD.sub (ws' := [(hM, .inr (1, [.int base, .ref qr, .ref qm, .int ad, .int sn, .int sy, .int sl, .int rg, .int ly])), (qr, .inl (g.2.1.1, 8, .inl fr)), (qm, .inl (g.2.1.1, 4096, .inl fm)), (h, .inr (0, [.ref q, .int len])), (q, .inl (g.2.1.1, N, .inl f))]) [0, 1, 2, 3, 4] (by decide) rfl
            refine lv_if_ne (tgt := 124) hx hb dX1_jump_111 (by decide) (fun c_20 => ?_) (fun c_20 => ?_)
            · skip
              refine lv_aload_n hx hb dX1_jump_124 rfl (lv_at hl 3 rfl) ?_
              refine lv_iload hx hb dX1_jump_125 (lv_at hl 0 rfl) ?_
              refine va_put (D := g.1) (ci := 1) (v := .int (sp_X0_n N f ad)) (ty := .int) (C := RX1) (T := TX1) (N := 9) hx hb hts iX1 tyX1 tyX1_ok nmX1 hown hK hP hD hS 0 rfl rfl 3 (by decide) (hts (.fieldLink RX1 25 "FaultIsolation$Machine" "address" "I") (by decide +kernel)) (fun _ h9 => h9) rfl (by decide +kernel) rfl rfl (Nat.le_of_ble_eq_true rfl) dX1_jump_127 (fun H locs hP hD hS => ?_)
              have hP : va_P g.1 vwCl [(hM, .inr (1, [.int base, .ref qr, .ref qm, .int (sp_X0_n N f ad), .int sn, .int sy, .int sl, .int rg, .int ly])), (qr, .inl (g.2.1.1, 8, .inl fr)), (qm, .inl (g.2.1.1, 4096, .inl fm)), (h, .inr (0, [.ref q, .int len])), (q, .inl (g.2.1.1, N, .inl f))] H := hP
              have hD : va_D A [(hM, .inr (1, [.int base, .ref qr, .ref qm, .int (sp_X0_n N f ad), .int sn, .int sy, .int sl, .int rg, .int ly])), (qr, .inl (g.2.1.1, 8, .inl fr)), (qm, .inl (g.2.1.1, 4096, .inl fm)), (h, .inr (0, [.ref q, .int len])), (q, .inl (g.2.1.1, N, .inl f))] := hD
              exact k_vret hx hb hr hlocks ⟨hK, hP, hD, hS, hA, hE, hN⟩ dX1_jump_130 (Nat.le_of_ble_eq_true rfl) (Nat.le_of_ble_eq_true rfl) (by simp only [sp_X1_jump_address, sp_X1_jump_slips, sp_X1_jump_registers, if_pos c_0, if_pos c_16, if_pos c_17, if_neg c_18, if_neg c_19, if_neg c_20])
            · skip
              refine lv_aload_n hx hb dX1_jump_114 rfl (lv_at hl 3 rfl) ?_
              refine lv_dup hx hb dX1_jump_115 rfl ?_
              refine va_get (D := g.1) (ci := 1) (v := .int sl) (C := RX1) (T := TX1) (N := 9) hx hb hts iX1 hown hK hP 0 rfl rfl 6 (by decide) (hts (.fieldLink RX1 34 "FaultIsolation$Machine" "slips" "I") (by decide +kernel)) (fun _ h9 => h9) rfl dX1_jump_116 ?_
              refine lv_iconst (v := 1) hx hb dX1_jump_119 (by decide) ?_
              refine lv_iadd hx hb dX1_jump_120 ?_
              refine va_put (D := g.1) (ci := 1) (v := .int (sl + 1)) (ty := .int) (C := RX1) (T := TX1) (N := 9) hx hb hts iX1 tyX1 tyX1_ok nmX1 hown hK hP hD hS 0 rfl rfl 6 (by decide) (hts (.fieldLink RX1 34 "FaultIsolation$Machine" "slips" "I") (by decide +kernel)) (fun _ h9 => h9) rfl (by decide +kernel) rfl rfl (Nat.le_of_ble_eq_true rfl) dX1_jump_121 (fun H locs hP hD hS => ?_)
              have hP : va_P g.1 vwCl [(hM, .inr (1, [.int base, .ref qr, .ref qm, .int ad, .int sn, .int sy, .int (sl + 1), .int rg, .int ly])), (qr, .inl (g.2.1.1, 8, .inl fr)), (qm, .inl (g.2.1.1, 4096, .inl fm)), (h, .inr (0, [.ref q, .int len])), (q, .inl (g.2.1.1, N, .inl f))] H := hP
              have hD : va_D A [(hM, .inr (1, [.int base, .ref qr, .ref qm, .int ad, .int sn, .int sy, .int (sl + 1), .int rg, .int ly])), (qr, .inl (g.2.1.1, 8, .inl fr)), (qm, .inl (g.2.1.1, 4096, .inl fm)), (h, .inr (0, [.ref q, .int len])), (q, .inl (g.2.1.1, N, .inl f))] := hD
              refine lv_aload_n hx hb dX1_jump_124 rfl (lv_at hl 3 rfl) ?_
              refine lv_iload hx hb dX1_jump_125 (lv_at hl 0 rfl) ?_
              refine va_put (D := g.1) (ci := 1) (v := .int (sp_X0_n N f ad)) (ty := .int) (C := RX1) (T := TX1) (N := 9) hx hb hts iX1 tyX1 tyX1_ok nmX1 hown hK hP hD hS 0 rfl rfl 3 (by decide) (hts (.fieldLink RX1 25 "FaultIsolation$Machine" "address" "I") (by decide +kernel)) (fun _ h9 => h9) rfl (by decide +kernel) rfl rfl (Nat.le_of_ble_eq_true rfl) dX1_jump_127 (fun H locs hP hD hS => ?_)
              have hP : va_P g.1 vwCl [(hM, .inr (1, [.int base, .ref qr, .ref qm, .int (sp_X0_n N f ad), .int sn, .int sy, .int (sl + 1), .int rg, .int ly])), (qr, .inl (g.2.1.1, 8, .inl fr)), (qm, .inl (g.2.1.1, 4096, .inl fm)), (h, .inr (0, [.ref q, .int len])), (q, .inl (g.2.1.1, N, .inl f))] H := hP
              have hD : va_D A [(hM, .inr (1, [.int base, .ref qr, .ref qm, .int (sp_X0_n N f ad), .int sn, .int sy, .int (sl + 1), .int rg, .int ly])), (qr, .inl (g.2.1.1, 8, .inl fr)), (qm, .inl (g.2.1.1, 4096, .inl fm)), (h, .inr (0, [.ref q, .int len])), (q, .inl (g.2.1.1, N, .inl f))] := hD
              exact k_vret hx hb hr hlocks ⟨hK, hP, hD, hS, hA, hE, hN⟩ dX1_jump_130 (Nat.le_of_ble_eq_true rfl) (Nat.le_of_ble_eq_true rfl) (by simp only [sp_X1_jump_address, sp_X1_jump_slips, sp_X1_jump_registers, if_pos c_0, if_pos c_16, if_pos c_17, if_neg c_18, if_neg c_19, if_pos c_20])
          · skip
            refine lv_aload_n hx hb dX1_jump_98 rfl (lv_at hl 3 rfl) ?_
            refine lv_bipush (v := 7) hx hb dX1_jump_99 (by decide) ?_
            refine lv_iload hx hb dX1_jump_101 (lv_at hl 1 rfl) ?_
            refine kvV (As := [.int 7, .int (ad + 4)]) (rest := []) (wc := [(hM, .inr (1, [.int base, .ref qr, .ref qm, .int ad, .int sn, .int sy, .int sl, .int rg, .int ly])), (qr, .inl (g.2.1.1, 8, .inl fr)), (qm, .inl (g.2.1.1, 4096, .inl fm))]) (wr := [(h, .inr (0, [.ref q, .int len])), (q, .inl (g.2.1.1, N, .inl f))]) ⟨hx, hb, hml, hown, hts⟩ (c_X1_change l g hM qr qm fr fm base ad sn sy sl rg ly 7 (ad + 4)) (cwV 2 hts gX1_jump_X1_change rfl rfl rfl (by decide +kernel) ⟨Nat.le_of_ble_eq_true rfl, Nat.le_of_ble_eq_true rfl⟩) ⟨hK, hP, hD, hS, hA, hE, hN⟩ [0, 1, 2] [3, 4] ⟨rfl, rfl, by decide⟩ (q0 := 0) (ci := 1) rfl rfl rfl rfl hl.1 (Nat.le_of_ble_eq_true rfl) dX1_jump_103 ⟨Nat.le_of_ble_eq_true rfl, Nat.le_of_ble_eq_true rfl⟩ rfl (fun u H locs hw hP hD hS => ?_)
            subst hw
            have hP := hP.sub (ws' := [(hM, .inr (1, [.int base, .ref qr, .ref qm, .int ad, .int sn, .int sy, .int sl, .int rg, .int ly])), (qr, .inl (g.2.1.1, 8, .inl (sp_X1_change_registers fr 7 (ad + 4)))), (qm, .inl (g.2.1.1, 4096, .inl fm)), (h, .inr (0, [.ref q, .int len])), (q, .inl (g.2.1.1, N, .inl f))]) [2, 3, 4, 0, 1] rfl
            have hD := hD.sub (ws' := [(hM, .inr (1, [.int base, .ref qr, .ref qm, .int ad, .int sn, .int sy, .int sl, .int rg, .int ly])), (qr, .inl (g.2.1.1, 8, .inl (sp_X1_change_registers fr 7 (ad + 4)))), (qm, .inl (g.2.1.1, 4096, .inl fm)), (h, .inr (0, [.ref q, .int len])), (q, .inl (g.2.1.1, N, .inl f))]) [2, 3, 4, 0, 1] (by decide) rfl
            refine lv_iload hx hb dX1_jump_106 (lv_at hl 0 rfl) ?_
            refine kiSN (As := [.int (sp_X0_n N f ad)]) (rest := []) (wc := []) (wr := [(hM, .inr (1, [.int base, .ref qr, .ref qm, .int ad, .int sn, .int sy, .int sl, .int rg, .int ly])), (qr, .inl (g.2.1.1, 8, .inl (sp_X1_change_registers fr 7 (ad + 4)))), (qm, .inl (g.2.1.1, 4096, .inl fm)), (h, .inr (0, [.ref q, .int len])), (q, .inl (g.2.1.1, N, .inl f))]) ⟨hx, hb, hml, hown, hts⟩ (c_X5_isBundleStart l g (sp_X0_n N f ad)) ⟨va_cnB (host := RX5) 1 hts gX1_jump_X5_isBundleStart_n105 rfl rfl rfl (hN.1 (RX1, 105, yX5_isBundleStart) (List.mem_of_getElem? (i := 2) rfl)) (hts (.initialized RX5) (by decide +kernel)) (by decide +kernel) ⟨Nat.le_of_ble_eq_true rfl, Nat.le_of_ble_eq_true rfl⟩, hts (.static yX5_isBundleStart) (by decide +kernel), trivial⟩ ⟨hK, hP, hD, hS, hA, hE, hN⟩ [] [0, 1, 2, 3, 4] ⟨rfl, rfl, by decide⟩ rfl hl.1 (Nat.le_of_ble_eq_true rfl) dX1_jump_108 ⟨Nat.le_of_ble_eq_true rfl, Nat.le_of_ble_eq_true rfl⟩ rfl (fun r u H locs hw hP hD hS => ?_)
            obtain ⟨hq, hw⟩ := hw
            subst r
            subst hw
            have hP := hP.sub (ws' := [(hM, .inr (1, [.int base, .ref qr, .ref qm, .int ad, .int sn, .int sy, .int sl, .int rg, .int ly])), (qr, .inl (g.2.1.1, 8, .inl (sp_X1_change_registers fr 7 (ad + 4)))), (qm, .inl (g.2.1.1, 4096, .inl fm)), (h, .inr (0, [.ref q, .int len])), (q, .inl (g.2.1.1, N, .inl f))]) [0, 1, 2, 3, 4] rfl
            have hD := hD.sub (ws' := [(hM, .inr (1, [.int base, .ref qr, .ref qm, .int ad, .int sn, .int sy, .int sl, .int rg, .int ly])), (qr, .inl (g.2.1.1, 8, .inl (sp_X1_change_registers fr 7 (ad + 4)))), (qm, .inl (g.2.1.1, 4096, .inl fm)), (h, .inr (0, [.ref q, .int len])), (q, .inl (g.2.1.1, N, .inl f))]) [0, 1, 2, 3, 4] (by decide) rfl
            refine lv_if_ne (tgt := 124) hx hb dX1_jump_111 (by decide) (fun c_21 => ?_) (fun c_21 => ?_)
            · skip
              refine lv_aload_n hx hb dX1_jump_124 rfl (lv_at hl 3 rfl) ?_
              refine lv_iload hx hb dX1_jump_125 (lv_at hl 0 rfl) ?_
              refine va_put (D := g.1) (ci := 1) (v := .int (sp_X0_n N f ad)) (ty := .int) (C := RX1) (T := TX1) (N := 9) hx hb hts iX1 tyX1 tyX1_ok nmX1 hown hK hP hD hS 0 rfl rfl 3 (by decide) (hts (.fieldLink RX1 25 "FaultIsolation$Machine" "address" "I") (by decide +kernel)) (fun _ h9 => h9) rfl (by decide +kernel) rfl rfl (Nat.le_of_ble_eq_true rfl) dX1_jump_127 (fun H locs hP hD hS => ?_)
              have hP : va_P g.1 vwCl [(hM, .inr (1, [.int base, .ref qr, .ref qm, .int (sp_X0_n N f ad), .int sn, .int sy, .int sl, .int rg, .int ly])), (qr, .inl (g.2.1.1, 8, .inl (sp_X1_change_registers fr 7 (ad + 4)))), (qm, .inl (g.2.1.1, 4096, .inl fm)), (h, .inr (0, [.ref q, .int len])), (q, .inl (g.2.1.1, N, .inl f))] H := hP
              have hD : va_D A [(hM, .inr (1, [.int base, .ref qr, .ref qm, .int (sp_X0_n N f ad), .int sn, .int sy, .int sl, .int rg, .int ly])), (qr, .inl (g.2.1.1, 8, .inl (sp_X1_change_registers fr 7 (ad + 4)))), (qm, .inl (g.2.1.1, 4096, .inl fm)), (h, .inr (0, [.ref q, .int len])), (q, .inl (g.2.1.1, N, .inl f))] := hD
              exact k_vret hx hb hr hlocks ⟨hK, hP, hD, hS, hA, hE, hN⟩ dX1_jump_130 (Nat.le_of_ble_eq_true rfl) (Nat.le_of_ble_eq_true rfl) (by simp only [sp_X1_jump_address, sp_X1_jump_slips, sp_X1_jump_registers, if_pos c_0, if_pos c_16, if_pos c_17, if_neg c_18, if_pos c_19, if_neg c_21])
            · skip
              refine lv_aload_n hx hb dX1_jump_114 rfl (lv_at hl 3 rfl) ?_
              refine lv_dup hx hb dX1_jump_115 rfl ?_
              refine va_get (D := g.1) (ci := 1) (v := .int sl) (C := RX1) (T := TX1) (N := 9) hx hb hts iX1 hown hK hP 0 rfl rfl 6 (by decide) (hts (.fieldLink RX1 34 "FaultIsolation$Machine" "slips" "I") (by decide +kernel)) (fun _ h9 => h9) rfl dX1_jump_116 ?_
              refine lv_iconst (v := 1) hx hb dX1_jump_119 (by decide) ?_
              refine lv_iadd hx hb dX1_jump_120 ?_
              refine va_put (D := g.1) (ci := 1) (v := .int (sl + 1)) (ty := .int) (C := RX1) (T := TX1) (N := 9) hx hb hts iX1 tyX1 tyX1_ok nmX1 hown hK hP hD hS 0 rfl rfl 6 (by decide) (hts (.fieldLink RX1 34 "FaultIsolation$Machine" "slips" "I") (by decide +kernel)) (fun _ h9 => h9) rfl (by decide +kernel) rfl rfl (Nat.le_of_ble_eq_true rfl) dX1_jump_121 (fun H locs hP hD hS => ?_)
              have hP : va_P g.1 vwCl [(hM, .inr (1, [.int base, .ref qr, .ref qm, .int ad, .int sn, .int sy, .int (sl + 1), .int rg, .int ly])), (qr, .inl (g.2.1.1, 8, .inl (sp_X1_change_registers fr 7 (ad + 4)))), (qm, .inl (g.2.1.1, 4096, .inl fm)), (h, .inr (0, [.ref q, .int len])), (q, .inl (g.2.1.1, N, .inl f))] H := hP
              have hD : va_D A [(hM, .inr (1, [.int base, .ref qr, .ref qm, .int ad, .int sn, .int sy, .int (sl + 1), .int rg, .int ly])), (qr, .inl (g.2.1.1, 8, .inl (sp_X1_change_registers fr 7 (ad + 4)))), (qm, .inl (g.2.1.1, 4096, .inl fm)), (h, .inr (0, [.ref q, .int len])), (q, .inl (g.2.1.1, N, .inl f))] := hD
              refine lv_aload_n hx hb dX1_jump_124 rfl (lv_at hl 3 rfl) ?_
              refine lv_iload hx hb dX1_jump_125 (lv_at hl 0 rfl) ?_
              refine va_put (D := g.1) (ci := 1) (v := .int (sp_X0_n N f ad)) (ty := .int) (C := RX1) (T := TX1) (N := 9) hx hb hts iX1 tyX1 tyX1_ok nmX1 hown hK hP hD hS 0 rfl rfl 3 (by decide) (hts (.fieldLink RX1 25 "FaultIsolation$Machine" "address" "I") (by decide +kernel)) (fun _ h9 => h9) rfl (by decide +kernel) rfl rfl (Nat.le_of_ble_eq_true rfl) dX1_jump_127 (fun H locs hP hD hS => ?_)
              have hP : va_P g.1 vwCl [(hM, .inr (1, [.int base, .ref qr, .ref qm, .int (sp_X0_n N f ad), .int sn, .int sy, .int (sl + 1), .int rg, .int ly])), (qr, .inl (g.2.1.1, 8, .inl (sp_X1_change_registers fr 7 (ad + 4)))), (qm, .inl (g.2.1.1, 4096, .inl fm)), (h, .inr (0, [.ref q, .int len])), (q, .inl (g.2.1.1, N, .inl f))] H := hP
              have hD : va_D A [(hM, .inr (1, [.int base, .ref qr, .ref qm, .int (sp_X0_n N f ad), .int sn, .int sy, .int (sl + 1), .int rg, .int ly])), (qr, .inl (g.2.1.1, 8, .inl (sp_X1_change_registers fr 7 (ad + 4)))), (qm, .inl (g.2.1.1, 4096, .inl fm)), (h, .inr (0, [.ref q, .int len])), (q, .inl (g.2.1.1, N, .inl f))] := hD
              exact k_vret hx hb hr hlocks ⟨hK, hP, hD, hS, hA, hE, hN⟩ dX1_jump_130 (Nat.le_of_ble_eq_true rfl) (Nat.le_of_ble_eq_true rfl) (by simp only [sp_X1_jump_address, sp_X1_jump_slips, sp_X1_jump_registers, if_pos c_0, if_pos c_16, if_pos c_17, if_neg c_18, if_pos c_19, if_pos c_21])
        · skip
          refine lv_aload_n hx hb dX1_jump_78 rfl (lv_at hl 3 rfl) ?_
          refine lv_aload_n hx hb dX1_jump_79 rfl (lv_at hl 4 rfl) ?_
          refine lv_aload_n hx hb dX1_jump_80 rfl (lv_at hl 3 rfl) ?_
          refine va_get (D := g.1) (ci := 1) (v := .int ad) (C := RX1) (T := TX1) (N := 9) hx hb hts iX1 hown hK hP 0 rfl rfl 3 (by decide) (hts (.fieldLink RX1 25 "FaultIsolation$Machine" "address" "I") (by decide +kernel)) (fun _ h9 => h9) rfl dX1_jump_81 ?_
          refine kiV (As := [.int ad]) (rest := [.ref hM]) (wc := [(h, .inr (0, [.ref q, .int len])), (q, .inl (g.2.1.1, N, .inl f))]) (wr := [(hM, .inr (1, [.int base, .ref qr, .ref qm, .int ad, .int sn, .int sy, .int sl, .int rg, .int ly])), (qr, .inl (g.2.1.1, 8, .inl fr)), (qm, .inl (g.2.1.1, 4096, .inl fm))]) ⟨hx, hb, hml, hown, hts⟩ (c_X0_a l g h q N f len ad hNn) (cwV 1 hts gX1_jump_X0_a rfl rfl rfl (by decide +kernel) ⟨Nat.le_of_ble_eq_true rfl, Nat.le_of_ble_eq_true rfl⟩) ⟨hK, hP, hD, hS, hA, hE, hN⟩ [3, 4] [0, 1, 2] ⟨rfl, rfl, by decide⟩ (q0 := 3) (ci := 0) rfl rfl rfl rfl hl.1 (Nat.le_of_ble_eq_true rfl) dX1_jump_84 ⟨Nat.le_of_ble_eq_true rfl, Nat.le_of_ble_eq_true rfl⟩ rfl (fun r u H locs hw hP hD hS => ?_)
          obtain ⟨hq, hw⟩ := hw
          subst r
          subst hw
          have hP := hP.sub (ws' := [(hM, .inr (1, [.int base, .ref qr, .ref qm, .int ad, .int sn, .int sy, .int sl, .int rg, .int ly])), (qr, .inl (g.2.1.1, 8, .inl fr)), (qm, .inl (g.2.1.1, 4096, .inl fm)), (h, .inr (0, [.ref q, .int len])), (q, .inl (g.2.1.1, N, .inl f))]) [0, 1, 2, 3, 4] rfl
          have hD := hD.sub (ws' := [(hM, .inr (1, [.int base, .ref qr, .ref qm, .int ad, .int sn, .int sy, .int sl, .int rg, .int ly])), (qr, .inl (g.2.1.1, 8, .inl fr)), (qm, .inl (g.2.1.1, 4096, .inl fm)), (h, .inr (0, [.ref q, .int len])), (q, .inl (g.2.1.1, N, .inl f))]) [0, 1, 2, 3, 4] (by decide) rfl
          refine kiV (As := [.int (sp_X0_a N f ad)]) (rest := []) (wc := [(hM, .inr (1, [.int base, .ref qr, .ref qm, .int ad, .int sn, .int sy, .int sl, .int rg, .int ly])), (qr, .inl (g.2.1.1, 8, .inl fr)), (qm, .inl (g.2.1.1, 4096, .inl fm))]) (wr := [(h, .inr (0, [.ref q, .int len])), (q, .inl (g.2.1.1, N, .inl f))]) ⟨hx, hb, hml, hown, hts⟩ (c_X1_valueOf l g hM qr qm fr fm base ad sn sy sl rg ly (sp_X0_a N f ad)) (cwV 1 hts gX1_jump_X1_valueOf rfl rfl rfl (by decide +kernel) ⟨Nat.le_of_ble_eq_true rfl, Nat.le_of_ble_eq_true rfl⟩) ⟨hK, hP, hD, hS, hA, hE, hN⟩ [0, 1, 2] [3, 4] ⟨rfl, rfl, by decide⟩ (q0 := 0) (ci := 1) rfl rfl rfl rfl hl.1 (Nat.le_of_ble_eq_true rfl) dX1_jump_87 ⟨Nat.le_of_ble_eq_true rfl, Nat.le_of_ble_eq_true rfl⟩ rfl (fun r u H locs hw hP hD hS => ?_)
          obtain ⟨hq, hw⟩ := hw
          subst r
          subst hw
          have hP := hP.sub (ws' := [(hM, .inr (1, [.int base, .ref qr, .ref qm, .int ad, .int sn, .int sy, .int sl, .int rg, .int ly])), (qr, .inl (g.2.1.1, 8, .inl fr)), (qm, .inl (g.2.1.1, 4096, .inl fm)), (h, .inr (0, [.ref q, .int len])), (q, .inl (g.2.1.1, N, .inl f))]) [2, 3, 4, 0, 1] rfl
          have hD := hD.sub (ws' := [(hM, .inr (1, [.int base, .ref qr, .ref qm, .int ad, .int sn, .int sy, .int sl, .int rg, .int ly])), (qr, .inl (g.2.1.1, 8, .inl fr)), (qm, .inl (g.2.1.1, 4096, .inl fm)), (h, .inr (0, [.ref q, .int len])), (q, .inl (g.2.1.1, N, .inl f))]) [2, 3, 4, 0, 1] (by decide) rfl
          refine lv_istore (lv' := [(5, .int (sp_X1_valueOf fr (sp_X0_a N f ad))), (4, .int (ad + 4)), (3, .int (sp_X0_word N f ad)), (0, .ref hM), (1, .ref h), (2, .int pr)]) hx hb dX1_jump_90 hl (by decide) rfl (fun ls hl => ?_)
          refine lv_iload_n hx hb dX1_jump_92 rfl (lv_at hl 2 rfl) ?_
          refine lv_bipush (v := 15) hx hb dX1_jump_93 (by decide) ?_
          refine lv_icmp_ne (tgt := 106) hx hb dX1_jump_95 (by decide) (fun c_22 => ?_) (fun c_22 => ?_)
          · skip
            refine lv_iload hx hb dX1_jump_106 (lv_at hl 0 rfl) ?_
            refine kiSN (As := [.int (sp_X1_valueOf fr (sp_X0_a N f ad))]) (rest := []) (wc := []) (wr := [(hM, .inr (1, [.int base, .ref qr, .ref qm, .int ad, .int sn, .int sy, .int sl, .int rg, .int ly])), (qr, .inl (g.2.1.1, 8, .inl fr)), (qm, .inl (g.2.1.1, 4096, .inl fm)), (h, .inr (0, [.ref q, .int len])), (q, .inl (g.2.1.1, N, .inl f))]) ⟨hx, hb, hml, hown, hts⟩ (c_X5_isBundleStart l g (sp_X1_valueOf fr (sp_X0_a N f ad))) ⟨va_cnB (host := RX5) 1 hts gX1_jump_X5_isBundleStart_n105 rfl rfl rfl (hN.1 (RX1, 105, yX5_isBundleStart) (List.mem_of_getElem? (i := 2) rfl)) (hts (.initialized RX5) (by decide +kernel)) (by decide +kernel) ⟨Nat.le_of_ble_eq_true rfl, Nat.le_of_ble_eq_true rfl⟩, hts (.static yX5_isBundleStart) (by decide +kernel), trivial⟩ ⟨hK, hP, hD, hS, hA, hE, hN⟩ [] [0, 1, 2, 3, 4] ⟨rfl, rfl, by decide⟩ rfl hl.1 (Nat.le_of_ble_eq_true rfl) dX1_jump_108 ⟨Nat.le_of_ble_eq_true rfl, Nat.le_of_ble_eq_true rfl⟩ rfl (fun r u H locs hw hP hD hS => ?_)
            obtain ⟨hq, hw⟩ := hw
            subst r
            subst hw
            have hP := hP.sub (ws' := [(hM, .inr (1, [.int base, .ref qr, .ref qm, .int ad, .int sn, .int sy, .int sl, .int rg, .int ly])), (qr, .inl (g.2.1.1, 8, .inl fr)), (qm, .inl (g.2.1.1, 4096, .inl fm)), (h, .inr (0, [.ref q, .int len])), (q, .inl (g.2.1.1, N, .inl f))]) [0, 1, 2, 3, 4] rfl
            have hD := hD.sub (ws' := [(hM, .inr (1, [.int base, .ref qr, .ref qm, .int ad, .int sn, .int sy, .int sl, .int rg, .int ly])), (qr, .inl (g.2.1.1, 8, .inl fr)), (qm, .inl (g.2.1.1, 4096, .inl fm)), (h, .inr (0, [.ref q, .int len])), (q, .inl (g.2.1.1, N, .inl f))]) [0, 1, 2, 3, 4] (by decide) rfl
            refine lv_if_ne (tgt := 124) hx hb dX1_jump_111 (by decide) (fun c_23 => ?_) (fun c_23 => ?_)
            · skip
              refine lv_aload_n hx hb dX1_jump_124 rfl (lv_at hl 3 rfl) ?_
              refine lv_iload hx hb dX1_jump_125 (lv_at hl 0 rfl) ?_
              refine va_put (D := g.1) (ci := 1) (v := .int (sp_X1_valueOf fr (sp_X0_a N f ad))) (ty := .int) (C := RX1) (T := TX1) (N := 9) hx hb hts iX1 tyX1 tyX1_ok nmX1 hown hK hP hD hS 0 rfl rfl 3 (by decide) (hts (.fieldLink RX1 25 "FaultIsolation$Machine" "address" "I") (by decide +kernel)) (fun _ h9 => h9) rfl (by decide +kernel) rfl rfl (Nat.le_of_ble_eq_true rfl) dX1_jump_127 (fun H locs hP hD hS => ?_)
              have hP : va_P g.1 vwCl [(hM, .inr (1, [.int base, .ref qr, .ref qm, .int (sp_X1_valueOf fr (sp_X0_a N f ad)), .int sn, .int sy, .int sl, .int rg, .int ly])), (qr, .inl (g.2.1.1, 8, .inl fr)), (qm, .inl (g.2.1.1, 4096, .inl fm)), (h, .inr (0, [.ref q, .int len])), (q, .inl (g.2.1.1, N, .inl f))] H := hP
              have hD : va_D A [(hM, .inr (1, [.int base, .ref qr, .ref qm, .int (sp_X1_valueOf fr (sp_X0_a N f ad)), .int sn, .int sy, .int sl, .int rg, .int ly])), (qr, .inl (g.2.1.1, 8, .inl fr)), (qm, .inl (g.2.1.1, 4096, .inl fm)), (h, .inr (0, [.ref q, .int len])), (q, .inl (g.2.1.1, N, .inl f))] := hD
              exact k_vret hx hb hr hlocks ⟨hK, hP, hD, hS, hA, hE, hN⟩ dX1_jump_130 (Nat.le_of_ble_eq_true rfl) (Nat.le_of_ble_eq_true rfl) (by simp only [sp_X1_jump_address, sp_X1_jump_slips, sp_X1_jump_registers, if_pos c_0, if_pos c_16, if_pos c_17, if_pos c_18, if_neg c_22, if_neg c_23])
            · skip
              refine lv_aload_n hx hb dX1_jump_114 rfl (lv_at hl 3 rfl) ?_
              refine lv_dup hx hb dX1_jump_115 rfl ?_
              refine va_get (D := g.1) (ci := 1) (v := .int sl) (C := RX1) (T := TX1) (N := 9) hx hb hts iX1 hown hK hP 0 rfl rfl 6 (by decide) (hts (.fieldLink RX1 34 "FaultIsolation$Machine" "slips" "I") (by decide +kernel)) (fun _ h9 => h9) rfl dX1_jump_116 ?_
              refine lv_iconst (v := 1) hx hb dX1_jump_119 (by decide) ?_
              refine lv_iadd hx hb dX1_jump_120 ?_
              refine va_put (D := g.1) (ci := 1) (v := .int (sl + 1)) (ty := .int) (C := RX1) (T := TX1) (N := 9) hx hb hts iX1 tyX1 tyX1_ok nmX1 hown hK hP hD hS 0 rfl rfl 6 (by decide) (hts (.fieldLink RX1 34 "FaultIsolation$Machine" "slips" "I") (by decide +kernel)) (fun _ h9 => h9) rfl (by decide +kernel) rfl rfl (Nat.le_of_ble_eq_true rfl) dX1_jump_121 (fun H locs hP hD hS => ?_)
              have hP : va_P g.1 vwCl [(hM, .inr (1, [.int base, .ref qr, .ref qm, .int ad, .int sn, .int sy, .int (sl + 1), .int rg, .int ly])), (qr, .inl (g.2.1.1, 8, .inl fr)), (qm, .inl (g.2.1.1, 4096, .inl fm)), (h, .inr (0, [.ref q, .int len])), (q, .inl (g.2.1.1, N, .inl f))] H := hP
              have hD : va_D A [(hM, .inr (1, [.int base, .ref qr, .ref qm, .int ad, .int sn, .int sy, .int (sl + 1), .int rg, .int ly])), (qr, .inl (g.2.1.1, 8, .inl fr)), (qm, .inl (g.2.1.1, 4096, .inl fm)), (h, .inr (0, [.ref q, .int len])), (q, .inl (g.2.1.1, N, .inl f))] := hD
              refine lv_aload_n hx hb dX1_jump_124 rfl (lv_at hl 3 rfl) ?_
              refine lv_iload hx hb dX1_jump_125 (lv_at hl 0 rfl) ?_
              refine va_put (D := g.1) (ci := 1) (v := .int (sp_X1_valueOf fr (sp_X0_a N f ad))) (ty := .int) (C := RX1) (T := TX1) (N := 9) hx hb hts iX1 tyX1 tyX1_ok nmX1 hown hK hP hD hS 0 rfl rfl 3 (by decide) (hts (.fieldLink RX1 25 "FaultIsolation$Machine" "address" "I") (by decide +kernel)) (fun _ h9 => h9) rfl (by decide +kernel) rfl rfl (Nat.le_of_ble_eq_true rfl) dX1_jump_127 (fun H locs hP hD hS => ?_)
              have hP : va_P g.1 vwCl [(hM, .inr (1, [.int base, .ref qr, .ref qm, .int (sp_X1_valueOf fr (sp_X0_a N f ad)), .int sn, .int sy, .int (sl + 1), .int rg, .int ly])), (qr, .inl (g.2.1.1, 8, .inl fr)), (qm, .inl (g.2.1.1, 4096, .inl fm)), (h, .inr (0, [.ref q, .int len])), (q, .inl (g.2.1.1, N, .inl f))] H := hP
              have hD : va_D A [(hM, .inr (1, [.int base, .ref qr, .ref qm, .int (sp_X1_valueOf fr (sp_X0_a N f ad)), .int sn, .int sy, .int (sl + 1), .int rg, .int ly])), (qr, .inl (g.2.1.1, 8, .inl fr)), (qm, .inl (g.2.1.1, 4096, .inl fm)), (h, .inr (0, [.ref q, .int len])), (q, .inl (g.2.1.1, N, .inl f))] := hD
              exact k_vret hx hb hr hlocks ⟨hK, hP, hD, hS, hA, hE, hN⟩ dX1_jump_130 (Nat.le_of_ble_eq_true rfl) (Nat.le_of_ble_eq_true rfl) (by simp only [sp_X1_jump_address, sp_X1_jump_slips, sp_X1_jump_registers, if_pos c_0, if_pos c_16, if_pos c_17, if_pos c_18, if_neg c_22, if_pos c_23])
          · skip
            refine lv_aload_n hx hb dX1_jump_98 rfl (lv_at hl 3 rfl) ?_
            refine lv_bipush (v := 7) hx hb dX1_jump_99 (by decide) ?_
            refine lv_iload hx hb dX1_jump_101 (lv_at hl 1 rfl) ?_
            refine kvV (As := [.int 7, .int (ad + 4)]) (rest := []) (wc := [(hM, .inr (1, [.int base, .ref qr, .ref qm, .int ad, .int sn, .int sy, .int sl, .int rg, .int ly])), (qr, .inl (g.2.1.1, 8, .inl fr)), (qm, .inl (g.2.1.1, 4096, .inl fm))]) (wr := [(h, .inr (0, [.ref q, .int len])), (q, .inl (g.2.1.1, N, .inl f))]) ⟨hx, hb, hml, hown, hts⟩ (c_X1_change l g hM qr qm fr fm base ad sn sy sl rg ly 7 (ad + 4)) (cwV 2 hts gX1_jump_X1_change rfl rfl rfl (by decide +kernel) ⟨Nat.le_of_ble_eq_true rfl, Nat.le_of_ble_eq_true rfl⟩) ⟨hK, hP, hD, hS, hA, hE, hN⟩ [0, 1, 2] [3, 4] ⟨rfl, rfl, by decide⟩ (q0 := 0) (ci := 1) rfl rfl rfl rfl hl.1 (Nat.le_of_ble_eq_true rfl) dX1_jump_103 ⟨Nat.le_of_ble_eq_true rfl, Nat.le_of_ble_eq_true rfl⟩ rfl (fun u H locs hw hP hD hS => ?_)
            subst hw
            have hP := hP.sub (ws' := [(hM, .inr (1, [.int base, .ref qr, .ref qm, .int ad, .int sn, .int sy, .int sl, .int rg, .int ly])), (qr, .inl (g.2.1.1, 8, .inl (sp_X1_change_registers fr 7 (ad + 4)))), (qm, .inl (g.2.1.1, 4096, .inl fm)), (h, .inr (0, [.ref q, .int len])), (q, .inl (g.2.1.1, N, .inl f))]) [2, 3, 4, 0, 1] rfl
            have hD := hD.sub (ws' := [(hM, .inr (1, [.int base, .ref qr, .ref qm, .int ad, .int sn, .int sy, .int sl, .int rg, .int ly])), (qr, .inl (g.2.1.1, 8, .inl (sp_X1_change_registers fr 7 (ad + 4)))), (qm, .inl (g.2.1.1, 4096, .inl fm)), (h, .inr (0, [.ref q, .int len])), (q, .inl (g.2.1.1, N, .inl f))]) [2, 3, 4, 0, 1] (by decide) rfl
            refine lv_iload hx hb dX1_jump_106 (lv_at hl 0 rfl) ?_
            refine kiSN (As := [.int (sp_X1_valueOf fr (sp_X0_a N f ad))]) (rest := []) (wc := []) (wr := [(hM, .inr (1, [.int base, .ref qr, .ref qm, .int ad, .int sn, .int sy, .int sl, .int rg, .int ly])), (qr, .inl (g.2.1.1, 8, .inl (sp_X1_change_registers fr 7 (ad + 4)))), (qm, .inl (g.2.1.1, 4096, .inl fm)), (h, .inr (0, [.ref q, .int len])), (q, .inl (g.2.1.1, N, .inl f))]) ⟨hx, hb, hml, hown, hts⟩ (c_X5_isBundleStart l g (sp_X1_valueOf fr (sp_X0_a N f ad))) ⟨va_cnB (host := RX5) 1 hts gX1_jump_X5_isBundleStart_n105 rfl rfl rfl (hN.1 (RX1, 105, yX5_isBundleStart) (List.mem_of_getElem? (i := 2) rfl)) (hts (.initialized RX5) (by decide +kernel)) (by decide +kernel) ⟨Nat.le_of_ble_eq_true rfl, Nat.le_of_ble_eq_true rfl⟩, hts (.static yX5_isBundleStart) (by decide +kernel), trivial⟩ ⟨hK, hP, hD, hS, hA, hE, hN⟩ [] [0, 1, 2, 3, 4] ⟨rfl, rfl, by decide⟩ rfl hl.1 (Nat.le_of_ble_eq_true rfl) dX1_jump_108 ⟨Nat.le_of_ble_eq_true rfl, Nat.le_of_ble_eq_true rfl⟩ rfl (fun r u H locs hw hP hD hS => ?_)
            obtain ⟨hq, hw⟩ := hw
            subst r
            subst hw
            have hP := hP.sub (ws' := [(hM, .inr (1, [.int base, .ref qr, .ref qm, .int ad, .int sn, .int sy, .int sl, .int rg, .int ly])), (qr, .inl (g.2.1.1, 8, .inl (sp_X1_change_registers fr 7 (ad + 4)))), (qm, .inl (g.2.1.1, 4096, .inl fm)), (h, .inr (0, [.ref q, .int len])), (q, .inl (g.2.1.1, N, .inl f))]) [0, 1, 2, 3, 4] rfl
            have hD := hD.sub (ws' := [(hM, .inr (1, [.int base, .ref qr, .ref qm, .int ad, .int sn, .int sy, .int sl, .int rg, .int ly])), (qr, .inl (g.2.1.1, 8, .inl (sp_X1_change_registers fr 7 (ad + 4)))), (qm, .inl (g.2.1.1, 4096, .inl fm)), (h, .inr (0, [.ref q, .int len])), (q, .inl (g.2.1.1, N, .inl f))]) [0, 1, 2, 3, 4] (by decide) rfl
            refine lv_if_ne (tgt := 124) hx hb dX1_jump_111 (by decide) (fun c_24 => ?_) (fun c_24 => ?_)
            · skip
              refine lv_aload_n hx hb dX1_jump_124 rfl (lv_at hl 3 rfl) ?_
              refine lv_iload hx hb dX1_jump_125 (lv_at hl 0 rfl) ?_
              refine va_put (D := g.1) (ci := 1) (v := .int (sp_X1_valueOf fr (sp_X0_a N f ad))) (ty := .int) (C := RX1) (T := TX1) (N := 9) hx hb hts iX1 tyX1 tyX1_ok nmX1 hown hK hP hD hS 0 rfl rfl 3 (by decide) (hts (.fieldLink RX1 25 "FaultIsolation$Machine" "address" "I") (by decide +kernel)) (fun _ h9 => h9) rfl (by decide +kernel) rfl rfl (Nat.le_of_ble_eq_true rfl) dX1_jump_127 (fun H locs hP hD hS => ?_)
              have hP : va_P g.1 vwCl [(hM, .inr (1, [.int base, .ref qr, .ref qm, .int (sp_X1_valueOf fr (sp_X0_a N f ad)), .int sn, .int sy, .int sl, .int rg, .int ly])), (qr, .inl (g.2.1.1, 8, .inl (sp_X1_change_registers fr 7 (ad + 4)))), (qm, .inl (g.2.1.1, 4096, .inl fm)), (h, .inr (0, [.ref q, .int len])), (q, .inl (g.2.1.1, N, .inl f))] H := hP
              have hD : va_D A [(hM, .inr (1, [.int base, .ref qr, .ref qm, .int (sp_X1_valueOf fr (sp_X0_a N f ad)), .int sn, .int sy, .int sl, .int rg, .int ly])), (qr, .inl (g.2.1.1, 8, .inl (sp_X1_change_registers fr 7 (ad + 4)))), (qm, .inl (g.2.1.1, 4096, .inl fm)), (h, .inr (0, [.ref q, .int len])), (q, .inl (g.2.1.1, N, .inl f))] := hD
              exact k_vret hx hb hr hlocks ⟨hK, hP, hD, hS, hA, hE, hN⟩ dX1_jump_130 (Nat.le_of_ble_eq_true rfl) (Nat.le_of_ble_eq_true rfl) (by simp only [sp_X1_jump_address, sp_X1_jump_slips, sp_X1_jump_registers, if_pos c_0, if_pos c_16, if_pos c_17, if_pos c_18, if_pos c_22, if_neg c_24])
            · skip
              refine lv_aload_n hx hb dX1_jump_114 rfl (lv_at hl 3 rfl) ?_
              refine lv_dup hx hb dX1_jump_115 rfl ?_
              refine va_get (D := g.1) (ci := 1) (v := .int sl) (C := RX1) (T := TX1) (N := 9) hx hb hts iX1 hown hK hP 0 rfl rfl 6 (by decide) (hts (.fieldLink RX1 34 "FaultIsolation$Machine" "slips" "I") (by decide +kernel)) (fun _ h9 => h9) rfl dX1_jump_116 ?_
              refine lv_iconst (v := 1) hx hb dX1_jump_119 (by decide) ?_
              refine lv_iadd hx hb dX1_jump_120 ?_
              refine va_put (D := g.1) (ci := 1) (v := .int (sl + 1)) (ty := .int) (C := RX1) (T := TX1) (N := 9) hx hb hts iX1 tyX1 tyX1_ok nmX1 hown hK hP hD hS 0 rfl rfl 6 (by decide) (hts (.fieldLink RX1 34 "FaultIsolation$Machine" "slips" "I") (by decide +kernel)) (fun _ h9 => h9) rfl (by decide +kernel) rfl rfl (Nat.le_of_ble_eq_true rfl) dX1_jump_121 (fun H locs hP hD hS => ?_)
              have hP : va_P g.1 vwCl [(hM, .inr (1, [.int base, .ref qr, .ref qm, .int ad, .int sn, .int sy, .int (sl + 1), .int rg, .int ly])), (qr, .inl (g.2.1.1, 8, .inl (sp_X1_change_registers fr 7 (ad + 4)))), (qm, .inl (g.2.1.1, 4096, .inl fm)), (h, .inr (0, [.ref q, .int len])), (q, .inl (g.2.1.1, N, .inl f))] H := hP
              have hD : va_D A [(hM, .inr (1, [.int base, .ref qr, .ref qm, .int ad, .int sn, .int sy, .int (sl + 1), .int rg, .int ly])), (qr, .inl (g.2.1.1, 8, .inl (sp_X1_change_registers fr 7 (ad + 4)))), (qm, .inl (g.2.1.1, 4096, .inl fm)), (h, .inr (0, [.ref q, .int len])), (q, .inl (g.2.1.1, N, .inl f))] := hD
              refine lv_aload_n hx hb dX1_jump_124 rfl (lv_at hl 3 rfl) ?_
              refine lv_iload hx hb dX1_jump_125 (lv_at hl 0 rfl) ?_
              refine va_put (D := g.1) (ci := 1) (v := .int (sp_X1_valueOf fr (sp_X0_a N f ad))) (ty := .int) (C := RX1) (T := TX1) (N := 9) hx hb hts iX1 tyX1 tyX1_ok nmX1 hown hK hP hD hS 0 rfl rfl 3 (by decide) (hts (.fieldLink RX1 25 "FaultIsolation$Machine" "address" "I") (by decide +kernel)) (fun _ h9 => h9) rfl (by decide +kernel) rfl rfl (Nat.le_of_ble_eq_true rfl) dX1_jump_127 (fun H locs hP hD hS => ?_)
              have hP : va_P g.1 vwCl [(hM, .inr (1, [.int base, .ref qr, .ref qm, .int (sp_X1_valueOf fr (sp_X0_a N f ad)), .int sn, .int sy, .int (sl + 1), .int rg, .int ly])), (qr, .inl (g.2.1.1, 8, .inl (sp_X1_change_registers fr 7 (ad + 4)))), (qm, .inl (g.2.1.1, 4096, .inl fm)), (h, .inr (0, [.ref q, .int len])), (q, .inl (g.2.1.1, N, .inl f))] H := hP
              have hD : va_D A [(hM, .inr (1, [.int base, .ref qr, .ref qm, .int (sp_X1_valueOf fr (sp_X0_a N f ad)), .int sn, .int sy, .int (sl + 1), .int rg, .int ly])), (qr, .inl (g.2.1.1, 8, .inl (sp_X1_change_registers fr 7 (ad + 4)))), (qm, .inl (g.2.1.1, 4096, .inl fm)), (h, .inr (0, [.ref q, .int len])), (q, .inl (g.2.1.1, N, .inl f))] := hD
              exact k_vret hx hb hr hlocks ⟨hK, hP, hD, hS, hA, hE, hN⟩ dX1_jump_130 (Nat.le_of_ble_eq_true rfl) (Nat.le_of_ble_eq_true rfl) (by simp only [sp_X1_jump_address, sp_X1_jump_slips, sp_X1_jump_registers, if_pos c_0, if_pos c_16, if_pos c_17, if_pos c_18, if_pos c_22, if_pos c_24])
      · skip
        refine lv_iconst (v := 4) hx hb dX1_jump_49 (by decide) ?_
        refine lv_aload_n hx hb dX1_jump_50 rfl (lv_at hl 3 rfl) ?_
        refine lv_aload_n hx hb dX1_jump_51 rfl (lv_at hl 2 rfl) ?_
        refine va_get (D := g.1) (ci := 1) (v := .int ad) (C := RX1) (T := TX1) (N := 9) hx hb hts iX1 hown hK hP 0 rfl rfl 3 (by decide) (hts (.fieldLink RX1 25 "FaultIsolation$Machine" "address" "I") (by decide +kernel)) (fun _ h9 => h9) rfl dX1_jump_52 ?_
        refine kiV (As := [.int ad]) (rest := [.int 4]) (wc := [(h, .inr (0, [.ref q, .int len])), (q, .inl (g.2.1.1, N, .inl f))]) (wr := [(hM, .inr (1, [.int base, .ref qr, .ref qm, .int ad, .int sn, .int sy, .int sl, .int rg, .int ly])), (qr, .inl (g.2.1.1, 8, .inl fr)), (qm, .inl (g.2.1.1, 4096, .inl fm))]) ⟨hx, hb, hml, hown, hts⟩ (c_X0_n l g h q N f len ad hNn) (cwV 1 hts gX1_jump_X0_n rfl rfl rfl (by decide +kernel) ⟨Nat.le_of_ble_eq_true rfl, Nat.le_of_ble_eq_true rfl⟩) ⟨hK, hP, hD, hS, hA, hE, hN⟩ [3, 4] [0, 1, 2] ⟨rfl, rfl, by decide⟩ (q0 := 3) (ci := 0) rfl rfl rfl rfl hl.1 (Nat.le_of_ble_eq_true rfl) dX1_jump_55 ⟨Nat.le_of_ble_eq_true rfl, Nat.le_of_ble_eq_true rfl⟩ rfl (fun r u H locs hw hP hD hS => ?_)
        obtain ⟨hq, hw⟩ := hw
        subst r
        subst hw
        have hP := hP.sub (ws' := [(hM, .inr (1, [.int base, .ref qr, .ref qm, .int ad, .int sn, .int sy, .int sl, .int rg, .int ly])), (qr, .inl (g.2.1.1, 8, .inl fr)), (qm, .inl (g.2.1.1, 4096, .inl fm)), (h, .inr (0, [.ref q, .int len])), (q, .inl (g.2.1.1, N, .inl f))]) [0, 1, 2, 3, 4] rfl
        have hD := hD.sub (ws' := [(hM, .inr (1, [.int base, .ref qr, .ref qm, .int ad, .int sn, .int sy, .int sl, .int rg, .int ly])), (qr, .inl (g.2.1.1, 8, .inl fr)), (qm, .inl (g.2.1.1, 4096, .inl fm)), (h, .inr (0, [.ref q, .int len])), (q, .inl (g.2.1.1, N, .inl f))]) [0, 1, 2, 3, 4] (by decide) rfl
        refine lv_imul hx hb dX1_jump_58 ?_
        refine lv_goto (tgt := 70) hx hb dX1_jump_59 (by decide) ?_
        refine lv_istore (lv' := [(5, .int (4 * (sp_X0_n N f ad))), (4, .int (ad + 4)), (3, .int (sp_X0_word N f ad)), (0, .ref hM), (1, .ref h), (2, .int pr)]) hx hb dX1_jump_70 hl (by decide) rfl (fun ls hl => ?_)
        refine lv_iload_n hx hb dX1_jump_72 rfl (lv_at hl 2 rfl) ?_
        refine lv_bipush (v := 14) hx hb dX1_jump_73 (by decide) ?_
        refine lv_icmp_ne (tgt := 92) hx hb dX1_jump_75 (by decide) (fun c_25 => ?_) (fun c_25 => ?_)
        · skip
          refine lv_iload_n hx hb dX1_jump_92 rfl (lv_at hl 2 rfl) ?_
          refine lv_bipush (v := 15) hx hb dX1_jump_93 (by decide) ?_
          refine lv_icmp_ne (tgt := 106) hx hb dX1_jump_95 (by decide) (fun c_26 => ?_) (fun c_26 => ?_)
          · skip
            refine lv_iload hx hb dX1_jump_106 (lv_at hl 0 rfl) ?_
            refine kiSN (As := [.int (4 * (sp_X0_n N f ad))]) (rest := []) (wc := []) (wr := [(hM, .inr (1, [.int base, .ref qr, .ref qm, .int ad, .int sn, .int sy, .int sl, .int rg, .int ly])), (qr, .inl (g.2.1.1, 8, .inl fr)), (qm, .inl (g.2.1.1, 4096, .inl fm)), (h, .inr (0, [.ref q, .int len])), (q, .inl (g.2.1.1, N, .inl f))]) ⟨hx, hb, hml, hown, hts⟩ (c_X5_isBundleStart l g (4 * (sp_X0_n N f ad))) ⟨va_cnB (host := RX5) 1 hts gX1_jump_X5_isBundleStart_n105 rfl rfl rfl (hN.1 (RX1, 105, yX5_isBundleStart) (List.mem_of_getElem? (i := 2) rfl)) (hts (.initialized RX5) (by decide +kernel)) (by decide +kernel) ⟨Nat.le_of_ble_eq_true rfl, Nat.le_of_ble_eq_true rfl⟩, hts (.static yX5_isBundleStart) (by decide +kernel), trivial⟩ ⟨hK, hP, hD, hS, hA, hE, hN⟩ [] [0, 1, 2, 3, 4] ⟨rfl, rfl, by decide⟩ rfl hl.1 (Nat.le_of_ble_eq_true rfl) dX1_jump_108 ⟨Nat.le_of_ble_eq_true rfl, Nat.le_of_ble_eq_true rfl⟩ rfl (fun r u H locs hw hP hD hS => ?_)
            obtain ⟨hq, hw⟩ := hw
            subst r
            subst hw
            have hP := hP.sub (ws' := [(hM, .inr (1, [.int base, .ref qr, .ref qm, .int ad, .int sn, .int sy, .int sl, .int rg, .int ly])), (qr, .inl (g.2.1.1, 8, .inl fr)), (qm, .inl (g.2.1.1, 4096, .inl fm)), (h, .inr (0, [.ref q, .int len])), (q, .inl (g.2.1.1, N, .inl f))]) [0, 1, 2, 3, 4] rfl
            have hD := hD.sub (ws' := [(hM, .inr (1, [.int base, .ref qr, .ref qm, .int ad, .int sn, .int sy, .int sl, .int rg, .int ly])), (qr, .inl (g.2.1.1, 8, .inl fr)), (qm, .inl (g.2.1.1, 4096, .inl fm)), (h, .inr (0, [.ref q, .int len])), (q, .inl (g.2.1.1, N, .inl f))]) [0, 1, 2, 3, 4] (by decide) rfl
            refine lv_if_ne (tgt := 124) hx hb dX1_jump_111 (by decide) (fun c_27 => ?_) (fun c_27 => ?_)
            · skip
              refine lv_aload_n hx hb dX1_jump_124 rfl (lv_at hl 3 rfl) ?_
              refine lv_iload hx hb dX1_jump_125 (lv_at hl 0 rfl) ?_
              refine va_put (D := g.1) (ci := 1) (v := .int (4 * (sp_X0_n N f ad))) (ty := .int) (C := RX1) (T := TX1) (N := 9) hx hb hts iX1 tyX1 tyX1_ok nmX1 hown hK hP hD hS 0 rfl rfl 3 (by decide) (hts (.fieldLink RX1 25 "FaultIsolation$Machine" "address" "I") (by decide +kernel)) (fun _ h9 => h9) rfl (by decide +kernel) rfl rfl (Nat.le_of_ble_eq_true rfl) dX1_jump_127 (fun H locs hP hD hS => ?_)
              have hP : va_P g.1 vwCl [(hM, .inr (1, [.int base, .ref qr, .ref qm, .int (4 * (sp_X0_n N f ad)), .int sn, .int sy, .int sl, .int rg, .int ly])), (qr, .inl (g.2.1.1, 8, .inl fr)), (qm, .inl (g.2.1.1, 4096, .inl fm)), (h, .inr (0, [.ref q, .int len])), (q, .inl (g.2.1.1, N, .inl f))] H := hP
              have hD : va_D A [(hM, .inr (1, [.int base, .ref qr, .ref qm, .int (4 * (sp_X0_n N f ad)), .int sn, .int sy, .int sl, .int rg, .int ly])), (qr, .inl (g.2.1.1, 8, .inl fr)), (qm, .inl (g.2.1.1, 4096, .inl fm)), (h, .inr (0, [.ref q, .int len])), (q, .inl (g.2.1.1, N, .inl f))] := hD
              exact k_vret hx hb hr hlocks ⟨hK, hP, hD, hS, hA, hE, hN⟩ dX1_jump_130 (Nat.le_of_ble_eq_true rfl) (Nat.le_of_ble_eq_true rfl) (by simp only [sp_X1_jump_address, sp_X1_jump_slips, sp_X1_jump_registers, if_pos c_0, if_pos c_16, if_neg c_17, if_neg c_25, if_neg c_26, if_neg c_27])
            · skip
              refine lv_aload_n hx hb dX1_jump_114 rfl (lv_at hl 3 rfl) ?_
              refine lv_dup hx hb dX1_jump_115 rfl ?_
              refine va_get (D := g.1) (ci := 1) (v := .int sl) (C := RX1) (T := TX1) (N := 9) hx hb hts iX1 hown hK hP 0 rfl rfl 6 (by decide) (hts (.fieldLink RX1 34 "FaultIsolation$Machine" "slips" "I") (by decide +kernel)) (fun _ h9 => h9) rfl dX1_jump_116 ?_
              refine lv_iconst (v := 1) hx hb dX1_jump_119 (by decide) ?_
              refine lv_iadd hx hb dX1_jump_120 ?_
              refine va_put (D := g.1) (ci := 1) (v := .int (sl + 1)) (ty := .int) (C := RX1) (T := TX1) (N := 9) hx hb hts iX1 tyX1 tyX1_ok nmX1 hown hK hP hD hS 0 rfl rfl 6 (by decide) (hts (.fieldLink RX1 34 "FaultIsolation$Machine" "slips" "I") (by decide +kernel)) (fun _ h9 => h9) rfl (by decide +kernel) rfl rfl (Nat.le_of_ble_eq_true rfl) dX1_jump_121 (fun H locs hP hD hS => ?_)
              have hP : va_P g.1 vwCl [(hM, .inr (1, [.int base, .ref qr, .ref qm, .int ad, .int sn, .int sy, .int (sl + 1), .int rg, .int ly])), (qr, .inl (g.2.1.1, 8, .inl fr)), (qm, .inl (g.2.1.1, 4096, .inl fm)), (h, .inr (0, [.ref q, .int len])), (q, .inl (g.2.1.1, N, .inl f))] H := hP
              have hD : va_D A [(hM, .inr (1, [.int base, .ref qr, .ref qm, .int ad, .int sn, .int sy, .int (sl + 1), .int rg, .int ly])), (qr, .inl (g.2.1.1, 8, .inl fr)), (qm, .inl (g.2.1.1, 4096, .inl fm)), (h, .inr (0, [.ref q, .int len])), (q, .inl (g.2.1.1, N, .inl f))] := hD
              refine lv_aload_n hx hb dX1_jump_124 rfl (lv_at hl 3 rfl) ?_
              refine lv_iload hx hb dX1_jump_125 (lv_at hl 0 rfl) ?_
              refine va_put (D := g.1) (ci := 1) (v := .int (4 * (sp_X0_n N f ad))) (ty := .int) (C := RX1) (T := TX1) (N := 9) hx hb hts iX1 tyX1 tyX1_ok nmX1 hown hK hP hD hS 0 rfl rfl 3 (by decide) (hts (.fieldLink RX1 25 "FaultIsolation$Machine" "address" "I") (by decide +kernel)) (fun _ h9 => h9) rfl (by decide +kernel) rfl rfl (Nat.le_of_ble_eq_true rfl) dX1_jump_127 (fun H locs hP hD hS => ?_)
              have hP : va_P g.1 vwCl [(hM, .inr (1, [.int base, .ref qr, .ref qm, .int (4 * (sp_X0_n N f ad)), .int sn, .int sy, .int (sl + 1), .int rg, .int ly])), (qr, .inl (g.2.1.1, 8, .inl fr)), (qm, .inl (g.2.1.1, 4096, .inl fm)), (h, .inr (0, [.ref q, .int len])), (q, .inl (g.2.1.1, N, .inl f))] H := hP
              have hD : va_D A [(hM, .inr (1, [.int base, .ref qr, .ref qm, .int (4 * (sp_X0_n N f ad)), .int sn, .int sy, .int (sl + 1), .int rg, .int ly])), (qr, .inl (g.2.1.1, 8, .inl fr)), (qm, .inl (g.2.1.1, 4096, .inl fm)), (h, .inr (0, [.ref q, .int len])), (q, .inl (g.2.1.1, N, .inl f))] := hD
              exact k_vret hx hb hr hlocks ⟨hK, hP, hD, hS, hA, hE, hN⟩ dX1_jump_130 (Nat.le_of_ble_eq_true rfl) (Nat.le_of_ble_eq_true rfl) (by simp only [sp_X1_jump_address, sp_X1_jump_slips, sp_X1_jump_registers, if_pos c_0, if_pos c_16, if_neg c_17, if_neg c_25, if_neg c_26, if_pos c_27])
          · skip
            refine lv_aload_n hx hb dX1_jump_98 rfl (lv_at hl 3 rfl) ?_
            refine lv_bipush (v := 7) hx hb dX1_jump_99 (by decide) ?_
            refine lv_iload hx hb dX1_jump_101 (lv_at hl 1 rfl) ?_
            refine kvV (As := [.int 7, .int (ad + 4)]) (rest := []) (wc := [(hM, .inr (1, [.int base, .ref qr, .ref qm, .int ad, .int sn, .int sy, .int sl, .int rg, .int ly])), (qr, .inl (g.2.1.1, 8, .inl fr)), (qm, .inl (g.2.1.1, 4096, .inl fm))]) (wr := [(h, .inr (0, [.ref q, .int len])), (q, .inl (g.2.1.1, N, .inl f))]) ⟨hx, hb, hml, hown, hts⟩ (c_X1_change l g hM qr qm fr fm base ad sn sy sl rg ly 7 (ad + 4)) (cwV 2 hts gX1_jump_X1_change rfl rfl rfl (by decide +kernel) ⟨Nat.le_of_ble_eq_true rfl, Nat.le_of_ble_eq_true rfl⟩) ⟨hK, hP, hD, hS, hA, hE, hN⟩ [0, 1, 2] [3, 4] ⟨rfl, rfl, by decide⟩ (q0 := 0) (ci := 1) rfl rfl rfl rfl hl.1 (Nat.le_of_ble_eq_true rfl) dX1_jump_103 ⟨Nat.le_of_ble_eq_true rfl, Nat.le_of_ble_eq_true rfl⟩ rfl (fun u H locs hw hP hD hS => ?_)
            subst hw
            have hP := hP.sub (ws' := [(hM, .inr (1, [.int base, .ref qr, .ref qm, .int ad, .int sn, .int sy, .int sl, .int rg, .int ly])), (qr, .inl (g.2.1.1, 8, .inl (sp_X1_change_registers fr 7 (ad + 4)))), (qm, .inl (g.2.1.1, 4096, .inl fm)), (h, .inr (0, [.ref q, .int len])), (q, .inl (g.2.1.1, N, .inl f))]) [2, 3, 4, 0, 1] rfl
            have hD := hD.sub (ws' := [(hM, .inr (1, [.int base, .ref qr, .ref qm, .int ad, .int sn, .int sy, .int sl, .int rg, .int ly])), (qr, .inl (g.2.1.1, 8, .inl (sp_X1_change_registers fr 7 (ad + 4)))), (qm, .inl (g.2.1.1, 4096, .inl fm)), (h, .inr (0, [.ref q, .int len])), (q, .inl (g.2.1.1, N, .inl f))]) [2, 3, 4, 0, 1] (by decide) rfl
            refine lv_iload hx hb dX1_jump_106 (lv_at hl 0 rfl) ?_
            refine kiSN (As := [.int (4 * (sp_X0_n N f ad))]) (rest := []) (wc := []) (wr := [(hM, .inr (1, [.int base, .ref qr, .ref qm, .int ad, .int sn, .int sy, .int sl, .int rg, .int ly])), (qr, .inl (g.2.1.1, 8, .inl (sp_X1_change_registers fr 7 (ad + 4)))), (qm, .inl (g.2.1.1, 4096, .inl fm)), (h, .inr (0, [.ref q, .int len])), (q, .inl (g.2.1.1, N, .inl f))]) ⟨hx, hb, hml, hown, hts⟩ (c_X5_isBundleStart l g (4 * (sp_X0_n N f ad))) ⟨va_cnB (host := RX5) 1 hts gX1_jump_X5_isBundleStart_n105 rfl rfl rfl (hN.1 (RX1, 105, yX5_isBundleStart) (List.mem_of_getElem? (i := 2) rfl)) (hts (.initialized RX5) (by decide +kernel)) (by decide +kernel) ⟨Nat.le_of_ble_eq_true rfl, Nat.le_of_ble_eq_true rfl⟩, hts (.static yX5_isBundleStart) (by decide +kernel), trivial⟩ ⟨hK, hP, hD, hS, hA, hE, hN⟩ [] [0, 1, 2, 3, 4] ⟨rfl, rfl, by decide⟩ rfl hl.1 (Nat.le_of_ble_eq_true rfl) dX1_jump_108 ⟨Nat.le_of_ble_eq_true rfl, Nat.le_of_ble_eq_true rfl⟩ rfl (fun r u H locs hw hP hD hS => ?_)
            obtain ⟨hq, hw⟩ := hw
            subst r
            subst hw
            have hP := hP.sub (ws' := [(hM, .inr (1, [.int base, .ref qr, .ref qm, .int ad, .int sn, .int sy, .int sl, .int rg, .int ly])), (qr, .inl (g.2.1.1, 8, .inl (sp_X1_change_registers fr 7 (ad + 4)))), (qm, .inl (g.2.1.1, 4096, .inl fm)), (h, .inr (0, [.ref q, .int len])), (q, .inl (g.2.1.1, N, .inl f))]) [0, 1, 2, 3, 4] rfl
            have hD := hD.sub (ws' := [(hM, .inr (1, [.int base, .ref qr, .ref qm, .int ad, .int sn, .int sy, .int sl, .int rg, .int ly])), (qr, .inl (g.2.1.1, 8, .inl (sp_X1_change_registers fr 7 (ad + 4)))), (qm, .inl (g.2.1.1, 4096, .inl fm)), (h, .inr (0, [.ref q, .int len])), (q, .inl (g.2.1.1, N, .inl f))]) [0, 1, 2, 3, 4] (by decide) rfl
            refine lv_if_ne (tgt := 124) hx hb dX1_jump_111 (by decide) (fun c_28 => ?_) (fun c_28 => ?_)
            · skip
              refine lv_aload_n hx hb dX1_jump_124 rfl (lv_at hl 3 rfl) ?_
              refine lv_iload hx hb dX1_jump_125 (lv_at hl 0 rfl) ?_
              refine va_put (D := g.1) (ci := 1) (v := .int (4 * (sp_X0_n N f ad))) (ty := .int) (C := RX1) (T := TX1) (N := 9) hx hb hts iX1 tyX1 tyX1_ok nmX1 hown hK hP hD hS 0 rfl rfl 3 (by decide) (hts (.fieldLink RX1 25 "FaultIsolation$Machine" "address" "I") (by decide +kernel)) (fun _ h9 => h9) rfl (by decide +kernel) rfl rfl (Nat.le_of_ble_eq_true rfl) dX1_jump_127 (fun H locs hP hD hS => ?_)
              have hP : va_P g.1 vwCl [(hM, .inr (1, [.int base, .ref qr, .ref qm, .int (4 * (sp_X0_n N f ad)), .int sn, .int sy, .int sl, .int rg, .int ly])), (qr, .inl (g.2.1.1, 8, .inl (sp_X1_change_registers fr 7 (ad + 4)))), (qm, .inl (g.2.1.1, 4096, .inl fm)), (h, .inr (0, [.ref q, .int len])), (q, .inl (g.2.1.1, N, .inl f))] H := hP
              have hD : va_D A [(hM, .inr (1, [.int base, .ref qr, .ref qm, .int (4 * (sp_X0_n N f ad)), .int sn, .int sy, .int sl, .int rg, .int ly])), (qr, .inl (g.2.1.1, 8, .inl (sp_X1_change_registers fr 7 (ad + 4)))), (qm, .inl (g.2.1.1, 4096, .inl fm)), (h, .inr (0, [.ref q, .int len])), (q, .inl (g.2.1.1, N, .inl f))] := hD
              exact k_vret hx hb hr hlocks ⟨hK, hP, hD, hS, hA, hE, hN⟩ dX1_jump_130 (Nat.le_of_ble_eq_true rfl) (Nat.le_of_ble_eq_true rfl) (by simp only [sp_X1_jump_address, sp_X1_jump_slips, sp_X1_jump_registers, if_pos c_0, if_pos c_16, if_neg c_17, if_neg c_25, if_pos c_26, if_neg c_28])
            · skip
              refine lv_aload_n hx hb dX1_jump_114 rfl (lv_at hl 3 rfl) ?_
              refine lv_dup hx hb dX1_jump_115 rfl ?_
              refine va_get (D := g.1) (ci := 1) (v := .int sl) (C := RX1) (T := TX1) (N := 9) hx hb hts iX1 hown hK hP 0 rfl rfl 6 (by decide) (hts (.fieldLink RX1 34 "FaultIsolation$Machine" "slips" "I") (by decide +kernel)) (fun _ h9 => h9) rfl dX1_jump_116 ?_
              refine lv_iconst (v := 1) hx hb dX1_jump_119 (by decide) ?_
              refine lv_iadd hx hb dX1_jump_120 ?_
              refine va_put (D := g.1) (ci := 1) (v := .int (sl + 1)) (ty := .int) (C := RX1) (T := TX1) (N := 9) hx hb hts iX1 tyX1 tyX1_ok nmX1 hown hK hP hD hS 0 rfl rfl 6 (by decide) (hts (.fieldLink RX1 34 "FaultIsolation$Machine" "slips" "I") (by decide +kernel)) (fun _ h9 => h9) rfl (by decide +kernel) rfl rfl (Nat.le_of_ble_eq_true rfl) dX1_jump_121 (fun H locs hP hD hS => ?_)
              have hP : va_P g.1 vwCl [(hM, .inr (1, [.int base, .ref qr, .ref qm, .int ad, .int sn, .int sy, .int (sl + 1), .int rg, .int ly])), (qr, .inl (g.2.1.1, 8, .inl (sp_X1_change_registers fr 7 (ad + 4)))), (qm, .inl (g.2.1.1, 4096, .inl fm)), (h, .inr (0, [.ref q, .int len])), (q, .inl (g.2.1.1, N, .inl f))] H := hP
              have hD : va_D A [(hM, .inr (1, [.int base, .ref qr, .ref qm, .int ad, .int sn, .int sy, .int (sl + 1), .int rg, .int ly])), (qr, .inl (g.2.1.1, 8, .inl (sp_X1_change_registers fr 7 (ad + 4)))), (qm, .inl (g.2.1.1, 4096, .inl fm)), (h, .inr (0, [.ref q, .int len])), (q, .inl (g.2.1.1, N, .inl f))] := hD
              refine lv_aload_n hx hb dX1_jump_124 rfl (lv_at hl 3 rfl) ?_
              refine lv_iload hx hb dX1_jump_125 (lv_at hl 0 rfl) ?_
              refine va_put (D := g.1) (ci := 1) (v := .int (4 * (sp_X0_n N f ad))) (ty := .int) (C := RX1) (T := TX1) (N := 9) hx hb hts iX1 tyX1 tyX1_ok nmX1 hown hK hP hD hS 0 rfl rfl 3 (by decide) (hts (.fieldLink RX1 25 "FaultIsolation$Machine" "address" "I") (by decide +kernel)) (fun _ h9 => h9) rfl (by decide +kernel) rfl rfl (Nat.le_of_ble_eq_true rfl) dX1_jump_127 (fun H locs hP hD hS => ?_)
              have hP : va_P g.1 vwCl [(hM, .inr (1, [.int base, .ref qr, .ref qm, .int (4 * (sp_X0_n N f ad)), .int sn, .int sy, .int (sl + 1), .int rg, .int ly])), (qr, .inl (g.2.1.1, 8, .inl (sp_X1_change_registers fr 7 (ad + 4)))), (qm, .inl (g.2.1.1, 4096, .inl fm)), (h, .inr (0, [.ref q, .int len])), (q, .inl (g.2.1.1, N, .inl f))] H := hP
              have hD : va_D A [(hM, .inr (1, [.int base, .ref qr, .ref qm, .int (4 * (sp_X0_n N f ad)), .int sn, .int sy, .int (sl + 1), .int rg, .int ly])), (qr, .inl (g.2.1.1, 8, .inl (sp_X1_change_registers fr 7 (ad + 4)))), (qm, .inl (g.2.1.1, 4096, .inl fm)), (h, .inr (0, [.ref q, .int len])), (q, .inl (g.2.1.1, N, .inl f))] := hD
              exact k_vret hx hb hr hlocks ⟨hK, hP, hD, hS, hA, hE, hN⟩ dX1_jump_130 (Nat.le_of_ble_eq_true rfl) (Nat.le_of_ble_eq_true rfl) (by simp only [sp_X1_jump_address, sp_X1_jump_slips, sp_X1_jump_registers, if_pos c_0, if_pos c_16, if_neg c_17, if_neg c_25, if_pos c_26, if_pos c_28])
        · skip
          refine lv_aload_n hx hb dX1_jump_78 rfl (lv_at hl 3 rfl) ?_
          refine lv_aload_n hx hb dX1_jump_79 rfl (lv_at hl 4 rfl) ?_
          refine lv_aload_n hx hb dX1_jump_80 rfl (lv_at hl 3 rfl) ?_
          refine va_get (D := g.1) (ci := 1) (v := .int ad) (C := RX1) (T := TX1) (N := 9) hx hb hts iX1 hown hK hP 0 rfl rfl 3 (by decide) (hts (.fieldLink RX1 25 "FaultIsolation$Machine" "address" "I") (by decide +kernel)) (fun _ h9 => h9) rfl dX1_jump_81 ?_
          refine kiV (As := [.int ad]) (rest := [.ref hM]) (wc := [(h, .inr (0, [.ref q, .int len])), (q, .inl (g.2.1.1, N, .inl f))]) (wr := [(hM, .inr (1, [.int base, .ref qr, .ref qm, .int ad, .int sn, .int sy, .int sl, .int rg, .int ly])), (qr, .inl (g.2.1.1, 8, .inl fr)), (qm, .inl (g.2.1.1, 4096, .inl fm))]) ⟨hx, hb, hml, hown, hts⟩ (c_X0_a l g h q N f len ad hNn) (cwV 1 hts gX1_jump_X0_a rfl rfl rfl (by decide +kernel) ⟨Nat.le_of_ble_eq_true rfl, Nat.le_of_ble_eq_true rfl⟩) ⟨hK, hP, hD, hS, hA, hE, hN⟩ [3, 4] [0, 1, 2] ⟨rfl, rfl, by decide⟩ (q0 := 3) (ci := 0) rfl rfl rfl rfl hl.1 (Nat.le_of_ble_eq_true rfl) dX1_jump_84 ⟨Nat.le_of_ble_eq_true rfl, Nat.le_of_ble_eq_true rfl⟩ rfl (fun r u H locs hw hP hD hS => ?_)
          obtain ⟨hq, hw⟩ := hw
          subst r
          subst hw
          have hP := hP.sub (ws' := [(hM, .inr (1, [.int base, .ref qr, .ref qm, .int ad, .int sn, .int sy, .int sl, .int rg, .int ly])), (qr, .inl (g.2.1.1, 8, .inl fr)), (qm, .inl (g.2.1.1, 4096, .inl fm)), (h, .inr (0, [.ref q, .int len])), (q, .inl (g.2.1.1, N, .inl f))]) [0, 1, 2, 3, 4] rfl
          have hD := hD.sub (ws' := [(hM, .inr (1, [.int base, .ref qr, .ref qm, .int ad, .int sn, .int sy, .int sl, .int rg, .int ly])), (qr, .inl (g.2.1.1, 8, .inl fr)), (qm, .inl (g.2.1.1, 4096, .inl fm)), (h, .inr (0, [.ref q, .int len])), (q, .inl (g.2.1.1, N, .inl f))]) [0, 1, 2, 3, 4] (by decide) rfl
          refine kiV (As := [.int (sp_X0_a N f ad)]) (rest := []) (wc := [(hM, .inr (1, [.int base, .ref qr, .ref qm, .int ad, .int sn, .int sy, .int sl, .int rg, .int ly])), (qr, .inl (g.2.1.1, 8, .inl fr)), (qm, .inl (g.2.1.1, 4096, .inl fm))]) (wr := [(h, .inr (0, [.ref q, .int len])), (q, .inl (g.2.1.1, N, .inl f))]) ⟨hx, hb, hml, hown, hts⟩ (c_X1_valueOf l g hM qr qm fr fm base ad sn sy sl rg ly (sp_X0_a N f ad)) (cwV 1 hts gX1_jump_X1_valueOf rfl rfl rfl (by decide +kernel) ⟨Nat.le_of_ble_eq_true rfl, Nat.le_of_ble_eq_true rfl⟩) ⟨hK, hP, hD, hS, hA, hE, hN⟩ [0, 1, 2] [3, 4] ⟨rfl, rfl, by decide⟩ (q0 := 0) (ci := 1) rfl rfl rfl rfl hl.1 (Nat.le_of_ble_eq_true rfl) dX1_jump_87 ⟨Nat.le_of_ble_eq_true rfl, Nat.le_of_ble_eq_true rfl⟩ rfl (fun r u H locs hw hP hD hS => ?_)
          obtain ⟨hq, hw⟩ := hw
          subst r
          subst hw
          have hP := hP.sub (ws' := [(hM, .inr (1, [.int base, .ref qr, .ref qm, .int ad, .int sn, .int sy, .int sl, .int rg, .int ly])), (qr, .inl (g.2.1.1, 8, .inl fr)), (qm, .inl (g.2.1.1, 4096, .inl fm)), (h, .inr (0, [.ref q, .int len])), (q, .inl (g.2.1.1, N, .inl f))]) [2, 3, 4, 0, 1] rfl
          have hD := hD.sub (ws' := [(hM, .inr (1, [.int base, .ref qr, .ref qm, .int ad, .int sn, .int sy, .int sl, .int rg, .int ly])), (qr, .inl (g.2.1.1, 8, .inl fr)), (qm, .inl (g.2.1.1, 4096, .inl fm)), (h, .inr (0, [.ref q, .int len])), (q, .inl (g.2.1.1, N, .inl f))]) [2, 3, 4, 0, 1] (by decide) rfl
          refine lv_istore (lv' := [(5, .int (sp_X1_valueOf fr (sp_X0_a N f ad))), (4, .int (ad + 4)), (3, .int (sp_X0_word N f ad)), (0, .ref hM), (1, .ref h), (2, .int pr)]) hx hb dX1_jump_90 hl (by decide) rfl (fun ls hl => ?_)
          refine lv_iload_n hx hb dX1_jump_92 rfl (lv_at hl 2 rfl) ?_
          refine lv_bipush (v := 15) hx hb dX1_jump_93 (by decide) ?_
          refine lv_icmp_ne (tgt := 106) hx hb dX1_jump_95 (by decide) (fun c_29 => ?_) (fun c_29 => ?_)
          · skip
            refine lv_iload hx hb dX1_jump_106 (lv_at hl 0 rfl) ?_
            refine kiSN (As := [.int (sp_X1_valueOf fr (sp_X0_a N f ad))]) (rest := []) (wc := []) (wr := [(hM, .inr (1, [.int base, .ref qr, .ref qm, .int ad, .int sn, .int sy, .int sl, .int rg, .int ly])), (qr, .inl (g.2.1.1, 8, .inl fr)), (qm, .inl (g.2.1.1, 4096, .inl fm)), (h, .inr (0, [.ref q, .int len])), (q, .inl (g.2.1.1, N, .inl f))]) ⟨hx, hb, hml, hown, hts⟩ (c_X5_isBundleStart l g (sp_X1_valueOf fr (sp_X0_a N f ad))) ⟨va_cnB (host := RX5) 1 hts gX1_jump_X5_isBundleStart_n105 rfl rfl rfl (hN.1 (RX1, 105, yX5_isBundleStart) (List.mem_of_getElem? (i := 2) rfl)) (hts (.initialized RX5) (by decide +kernel)) (by decide +kernel) ⟨Nat.le_of_ble_eq_true rfl, Nat.le_of_ble_eq_true rfl⟩, hts (.static yX5_isBundleStart) (by decide +kernel), trivial⟩ ⟨hK, hP, hD, hS, hA, hE, hN⟩ [] [0, 1, 2, 3, 4] ⟨rfl, rfl, by decide⟩ rfl hl.1 (Nat.le_of_ble_eq_true rfl) dX1_jump_108 ⟨Nat.le_of_ble_eq_true rfl, Nat.le_of_ble_eq_true rfl⟩ rfl (fun r u H locs hw hP hD hS => ?_)
            obtain ⟨hq, hw⟩ := hw
            subst r
            subst hw
            have hP := hP.sub (ws' := [(hM, .inr (1, [.int base, .ref qr, .ref qm, .int ad, .int sn, .int sy, .int sl, .int rg, .int ly])), (qr, .inl (g.2.1.1, 8, .inl fr)), (qm, .inl (g.2.1.1, 4096, .inl fm)), (h, .inr (0, [.ref q, .int len])), (q, .inl (g.2.1.1, N, .inl f))]) [0, 1, 2, 3, 4] rfl
            have hD := hD.sub (ws' := [(hM, .inr (1, [.int base, .ref qr, .ref qm, .int ad, .int sn, .int sy, .int sl, .int rg, .int ly])), (qr, .inl (g.2.1.1, 8, .inl fr)), (qm, .inl (g.2.1.1, 4096, .inl fm)), (h, .inr (0, [.ref q, .int len])), (q, .inl (g.2.1.1, N, .inl f))]) [0, 1, 2, 3, 4] (by decide) rfl
            refine lv_if_ne (tgt := 124) hx hb dX1_jump_111 (by decide) (fun c_30 => ?_) (fun c_30 => ?_)
            · skip
              refine lv_aload_n hx hb dX1_jump_124 rfl (lv_at hl 3 rfl) ?_
              refine lv_iload hx hb dX1_jump_125 (lv_at hl 0 rfl) ?_
              refine va_put (D := g.1) (ci := 1) (v := .int (sp_X1_valueOf fr (sp_X0_a N f ad))) (ty := .int) (C := RX1) (T := TX1) (N := 9) hx hb hts iX1 tyX1 tyX1_ok nmX1 hown hK hP hD hS 0 rfl rfl 3 (by decide) (hts (.fieldLink RX1 25 "FaultIsolation$Machine" "address" "I") (by decide +kernel)) (fun _ h9 => h9) rfl (by decide +kernel) rfl rfl (Nat.le_of_ble_eq_true rfl) dX1_jump_127 (fun H locs hP hD hS => ?_)
              have hP : va_P g.1 vwCl [(hM, .inr (1, [.int base, .ref qr, .ref qm, .int (sp_X1_valueOf fr (sp_X0_a N f ad)), .int sn, .int sy, .int sl, .int rg, .int ly])), (qr, .inl (g.2.1.1, 8, .inl fr)), (qm, .inl (g.2.1.1, 4096, .inl fm)), (h, .inr (0, [.ref q, .int len])), (q, .inl (g.2.1.1, N, .inl f))] H := hP
              have hD : va_D A [(hM, .inr (1, [.int base, .ref qr, .ref qm, .int (sp_X1_valueOf fr (sp_X0_a N f ad)), .int sn, .int sy, .int sl, .int rg, .int ly])), (qr, .inl (g.2.1.1, 8, .inl fr)), (qm, .inl (g.2.1.1, 4096, .inl fm)), (h, .inr (0, [.ref q, .int len])), (q, .inl (g.2.1.1, N, .inl f))] := hD
              exact k_vret hx hb hr hlocks ⟨hK, hP, hD, hS, hA, hE, hN⟩ dX1_jump_130 (Nat.le_of_ble_eq_true rfl) (Nat.le_of_ble_eq_true rfl) (by simp only [sp_X1_jump_address, sp_X1_jump_slips, sp_X1_jump_registers, if_pos c_0, if_pos c_16, if_neg c_17, if_pos c_25, if_neg c_29, if_neg c_30])
            · skip
              refine lv_aload_n hx hb dX1_jump_114 rfl (lv_at hl 3 rfl) ?_
              refine lv_dup hx hb dX1_jump_115 rfl ?_
              refine va_get (D := g.1) (ci := 1) (v := .int sl) (C := RX1) (T := TX1) (N := 9) hx hb hts iX1 hown hK hP 0 rfl rfl 6 (by decide) (hts (.fieldLink RX1 34 "FaultIsolation$Machine" "slips" "I") (by decide +kernel)) (fun _ h9 => h9) rfl dX1_jump_116 ?_
              refine lv_iconst (v := 1) hx hb dX1_jump_119 (by decide) ?_
              refine lv_iadd hx hb dX1_jump_120 ?_
              refine va_put (D := g.1) (ci := 1) (v := .int (sl + 1)) (ty := .int) (C := RX1) (T := TX1) (N := 9) hx hb hts iX1 tyX1 tyX1_ok nmX1 hown hK hP hD hS 0 rfl rfl 6 (by decide) (hts (.fieldLink RX1 34 "FaultIsolation$Machine" "slips" "I") (by decide +kernel)) (fun _ h9 => h9) rfl (by decide +kernel) rfl rfl (Nat.le_of_ble_eq_true rfl) dX1_jump_121 (fun H locs hP hD hS => ?_)
              have hP : va_P g.1 vwCl [(hM, .inr (1, [.int base, .ref qr, .ref qm, .int ad, .int sn, .int sy, .int (sl + 1), .int rg, .int ly])), (qr, .inl (g.2.1.1, 8, .inl fr)), (qm, .inl (g.2.1.1, 4096, .inl fm)), (h, .inr (0, [.ref q, .int len])), (q, .inl (g.2.1.1, N, .inl f))] H := hP
              have hD : va_D A [(hM, .inr (1, [.int base, .ref qr, .ref qm, .int ad, .int sn, .int sy, .int (sl + 1), .int rg, .int ly])), (qr, .inl (g.2.1.1, 8, .inl fr)), (qm, .inl (g.2.1.1, 4096, .inl fm)), (h, .inr (0, [.ref q, .int len])), (q, .inl (g.2.1.1, N, .inl f))] := hD
              refine lv_aload_n hx hb dX1_jump_124 rfl (lv_at hl 3 rfl) ?_
              refine lv_iload hx hb dX1_jump_125 (lv_at hl 0 rfl) ?_
              refine va_put (D := g.1) (ci := 1) (v := .int (sp_X1_valueOf fr (sp_X0_a N f ad))) (ty := .int) (C := RX1) (T := TX1) (N := 9) hx hb hts iX1 tyX1 tyX1_ok nmX1 hown hK hP hD hS 0 rfl rfl 3 (by decide) (hts (.fieldLink RX1 25 "FaultIsolation$Machine" "address" "I") (by decide +kernel)) (fun _ h9 => h9) rfl (by decide +kernel) rfl rfl (Nat.le_of_ble_eq_true rfl) dX1_jump_127 (fun H locs hP hD hS => ?_)
              have hP : va_P g.1 vwCl [(hM, .inr (1, [.int base, .ref qr, .ref qm, .int (sp_X1_valueOf fr (sp_X0_a N f ad)), .int sn, .int sy, .int (sl + 1), .int rg, .int ly])), (qr, .inl (g.2.1.1, 8, .inl fr)), (qm, .inl (g.2.1.1, 4096, .inl fm)), (h, .inr (0, [.ref q, .int len])), (q, .inl (g.2.1.1, N, .inl f))] H := hP
              have hD : va_D A [(hM, .inr (1, [.int base, .ref qr, .ref qm, .int (sp_X1_valueOf fr (sp_X0_a N f ad)), .int sn, .int sy, .int (sl + 1), .int rg, .int ly])), (qr, .inl (g.2.1.1, 8, .inl fr)), (qm, .inl (g.2.1.1, 4096, .inl fm)), (h, .inr (0, [.ref q, .int len])), (q, .inl (g.2.1.1, N, .inl f))] := hD
              exact k_vret hx hb hr hlocks ⟨hK, hP, hD, hS, hA, hE, hN⟩ dX1_jump_130 (Nat.le_of_ble_eq_true rfl) (Nat.le_of_ble_eq_true rfl) (by simp only [sp_X1_jump_address, sp_X1_jump_slips, sp_X1_jump_registers, if_pos c_0, if_pos c_16, if_neg c_17, if_pos c_25, if_neg c_29, if_pos c_30])
          · skip
            refine lv_aload_n hx hb dX1_jump_98 rfl (lv_at hl 3 rfl) ?_
            refine lv_bipush (v := 7) hx hb dX1_jump_99 (by decide) ?_
            refine lv_iload hx hb dX1_jump_101 (lv_at hl 1 rfl) ?_
            refine kvV (As := [.int 7, .int (ad + 4)]) (rest := []) (wc := [(hM, .inr (1, [.int base, .ref qr, .ref qm, .int ad, .int sn, .int sy, .int sl, .int rg, .int ly])), (qr, .inl (g.2.1.1, 8, .inl fr)), (qm, .inl (g.2.1.1, 4096, .inl fm))]) (wr := [(h, .inr (0, [.ref q, .int len])), (q, .inl (g.2.1.1, N, .inl f))]) ⟨hx, hb, hml, hown, hts⟩ (c_X1_change l g hM qr qm fr fm base ad sn sy sl rg ly 7 (ad + 4)) (cwV 2 hts gX1_jump_X1_change rfl rfl rfl (by decide +kernel) ⟨Nat.le_of_ble_eq_true rfl, Nat.le_of_ble_eq_true rfl⟩) ⟨hK, hP, hD, hS, hA, hE, hN⟩ [0, 1, 2] [3, 4] ⟨rfl, rfl, by decide⟩ (q0 := 0) (ci := 1) rfl rfl rfl rfl hl.1 (Nat.le_of_ble_eq_true rfl) dX1_jump_103 ⟨Nat.le_of_ble_eq_true rfl, Nat.le_of_ble_eq_true rfl⟩ rfl (fun u H locs hw hP hD hS => ?_)
            subst hw
            have hP := hP.sub (ws' := [(hM, .inr (1, [.int base, .ref qr, .ref qm, .int ad, .int sn, .int sy, .int sl, .int rg, .int ly])), (qr, .inl (g.2.1.1, 8, .inl (sp_X1_change_registers fr 7 (ad + 4)))), (qm, .inl (g.2.1.1, 4096, .inl fm)), (h, .inr (0, [.ref q, .int len])), (q, .inl (g.2.1.1, N, .inl f))]) [2, 3, 4, 0, 1] rfl
            have hD := hD.sub (ws' := [(hM, .inr (1, [.int base, .ref qr, .ref qm, .int ad, .int sn, .int sy, .int sl, .int rg, .int ly])), (qr, .inl (g.2.1.1, 8, .inl (sp_X1_change_registers fr 7 (ad + 4)))), (qm, .inl (g.2.1.1, 4096, .inl fm)), (h, .inr (0, [.ref q, .int len])), (q, .inl (g.2.1.1, N, .inl f))]) [2, 3, 4, 0, 1] (by decide) rfl
            refine lv_iload hx hb dX1_jump_106 (lv_at hl 0 rfl) ?_
            refine kiSN (As := [.int (sp_X1_valueOf fr (sp_X0_a N f ad))]) (rest := []) (wc := []) (wr := [(hM, .inr (1, [.int base, .ref qr, .ref qm, .int ad, .int sn, .int sy, .int sl, .int rg, .int ly])), (qr, .inl (g.2.1.1, 8, .inl (sp_X1_change_registers fr 7 (ad + 4)))), (qm, .inl (g.2.1.1, 4096, .inl fm)), (h, .inr (0, [.ref q, .int len])), (q, .inl (g.2.1.1, N, .inl f))]) ⟨hx, hb, hml, hown, hts⟩ (c_X5_isBundleStart l g (sp_X1_valueOf fr (sp_X0_a N f ad))) ⟨va_cnB (host := RX5) 1 hts gX1_jump_X5_isBundleStart_n105 rfl rfl rfl (hN.1 (RX1, 105, yX5_isBundleStart) (List.mem_of_getElem? (i := 2) rfl)) (hts (.initialized RX5) (by decide +kernel)) (by decide +kernel) ⟨Nat.le_of_ble_eq_true rfl, Nat.le_of_ble_eq_true rfl⟩, hts (.static yX5_isBundleStart) (by decide +kernel), trivial⟩ ⟨hK, hP, hD, hS, hA, hE, hN⟩ [] [0, 1, 2, 3, 4] ⟨rfl, rfl, by decide⟩ rfl hl.1 (Nat.le_of_ble_eq_true rfl) dX1_jump_108 ⟨Nat.le_of_ble_eq_true rfl, Nat.le_of_ble_eq_true rfl⟩ rfl (fun r u H locs hw hP hD hS => ?_)
            obtain ⟨hq, hw⟩ := hw
            subst r
            subst hw
            have hP := hP.sub (ws' := [(hM, .inr (1, [.int base, .ref qr, .ref qm, .int ad, .int sn, .int sy, .int sl, .int rg, .int ly])), (qr, .inl (g.2.1.1, 8, .inl (sp_X1_change_registers fr 7 (ad + 4)))), (qm, .inl (g.2.1.1, 4096, .inl fm)), (h, .inr (0, [.ref q, .int len])), (q, .inl (g.2.1.1, N, .inl f))]) [0, 1, 2, 3, 4] rfl
            have hD := hD.sub (ws' := [(hM, .inr (1, [.int base, .ref qr, .ref qm, .int ad, .int sn, .int sy, .int sl, .int rg, .int ly])), (qr, .inl (g.2.1.1, 8, .inl (sp_X1_change_registers fr 7 (ad + 4)))), (qm, .inl (g.2.1.1, 4096, .inl fm)), (h, .inr (0, [.ref q, .int len])), (q, .inl (g.2.1.1, N, .inl f))]) [0, 1, 2, 3, 4] (by decide) rfl
            refine lv_if_ne (tgt := 124) hx hb dX1_jump_111 (by decide) (fun c_31 => ?_) (fun c_31 => ?_)
            · skip
              refine lv_aload_n hx hb dX1_jump_124 rfl (lv_at hl 3 rfl) ?_
              refine lv_iload hx hb dX1_jump_125 (lv_at hl 0 rfl) ?_
              refine va_put (D := g.1) (ci := 1) (v := .int (sp_X1_valueOf fr (sp_X0_a N f ad))) (ty := .int) (C := RX1) (T := TX1) (N := 9) hx hb hts iX1 tyX1 tyX1_ok nmX1 hown hK hP hD hS 0 rfl rfl 3 (by decide) (hts (.fieldLink RX1 25 "FaultIsolation$Machine" "address" "I") (by decide +kernel)) (fun _ h9 => h9) rfl (by decide +kernel) rfl rfl (Nat.le_of_ble_eq_true rfl) dX1_jump_127 (fun H locs hP hD hS => ?_)
              have hP : va_P g.1 vwCl [(hM, .inr (1, [.int base, .ref qr, .ref qm, .int (sp_X1_valueOf fr (sp_X0_a N f ad)), .int sn, .int sy, .int sl, .int rg, .int ly])), (qr, .inl (g.2.1.1, 8, .inl (sp_X1_change_registers fr 7 (ad + 4)))), (qm, .inl (g.2.1.1, 4096, .inl fm)), (h, .inr (0, [.ref q, .int len])), (q, .inl (g.2.1.1, N, .inl f))] H := hP
              have hD : va_D A [(hM, .inr (1, [.int base, .ref qr, .ref qm, .int (sp_X1_valueOf fr (sp_X0_a N f ad)), .int sn, .int sy, .int sl, .int rg, .int ly])), (qr, .inl (g.2.1.1, 8, .inl (sp_X1_change_registers fr 7 (ad + 4)))), (qm, .inl (g.2.1.1, 4096, .inl fm)), (h, .inr (0, [.ref q, .int len])), (q, .inl (g.2.1.1, N, .inl f))] := hD
              exact k_vret hx hb hr hlocks ⟨hK, hP, hD, hS, hA, hE, hN⟩ dX1_jump_130 (Nat.le_of_ble_eq_true rfl) (Nat.le_of_ble_eq_true rfl) (by simp only [sp_X1_jump_address, sp_X1_jump_slips, sp_X1_jump_registers, if_pos c_0, if_pos c_16, if_neg c_17, if_pos c_25, if_pos c_29, if_neg c_31])
            · skip
              refine lv_aload_n hx hb dX1_jump_114 rfl (lv_at hl 3 rfl) ?_
              refine lv_dup hx hb dX1_jump_115 rfl ?_
              refine va_get (D := g.1) (ci := 1) (v := .int sl) (C := RX1) (T := TX1) (N := 9) hx hb hts iX1 hown hK hP 0 rfl rfl 6 (by decide) (hts (.fieldLink RX1 34 "FaultIsolation$Machine" "slips" "I") (by decide +kernel)) (fun _ h9 => h9) rfl dX1_jump_116 ?_
              refine lv_iconst (v := 1) hx hb dX1_jump_119 (by decide) ?_
              refine lv_iadd hx hb dX1_jump_120 ?_
              refine va_put (D := g.1) (ci := 1) (v := .int (sl + 1)) (ty := .int) (C := RX1) (T := TX1) (N := 9) hx hb hts iX1 tyX1 tyX1_ok nmX1 hown hK hP hD hS 0 rfl rfl 6 (by decide) (hts (.fieldLink RX1 34 "FaultIsolation$Machine" "slips" "I") (by decide +kernel)) (fun _ h9 => h9) rfl (by decide +kernel) rfl rfl (Nat.le_of_ble_eq_true rfl) dX1_jump_121 (fun H locs hP hD hS => ?_)
              have hP : va_P g.1 vwCl [(hM, .inr (1, [.int base, .ref qr, .ref qm, .int ad, .int sn, .int sy, .int (sl + 1), .int rg, .int ly])), (qr, .inl (g.2.1.1, 8, .inl (sp_X1_change_registers fr 7 (ad + 4)))), (qm, .inl (g.2.1.1, 4096, .inl fm)), (h, .inr (0, [.ref q, .int len])), (q, .inl (g.2.1.1, N, .inl f))] H := hP
              have hD : va_D A [(hM, .inr (1, [.int base, .ref qr, .ref qm, .int ad, .int sn, .int sy, .int (sl + 1), .int rg, .int ly])), (qr, .inl (g.2.1.1, 8, .inl (sp_X1_change_registers fr 7 (ad + 4)))), (qm, .inl (g.2.1.1, 4096, .inl fm)), (h, .inr (0, [.ref q, .int len])), (q, .inl (g.2.1.1, N, .inl f))] := hD
              refine lv_aload_n hx hb dX1_jump_124 rfl (lv_at hl 3 rfl) ?_
              refine lv_iload hx hb dX1_jump_125 (lv_at hl 0 rfl) ?_
              refine va_put (D := g.1) (ci := 1) (v := .int (sp_X1_valueOf fr (sp_X0_a N f ad))) (ty := .int) (C := RX1) (T := TX1) (N := 9) hx hb hts iX1 tyX1 tyX1_ok nmX1 hown hK hP hD hS 0 rfl rfl 3 (by decide) (hts (.fieldLink RX1 25 "FaultIsolation$Machine" "address" "I") (by decide +kernel)) (fun _ h9 => h9) rfl (by decide +kernel) rfl rfl (Nat.le_of_ble_eq_true rfl) dX1_jump_127 (fun H locs hP hD hS => ?_)
              have hP : va_P g.1 vwCl [(hM, .inr (1, [.int base, .ref qr, .ref qm, .int (sp_X1_valueOf fr (sp_X0_a N f ad)), .int sn, .int sy, .int (sl + 1), .int rg, .int ly])), (qr, .inl (g.2.1.1, 8, .inl (sp_X1_change_registers fr 7 (ad + 4)))), (qm, .inl (g.2.1.1, 4096, .inl fm)), (h, .inr (0, [.ref q, .int len])), (q, .inl (g.2.1.1, N, .inl f))] H := hP
              have hD : va_D A [(hM, .inr (1, [.int base, .ref qr, .ref qm, .int (sp_X1_valueOf fr (sp_X0_a N f ad)), .int sn, .int sy, .int (sl + 1), .int rg, .int ly])), (qr, .inl (g.2.1.1, 8, .inl (sp_X1_change_registers fr 7 (ad + 4)))), (qm, .inl (g.2.1.1, 4096, .inl fm)), (h, .inr (0, [.ref q, .int len])), (q, .inl (g.2.1.1, N, .inl f))] := hD
              exact k_vret hx hb hr hlocks ⟨hK, hP, hD, hS, hA, hE, hN⟩ dX1_jump_130 (Nat.le_of_ble_eq_true rfl) (Nat.le_of_ble_eq_true rfl) (by simp only [sp_X1_jump_address, sp_X1_jump_slips, sp_X1_jump_registers, if_pos c_0, if_pos c_16, if_neg c_17, if_pos c_25, if_pos c_29, if_pos c_31])
    · skip
      refine lv_aload_n hx hb dX1_jump_38 rfl (lv_at hl 2 rfl) ?_
      refine lv_iload hx hb dX1_jump_39 (lv_at hl 0 rfl) ?_
      refine va_put (D := g.1) (ci := 1) (v := .int (ad + 4)) (ty := .int) (C := RX1) (T := TX1) (N := 9) hx hb hts iX1 tyX1 tyX1_ok nmX1 hown hK hP hD hS 0 rfl rfl 3 (by decide) (hts (.fieldLink RX1 25 "FaultIsolation$Machine" "address" "I") (by decide +kernel)) (fun _ h9 => h9) rfl (by decide +kernel) rfl rfl (Nat.le_of_ble_eq_true rfl) dX1_jump_41 (fun H locs hP hD hS => ?_)
      have hP : va_P g.1 vwCl [(hM, .inr (1, [.int base, .ref qr, .ref qm, .int (ad + 4), .int sn, .int sy, .int sl, .int rg, .int ly])), (qr, .inl (g.2.1.1, 8, .inl fr)), (qm, .inl (g.2.1.1, 4096, .inl fm)), (h, .inr (0, [.ref q, .int len])), (q, .inl (g.2.1.1, N, .inl f))] H := hP
      have hD : va_D A [(hM, .inr (1, [.int base, .ref qr, .ref qm, .int (ad + 4), .int sn, .int sy, .int sl, .int rg, .int ly])), (qr, .inl (g.2.1.1, 8, .inl fr)), (qm, .inl (g.2.1.1, 4096, .inl fm)), (h, .inr (0, [.ref q, .int len])), (q, .inl (g.2.1.1, N, .inl f))] := hD
      exact k_vret hx hb hr hlocks ⟨hK, hP, hD, hS, hA, hE, hN⟩ dX1_jump_44 (Nat.le_of_ble_eq_true rfl) (Nat.le_of_ble_eq_true rfl) (by simp only [sp_X1_jump_address, sp_X1_jump_slips, sp_X1_jump_registers, if_pos c_0, if_neg c_16])
