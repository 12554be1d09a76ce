def kf (P : Nat → Nat) : Nat → Int32 := fun x => nI (P x)
theorem k_a4 {x : Int32} (h0 : ¬ x < 0) (h4 : x - x / 4 * 4 = 0) : x.toNatClampNeg % 4 = 0 := by
  obtain ⟨j, hj, rfl⟩ := nI_of h0
  rw [nI_clamp hj]
  rw [show (4 : Int32) = nI 4 from rfl, pk_rem hj (by decide) (by decide)] at h4
  exact k_eqT (a := j % 4) (b := 0) h4 (by omega) (by decide)
theorem hasA_T : ∀ w : Fin 256, (sp_X6_hasA (nI w.val) = 0 ↔ (w.val = 0 ∨ w.val = 12 ∨ w.val = 15)) := by decide +kernel
theorem hasB_T : ∀ w : Fin 256, (sp_X6_hasB (nI w.val) = 0 ↔ (w.val ≤ 1 ∨ 12 ≤ w.val)) := by decide +kernel
theorem hasC_T : ∀ w : Fin 256, (sp_X6_hasC (nI w.val) = 0 ↔ (w.val ≤ 1 ∨ 9 ≤ w.val)) := by decide +kernel
theorem hasA_N {w : Nat} (h : w < 256) : sp_X6_hasA (nI w) = 0 ↔ (w = 0 ∨ w = 12 ∨ w = 15) := hasA_T ⟨w, h⟩
theorem hasB_N {w : Nat} (h : w < 256) : sp_X6_hasB (nI w) = 0 ↔ (w ≤ 1 ∨ 12 ≤ w) := hasB_T ⟨w, h⟩
theorem hasC_N {w : Nat} (h : w < 256) : sp_X6_hasC (nI w) = 0 ↔ (w ≤ 1 ∨ 9 ≤ w) := hasC_T ⟨w, h⟩
theorem k_regs {w a b c : Nat} (hw : w < 256) (ha : a < 256) (hb : b < 256) (hc : c < 256) (h : ¬ sp_X6_areRegisters (nI w) (nI a) (nI b) (nI c) = 0) : ((w ≠ 0 ∧ w ≠ 12 ∧ w ≠ 15) → a ≤ 7) ∧ ((1 < w ∧ w < 12) → b ≤ 7) ∧ ((1 < w ∧ w < 9) → c ≤ 7) := by
  have eA := hasA_N hw
  have eB := hasB_N hw
  have eC := hasC_N hw
  have la : (7 : Int32) < nI a ↔ 7 < a := nI_ltI (a := 7) (by decide) (by omega)
  have lb : (7 : Int32) < nI b ↔ 7 < b := nI_ltI (a := 7) (by decide) (by omega)
  have lc : (7 : Int32) < nI c ↔ 7 < c := nI_ltI (a := 7) (by decide) (by omega)
  unfold sp_X6_areRegisters at h
  by_cases hA : sp_X6_hasA (nI w) = 0 <;> by_cases hB : sp_X6_hasB (nI w) = 0 <;> by_cases hC : sp_X6_hasC (nI w) = 0 <;> by_cases qa : (7 : Int32) < nI a <;> by_cases qb : (7 : Int32) < nI b <;> by_cases qc : (7 : Int32) < nI c <;> simp only [hA, hB, hC, qa, qb, qc, if_true, if_false, not_true_eq_false] at h <;> simp only [hA, hB, hC, qa, qb, qc, true_iff, false_iff] at eA eB eC la lb lc <;> omega
def sp_X6_touch (gr : Nat → Int32) (kb : Nat) (xc : Int32) : Int32 := if ((gr kb) + xc) < 0 then 4 else (if ((gr kb) + xc) ≤ 4095 then 0 else 4)
def sp_X6_touch_registers (gr : Nat → Int32) (gm : Nat → Int32) (xw : Int32) (ka : Nat) (kb : Nat) (xc : Int32) : Nat → Int32 := if ((gr kb) + xc) < 0 then gr else (if ((gr kb) + xc) ≤ 4095 then (if xw = 10 then (upd gr ka (gm (((gr kb) + xc).toNatClampNeg))) else gr) else gr)
def sp_X6_touch_memory (gr : Nat → Int32) (gm : Nat → Int32) (xw : Int32) (ka : Nat) (kb : Nat) (xc : Int32) : Nat → Int32 := if ((gr kb) + xc) < 0 then gm else (if ((gr kb) + xc) ≤ 4095 then (if xw = 10 then gm else (upd gm (((gr kb) + xc).toNatClampNeg) ((gr ka) &&& 255))) else gm)
def sp_X6_touch_told (gr : Nat → Int32) (gt : Nat → Int32) (xB : Int32) (xw : Int32) (kb : Nat) (xc : Int32) : Nat → Int32 := if ((gr kb) + xc) < 0 then gt else (if ((gr kb) + xc) ≤ 4095 then (if ((gr kb) + xc) < xB then (if xw = 10 then (upd (upd gt 2 ((gt 2) + 1)) 5 ((gr kb) + xc)) else (upd (upd (upd gt 2 ((gt 2) + 1)) 5 ((gr kb) + xc)) 4 ((upd (upd gt 2 ((gt 2) + 1)) 5 ((gr kb) + xc)) 4))) else (if (xB + 1024) ≤ ((gr kb) + xc) then (if xw = 10 then (upd (upd gt 2 ((gt 2) + 1)) 5 ((gr kb) + xc)) else (upd (upd (upd gt 2 ((gt 2) + 1)) 5 ((gr kb) + xc)) 4 ((upd (upd gt 2 ((gt 2) + 1)) 5 ((gr kb) + xc)) 4))) else (if xw = 10 then gt else (upd gt 4 ((gt 4) + 1))))) else gt)
set_option maxHeartbeats 4000000 in
set_option maxRecDepth 100000 in
theorem c_X6_touch (l : Launch) (g : KG) (hO : Nat) (qP : Nat) (qN : Nat) (qY : Nat) (qD : Nat) (qR : Nat) (qM : Nat) (qT : Nat) (gr : Nat → Int32) (gm : Nat → Int32) (gt : Nat → Int32) (xT : Int32) (xB : Int32) (xC : Int32) (xP : Int32) (xS : Int32) (xA : Int32) (xw : Int32) (ka : Nat) (kb : Nat) (xc : Int32) (hka : ka < 8) (hkb : kb < 8) : Ci l g yX6_touch wsX6_touch ({ frames := 0, cells := 0, slots := 0, locals := 0 }) [.ref hO] [(hO, .inr (4, [.int xT, .int xB, .int xC, .ref qP, .int xP, .ref qN, .int xS, .ref qY, .ref qD, .int xA, .ref qR, .ref qM, .ref qT, .int xw, .int (nI ka), .int (nI kb), .int xc])), (qR, .inl (g.2.1.1, 8, .inl gr)), (qM, .inl (g.2.1.1, 4096, .inl gm)), (qT, .inl (g.2.1.1, 6, .inl gt))] (fun r u => r = sp_X6_touch gr kb xc ∧ u = [(hO, .inr (4, [.int xT, .int xB, .int xC, .ref qP, .int xP, .ref qN, .int xS, .ref qY, .ref qD, .int xA, .ref qR, .ref qM, .ref qT, .int xw, .int (nI ka), .int (nI kb), .int xc])), (qR, .inl (g.2.1.1, 8, .inl (sp_X6_touch_registers gr gm xw ka kb xc))), (qM, .inl (g.2.1.1, 4096, .inl (sp_X6_touch_memory gr gm xw ka kb xc))), (qT, .inl (g.2.1.1, 6, .inl (sp_X6_touch_told gr gt xB xw kb xc)))]) 0 0 := by
  intro sz
  refine Met.ofW (cc := cX6_touch) (maxL := 3) (ret := (some .int)) (by decide) rfl ?_
  intro p e s m args below meth c s₁ B hml hv
  obtain ⟨rfl, hsz, hP, hK, hD0, hE, hN⟩ := hv
  have hx := B.exec
  have hb := B.bytes
  have hr := B.returns
  have hts := atoms_spec (ws := wsX6_touch) B.pre
  have hown : s.vm.findClass RX6 = some m.cls := findClass_of_methodNamed B.named
  have hlocks := B.notSynchronized
  have iX6 : ∀ w ∈ u_ws RX6 TX6 17, w ∈ wsX6_touch := by decide +kernel
  subst hsz
  have hD := hD0.self (sz := s.heap.size)
  generalize hAe : va_A [(hO, .inr (4, [.int xT, .int xB, .int xC, .ref qP, .int xP, .ref qN, .int xS, .ref qY, .ref qD, .int xA, .ref qR, .ref qM, .ref qT, .int xw, .int (nI ka), .int (nI kb), .int xc])), (qR, .inl (g.2.1.1, 8, .inl gr)), (qM, .inl (g.2.1.1, 4096, .inl gm)), (qT, .inl (g.2.1.1, 6, .inl gt))] s.heap.size = A at hD hE ⊢
  have hA : ∀ q : Nat, s.heap.size ≤ q → A q := fun q h => by rw [← hAe]; exact Or.inr h
  have hS : va_S A s.heap s.heap [] := va_S.rf
  have hl := lv_entry ([.ref hO]) (n := 3) (Nat.le_of_ble_eq_true rfl)
  rw [lg_entry_eq]
  generalize (lg_sl ([.ref hO]) ++ List.replicate (3 - (lg_sl ([.ref hO])).length) Slot.unset).toArray = ls at hl ⊢
  have hl : lv_has ls 3 [(0, .ref hO)] := hl
  refine lv_aload_n hx hb dX6_touch_0 rfl (lv_at hl 0 rfl) ?_
  refine va_get (D := g.1) (ci := 4) (v := .ref qR) (C := RX6) (T := TX6) (N := 17) hx hb hts iX6 hown hK hP 0 rfl rfl 10 (by decide) (hts (.fieldLink RX6 22 "FaultIsolationModel" "registers" "[I") (by decide +kernel)) (fun _ h9 => h9) rfl dX6_touch_1 ?_
  refine lv_aload_n hx hb dX6_touch_4 rfl (lv_at hl 0 rfl) ?_
  refine va_get (D := g.1) (ci := 4) (v := .int (nI kb)) (C := RX6) (T := TX6) (N := 17) hx hb hts iX6 hown hK hP 0 rfl rfl 15 (by decide) (hts (.fieldLink RX6 59 "FaultIsolationModel" "b" "I") (by decide +kernel)) (fun _ h9 => h9) rfl dX6_touch_5 ?_
  refine va_iald hx hb hK hP 1 0 rfl rfl (vp_in_nI (by omega) (by decide)) dX6_touch_8 ?_
  refine lv_topi (fun y9 e9 => ?_)
  rw [show (gr (nI kb).toNatClampNeg : Int32) = gr kb from congrArg gr (nI_clamp (by omega))] at e9
  subst e9
  refine lv_aload_n hx hb dX6_touch_9 rfl (lv_at hl 0 rfl) ?_
  refine va_get (D := g.1) (ci := 4) (v := .int xc) (C := RX6) (T := TX6) (N := 17) hx hb hts iX6 hown hK hP 0 rfl rfl 16 (by decide) (hts (.fieldLink RX6 62 "FaultIsolationModel" "c" "I") (by decide +kernel)) (fun _ h9 => h9) rfl dX6_touch_10 ?_
  refine lv_iadd hx hb dX6_touch_13 ?_
  refine lv_istore_n (lv' := [(1, .int ((gr kb) + xc)), (0, .ref hO)]) hx hb dX6_touch_14 rfl hl (by decide) rfl (fun ls hl => ?_)
  refine lv_iload_n hx hb dX6_touch_15 rfl (lv_at hl 0 rfl) ?_
  refine lv_if_lt (tgt := 26) hx hb dX6_touch_16 (by decide) (fun c_0 => ?_) (fun c_0 => ?_)
  · skip
    refine lv_iconst (v := 4) hx hb dX6_touch_26 (by decide) ?_
    exact k_iret hx hb hr hlocks ⟨hK, hP, hD, hS, hA, hE, hN⟩ rfl dX6_touch_27 (Nat.le_of_ble_eq_true rfl) (Nat.le_of_ble_eq_true rfl) ⟨(by simp only [sp_X6_touch, sp_X6_touch_registers, sp_X6_touch_memory, sp_X6_touch_told, if_pos c_0]), (by simp only [sp_X6_touch, sp_X6_touch_registers, sp_X6_touch_memory, sp_X6_touch_told, if_pos c_0])⟩
  · skip
    refine lv_iload_n hx hb dX6_touch_19 rfl (lv_at hl 0 rfl) ?_
    refine lv_sipush (v := 4095) hx hb dX6_touch_20 (by decide) ?_
    refine lv_icmp_le (tgt := 28) hx hb dX6_touch_23 (by decide) (fun c_1 => ?_) (fun c_1 => ?_)
    · skip
      refine lv_iload_n hx hb dX6_touch_28 rfl (lv_at hl 0 rfl) ?_
      refine lv_aload_n hx hb dX6_touch_29 rfl (lv_at hl 1 rfl) ?_
      refine va_get (D := g.1) (ci := 4) (v := .int xB) (C := RX6) (T := TX6) (N := 17) hx hb hts iX6 hown hK hP 0 rfl rfl 1 (by decide) (hts (.fieldLink RX6 31 "FaultIsolationModel" "base" "I") (by decide +kernel)) (fun _ h9 => h9) rfl dX6_touch_30 ?_
      refine lv_icmp_lt (tgt := 52) hx hb dX6_touch_33 (by decide) (fun c_2 => ?_) (fun c_2 => ?_)
      · skip
        refine lv_iconst (v := 0) hx hb dX6_touch_52 (by decide) ?_
        refine lv_istore_n (lv' := [(2, .int 0), (1, .int ((gr kb) + xc)), (0, .ref hO)]) hx hb dX6_touch_53 rfl hl (by decide) rfl (fun ls hl => ?_)
        refine lv_iload_n hx hb dX6_touch_54 rfl (lv_at hl 0 rfl) ?_
        refine lv_if_ne (tgt := 75) hx hb dX6_touch_55 (by decide) (fun c_3 => absurd c_3 (by decide)) (fun _ => ?_)
        refine lv_aload_n hx hb dX6_touch_58 rfl (lv_at hl 2 rfl) ?_
        refine va_get (D := g.1) (ci := 4) (v := .ref qT) (C := RX6) (T := TX6) (N := 17) hx hb hts iX6 hown hK hP 0 rfl rfl 12 (by decide) (hts (.fieldLink RX6 28 "FaultIsolationModel" "told" "[I") (by decide +kernel)) (fun _ h9 => h9) rfl dX6_touch_59 ?_
        refine lv_iconst (v := 2) hx hb dX6_touch_62 (by decide) ?_
        refine lv_dup2_11 hx hb dX6_touch_63 rfl rfl ?_
        refine va_iald hx hb hK hP 3 0 rfl rfl (by rw [vp_in_iff]; decide) dX6_touch_64 ?_
        refine lv_topi (fun y9 e9 => ?_)
        rw [show (gt (2 : Int32).toNatClampNeg : Int32) = gt 2 from rfl] at e9
        subst e9
        refine lv_iconst (v := 1) hx hb dX6_touch_65 (by decide) ?_
        refine lv_iadd hx hb dX6_touch_66 ?_
        refine va_iast hx hb hK hP hD hS 3 0 rfl rfl (by rw [vp_in_iff]; decide) dX6_touch_67 (fun H locs hP hD hS => ?_)
        have hP : va_P g.1 vwCl [(hO, .inr (4, [.int xT, .int xB, .int xC, .ref qP, .int xP, .ref qN, .int xS, .ref qY, .ref qD, .int xA, .ref qR, .ref qM, .ref qT, .int xw, .int (nI ka), .int (nI kb), .int xc])), (qR, .inl (g.2.1.1, 8, .inl gr)), (qM, .inl (g.2.1.1, 4096, .inl gm)), (qT, .inl (g.2.1.1, 6, .inl (upd gt 2 ((gt 2) + 1))))] H := hP
        have hD : va_D A [(hO, .inr (4, [.int xT, .int xB, .int xC, .ref qP, .int xP, .ref qN, .int xS, .ref qY, .ref qD, .int xA, .ref qR, .ref qM, .ref qT, .int xw, .int (nI ka), .int (nI kb), .int xc])), (qR, .inl (g.2.1.1, 8, .inl gr)), (qM, .inl (g.2.1.1, 4096, .inl gm)), (qT, .inl (g.2.1.1, 6, .inl (upd gt 2 ((gt 2) + 1))))] := hD
        refine lv_aload_n hx hb dX6_touch_68 rfl (lv_at hl 2 rfl) ?_
        refine va_get (D := g.1) (ci := 4) (v := .ref qT) (C := RX6) (T := TX6) (N := 17) hx hb hts iX6 hown hK hP 0 rfl rfl 12 (by decide) (hts (.fieldLink RX6 28 "FaultIsolationModel" "told" "[I") (by decide +kernel)) (fun _ h9 => h9) rfl dX6_touch_69 ?_
        refine lv_iconst (v := 5) hx hb dX6_touch_72 (by decide) ?_
        refine lv_iload_n hx hb dX6_touch_73 rfl (lv_at hl 1 rfl) ?_
        refine va_iast hx hb hK hP hD hS 3 0 rfl rfl (by rw [vp_in_iff]; decide) dX6_touch_74 (fun H locs hP hD hS => ?_)
        have hP : va_P g.1 vwCl [(hO, .inr (4, [.int xT, .int xB, .int xC, .ref qP, .int xP, .ref qN, .int xS, .ref qY, .ref qD, .int xA, .ref qR, .ref qM, .ref qT, .int xw, .int (nI ka), .int (nI kb), .int xc])), (qR, .inl (g.2.1.1, 8, .inl gr)), (qM, .inl (g.2.1.1, 4096, .inl gm)), (qT, .inl (g.2.1.1, 6, .inl (upd (upd gt 2 ((gt 2) + 1)) 5 ((gr kb) + xc))))] H := hP
        have hD : va_D A [(hO, .inr (4, [.int xT, .int xB, .int xC, .ref qP, .int xP, .ref qN, .int xS, .ref qY, .ref qD, .int xA, .ref qR, .ref qM, .ref qT, .int xw, .int (nI ka), .int (nI kb), .int xc])), (qR, .inl (g.2.1.1, 8, .inl gr)), (qM, .inl (g.2.1.1, 4096, .inl gm)), (qT, .inl (g.2.1.1, 6, .inl (upd (upd gt 2 ((gt 2) + 1)) 5 ((gr kb) + xc))))] := hD
        refine lv_aload_n hx hb dX6_touch_75 rfl (lv_at hl 2 rfl) ?_
        refine va_get (D := g.1) (ci := 4) (v := .int xw) (C := RX6) (T := TX6) (N := 17) hx hb hts iX6 hown hK hP 0 rfl rfl 13 (by decide) (hts (.fieldLink RX6 53 "FaultIsolationModel" "word" "I") (by decide +kernel)) (fun _ h9 => h9) rfl dX6_touch_76 ?_
        refine lv_bipush (v := 10) hx hb dX6_touch_79 (by decide) ?_
        refine lv_icmp_ne (tgt := 102) hx hb dX6_touch_81 (by decide) (fun c_4 => ?_) (fun c_4 => ?_)
        · skip
          refine lv_aload_n hx hb dX6_touch_102 rfl (lv_at hl 2 rfl) ?_
          refine va_get (D := g.1) (ci := 4) (v := .ref qM) (C := RX6) (T := TX6) (N := 17) hx hb hts iX6 hown hK hP 0 rfl rfl 11 (by decide) (hts (.fieldLink RX6 25 "FaultIsolationModel" "memory" "[I") (by decide +kernel)) (fun _ h9 => h9) rfl dX6_touch_103 ?_
          refine lv_iload_n hx hb dX6_touch_106 rfl (lv_at hl 1 rfl) ?_
          have zq_5 := k_clle (m := 4095) c_0 c_1 (by omega)
          refine lv_topi (fun y9 e9 => ?_)
          rw [show ((gr kb) + xc : Int32) = nI (((gr kb) + xc).toNatClampNeg) from k_cl1 c_0] at e9
          subst e9
          refine lv_aload_n hx hb dX6_touch_107 rfl (lv_at hl 2 rfl) ?_
          refine va_get (D := g.1) (ci := 4) (v := .ref qR) (C := RX6) (T := TX6) (N := 17) hx hb hts iX6 hown hK hP 0 rfl rfl 10 (by decide) (hts (.fieldLink RX6 22 "FaultIsolationModel" "registers" "[I") (by decide +kernel)) (fun _ h9 => h9) rfl dX6_touch_108 ?_
          refine lv_aload_n hx hb dX6_touch_111 rfl (lv_at hl 2 rfl) ?_
          refine va_get (D := g.1) (ci := 4) (v := .int (nI ka)) (C := RX6) (T := TX6) (N := 17) hx hb hts iX6 hown hK hP 0 rfl rfl 14 (by decide) (hts (.fieldLink RX6 56 "FaultIsolationModel" "a" "I") (by decide +kernel)) (fun _ h9 => h9) rfl dX6_touch_112 ?_
          refine va_iald hx hb hK hP 1 0 rfl rfl (vp_in_nI (by omega) (by decide)) dX6_touch_115 ?_
          refine lv_topi (fun y9 e9 => ?_)
          rw [show (gr (nI ka).toNatClampNeg : Int32) = gr ka from congrArg gr (nI_clamp (by omega))] at e9
          subst e9
          refine lv_sipush (v := 255) hx hb dX6_touch_116 (by decide) ?_
          refine lv_iand hx hb dX6_touch_119 ?_
          refine va_iast hx hb hK hP hD hS 2 0 rfl rfl (vp_in_nI (by omega) (by decide)) dX6_touch_120 (fun H locs hP hD hS => ?_)
          rw [nI_clamp (show ((gr kb) + xc).toNatClampNeg < 2 ^ 31 by omega)] at hP hD
          have hP : va_P g.1 vwCl [(hO, .inr (4, [.int xT, .int xB, .int xC, .ref qP, .int xP, .ref qN, .int xS, .ref qY, .ref qD, .int xA, .ref qR, .ref qM, .ref qT, .int xw, .int (nI ka), .int (nI kb), .int xc])), (qR, .inl (g.2.1.1, 8, .inl gr)), (qM, .inl (g.2.1.1, 4096, .inl (upd gm (((gr kb) + xc).toNatClampNeg) ((gr ka) &&& 255)))), (qT, .inl (g.2.1.1, 6, .inl (upd (upd gt 2 ((gt 2) + 1)) 5 ((gr kb) + xc))))] H := hP
          have hD : va_D A [(hO, .inr (4, [.int xT, .int xB, .int xC, .ref qP, .int xP, .ref qN, .int xS, .ref qY, .ref qD, .int xA, .ref qR, .ref qM, .ref qT, .int xw, .int (nI ka), .int (nI kb), .int xc])), (qR, .inl (g.2.1.1, 8, .inl gr)), (qM, .inl (g.2.1.1, 4096, .inl (upd gm (((gr kb) + xc).toNatClampNeg) ((gr ka) &&& 255)))), (qT, .inl (g.2.1.1, 6, .inl (upd (upd gt 2 ((gt 2) + 1)) 5 ((gr kb) + xc))))] := hD
          refine lv_aload_n hx hb dX6_touch_121 rfl (lv_at hl 2 rfl) ?_
          refine va_get (D := g.1) (ci := 4) (v := .ref qT) (C := RX6) (T := TX6) (N := 17) hx hb hts iX6 hown hK hP 0 rfl rfl 12 (by decide) (hts (.fieldLink RX6 28 "FaultIsolationModel" "told" "[I") (by decide +kernel)) (fun _ h9 => h9) rfl dX6_touch_122 ?_
          refine lv_iconst (v := 4) hx hb dX6_touch_125 (by decide) ?_
          refine lv_iload_n hx hb dX6_touch_126 rfl (lv_at hl 0 rfl) ?_
          refine lv_if_eq (tgt := 141) hx hb dX6_touch_127 (by decide) (fun _ => ?_) (fun c_6 => absurd c_6 (by decide))
          refine lv_aload_n hx hb dX6_touch_141 rfl (lv_at hl 2 rfl) ?_
          refine va_get (D := g.1) (ci := 4) (v := .ref qT) (C := RX6) (T := TX6) (N := 17) hx hb hts iX6 hown hK hP 0 rfl rfl 12 (by decide) (hts (.fieldLink RX6 28 "FaultIsolationModel" "told" "[I") (by decide +kernel)) (fun _ h9 => h9) rfl dX6_touch_142 ?_
          refine lv_iconst (v := 4) hx hb dX6_touch_145 (by decide) ?_
          refine va_iald hx hb hK hP 3 0 rfl rfl (by rw [vp_in_iff]; decide) dX6_touch_146 ?_
          refine lv_topi (fun y9 e9 => ?_)
          rw [show ((upd (upd gt 2 ((gt 2) + 1)) 5 ((gr kb) + xc)) (4 : Int32).toNatClampNeg : Int32) = (upd (upd gt 2 ((gt 2) + 1)) 5 ((gr kb) + xc)) 4 from rfl] at e9
          subst e9
          refine va_iast hx hb hK hP hD hS 3 0 rfl rfl (by rw [vp_in_iff]; decide) dX6_touch_147 (fun H locs hP hD hS => ?_)
          have hP : va_P g.1 vwCl [(hO, .inr (4, [.int xT, .int xB, .int xC, .ref qP, .int xP, .ref qN, .int xS, .ref qY, .ref qD, .int xA, .ref qR, .ref qM, .ref qT, .int xw, .int (nI ka), .int (nI kb), .int xc])), (qR, .inl (g.2.1.1, 8, .inl gr)), (qM, .inl (g.2.1.1, 4096, .inl (upd gm (((gr kb) + xc).toNatClampNeg) ((gr ka) &&& 255)))), (qT, .inl (g.2.1.1, 6, .inl (upd (upd (upd gt 2 ((gt 2) + 1)) 5 ((gr kb) + xc)) 4 ((upd (upd gt 2 ((gt 2) + 1)) 5 ((gr kb) + xc)) 4))))] H := hP
          have hD : va_D A [(hO, .inr (4, [.int xT, .int xB, .int xC, .ref qP, .int xP, .ref qN, .int xS, .ref qY, .ref qD, .int xA, .ref qR, .ref qM, .ref qT, .int xw, .int (nI ka), .int (nI kb), .int xc])), (qR, .inl (g.2.1.1, 8, .inl gr)), (qM, .inl (g.2.1.1, 4096, .inl (upd gm (((gr kb) + xc).toNatClampNeg) ((gr ka) &&& 255)))), (qT, .inl (g.2.1.1, 6, .inl (upd (upd (upd gt 2 ((gt 2) + 1)) 5 ((gr kb) + xc)) 4 ((upd (upd gt 2 ((gt 2) + 1)) 5 ((gr kb) + xc)) 4))))] := hD
          refine lv_iconst (v := 0) hx hb dX6_touch_148 (by decide) ?_
          exact k_iret hx hb hr hlocks ⟨hK, hP, hD, hS, hA, hE, hN⟩ rfl dX6_touch_149 (Nat.le_of_ble_eq_true rfl) (Nat.le_of_ble_eq_true rfl) ⟨(by simp only [sp_X6_touch, sp_X6_touch_registers, sp_X6_touch_memory, sp_X6_touch_told, if_neg c_0, if_pos c_1, if_pos c_2, if_neg c_4]), (by simp only [sp_X6_touch, sp_X6_touch_registers, sp_X6_touch_memory, sp_X6_touch_told, if_neg c_0, if_pos c_1, if_pos c_2, if_neg c_4])⟩
        · skip
          refine lv_aload_n hx hb dX6_touch_84 rfl (lv_at hl 2 rfl) ?_
          refine va_get (D := g.1) (ci := 4) (v := .ref qR) (C := RX6) (T := TX6) (N := 17) hx hb hts iX6 hown hK hP 0 rfl rfl 10 (by decide) (hts (.fieldLink RX6 22 "FaultIsolationModel" "registers" "[I") (by decide +kernel)) (fun _ h9 => h9) rfl dX6_touch_85 ?_
          refine lv_aload_n hx hb dX6_touch_88 rfl (lv_at hl 2 rfl) ?_
          refine va_get (D := g.1) (ci := 4) (v := .int (nI ka)) (C := RX6) (T := TX6) (N := 17) hx hb hts iX6 hown hK hP 0 rfl rfl 14 (by decide) (hts (.fieldLink RX6 56 "FaultIsolationModel" "a" "I") (by decide +kernel)) (fun _ h9 => h9) rfl dX6_touch_89 ?_
          refine lv_aload_n hx hb dX6_touch_92 rfl (lv_at hl 2 rfl) ?_
          refine va_get (D := g.1) (ci := 4) (v := .ref qM) (C := RX6) (T := TX6) (N := 17) hx hb hts iX6 hown hK hP 0 rfl rfl 11 (by decide) (hts (.fieldLink RX6 25 "FaultIsolationModel" "memory" "[I") (by decide +kernel)) (fun _ h9 => h9) rfl dX6_touch_93 ?_
          refine lv_iload_n hx hb dX6_touch_96 rfl (lv_at hl 1 rfl) ?_
          have zq_7 := k_clle (m := 4095) c_0 c_1 (by omega)
          refine lv_topi (fun y9 e9 => ?_)
          rw [show ((gr kb) + xc : Int32) = nI (((gr kb) + xc).toNatClampNeg) from k_cl1 c_0] at e9
          subst e9
          refine va_iald hx hb hK hP 2 0 rfl rfl (vp_in_nI (by omega) (by decide)) dX6_touch_97 ?_
          refine lv_topi (fun y9 e9 => ?_)
          rw [show (gm (nI (((gr kb) + xc).toNatClampNeg)).toNatClampNeg : Int32) = gm (((gr kb) + xc).toNatClampNeg) from congrArg gm (nI_clamp (by omega))] at e9
          subst e9
          refine va_iast hx hb hK hP hD hS 1 0 rfl rfl (vp_in_nI (by omega) (by decide)) dX6_touch_98 (fun H locs hP hD hS => ?_)
          rw [nI_clamp (show ka < 2 ^ 31 by omega)] at hP hD
          have hP : va_P g.1 vwCl [(hO, .inr (4, [.int xT, .int xB, .int xC, .ref qP, .int xP, .ref qN, .int xS, .ref qY, .ref qD, .int xA, .ref qR, .ref qM, .ref qT, .int xw, .int (nI ka), .int (nI kb), .int xc])), (qR, .inl (g.2.1.1, 8, .inl (upd gr ka (gm (((gr kb) + xc).toNatClampNeg))))), (qM, .inl (g.2.1.1, 4096, .inl gm)), (qT, .inl (g.2.1.1, 6, .inl (upd (upd gt 2 ((gt 2) + 1)) 5 ((gr kb) + xc))))] H := hP
          have hD : va_D A [(hO, .inr (4, [.int xT, .int xB, .int xC, .ref qP, .int xP, .ref qN, .int xS, .ref qY, .ref qD, .int xA, .ref qR, .ref qM, .ref qT, .int xw, .int (nI ka), .int (nI kb), .int xc])), (qR, .inl (g.2.1.1, 8, .inl (upd gr ka (gm (((gr kb) + xc).toNatClampNeg))))), (qM, .inl (g.2.1.1, 4096, .inl gm)), (qT, .inl (g.2.1.1, 6, .inl (upd (upd gt 2 ((gt 2) + 1)) 5 ((gr kb) + xc))))] := hD
          refine lv_goto (tgt := 148) hx hb dX6_touch_99 (by decide) ?_
          refine lv_iconst (v := 0) hx hb dX6_touch_148 (by decide) ?_
          exact k_iret hx hb hr hlocks ⟨hK, hP, hD, hS, hA, hE, hN⟩ rfl dX6_touch_149 (Nat.le_of_ble_eq_true rfl) (Nat.le_of_ble_eq_true rfl) ⟨(by simp only [sp_X6_touch, sp_X6_touch_registers, sp_X6_touch_memory, sp_X6_touch_told, if_neg c_0, if_pos c_1, if_pos c_2, if_pos c_4]), (by simp only [sp_X6_touch, sp_X6_touch_registers, sp_X6_touch_memory, sp_X6_touch_told, if_neg c_0, if_pos c_1, if_pos c_2, if_pos c_4])⟩
      · skip
        refine lv_iload_n hx hb dX6_touch_36 rfl (lv_at hl 0 rfl) ?_
        refine lv_aload_n hx hb dX6_touch_37 rfl (lv_at hl 1 rfl) ?_
        refine va_get (D := g.1) (ci := 4) (v := .int xB) (C := RX6) (T := TX6) (N := 17) hx hb hts iX6 hown hK hP 0 rfl rfl 1 (by decide) (hts (.fieldLink RX6 31 "FaultIsolationModel" "base" "I") (by decide +kernel)) (fun _ h9 => h9) rfl dX6_touch_38 ?_
        refine lv_sipush (v := 1024) hx hb dX6_touch_41 (by decide) ?_
        refine lv_iadd hx hb dX6_touch_44 ?_
        refine lv_icmp_ge (tgt := 52) hx hb dX6_touch_45 (by decide) (fun c_8 => ?_) (fun c_8 => ?_)
        · skip
          refine lv_iconst (v := 0) hx hb dX6_touch_52 (by decide) ?_
          refine lv_istore_n (lv' := [(2, .int 0), (1, .int ((gr kb) + xc)), (0, .ref hO)]) hx hb dX6_touch_53 rfl hl (by decide) rfl (fun ls hl => ?_)
          refine lv_iload_n hx hb dX6_touch_54 rfl (lv_at hl 0 rfl) ?_
          refine lv_if_ne (tgt := 75) hx hb dX6_touch_55 (by decide) (fun c_9 => absurd c_9 (by decide)) (fun _ => ?_)
          refine lv_aload_n hx hb dX6_touch_58 rfl (lv_at hl 2 rfl) ?_
          refine va_get (D := g.1) (ci := 4) (v := .ref qT) (C := RX6) (T := TX6) (N := 17) hx hb hts iX6 hown hK hP 0 rfl rfl 12 (by decide) (hts (.fieldLink RX6 28 "FaultIsolationModel" "told" "[I") (by decide +kernel)) (fun _ h9 => h9) rfl dX6_touch_59 ?_
          refine lv_iconst (v := 2) hx hb dX6_touch_62 (by decide) ?_
          refine lv_dup2_11 hx hb dX6_touch_63 rfl rfl ?_
          refine va_iald hx hb hK hP 3 0 rfl rfl (by rw [vp_in_iff]; decide) dX6_touch_64 ?_
          refine lv_topi (fun y9 e9 => ?_)
          rw [show (gt (2 : Int32).toNatClampNeg : Int32) = gt 2 from rfl] at e9
          subst e9
          refine lv_iconst (v := 1) hx hb dX6_touch_65 (by decide) ?_
          refine lv_iadd hx hb dX6_touch_66 ?_
          refine va_iast hx hb hK hP hD hS 3 0 rfl rfl (by rw [vp_in_iff]; decide) dX6_touch_67 (fun H locs hP hD hS => ?_)
          have hP : va_P g.1 vwCl [(hO, .inr (4, [.int xT, .int xB, .int xC, .ref qP, .int xP, .ref qN, .int xS, .ref qY, .ref qD, .int xA, .ref qR, .ref qM, .ref qT, .int xw, .int (nI ka), .int (nI kb), .int xc])), (qR, .inl (g.2.1.1, 8, .inl gr)), (qM, .inl (g.2.1.1, 4096, .inl gm)), (qT, .inl (g.2.1.1, 6, .inl (upd gt 2 ((gt 2) + 1))))] H := hP
          have hD : va_D A [(hO, .inr (4, [.int xT, .int xB, .int xC, .ref qP, .int xP, .ref qN, .int xS, .ref qY, .ref qD, .int xA, .ref qR, .ref qM, .ref qT, .int xw, .int (nI ka), .int (nI kb), .int xc])), (qR, .inl (g.2.1.1, 8, .inl gr)), (qM, .inl (g.2.1.1, 4096, .inl gm)), (qT, .inl (g.2.1.1, 6, .inl (upd gt 2 ((gt 2) + 1))))] := hD
          refine lv_aload_n hx hb dX6_touch_68 rfl (lv_at hl 2 rfl) ?_
          refine va_get (D := g.1) (ci := 4) (v := .ref qT) (C := RX6) (T := TX6) (N := 17) hx hb hts iX6 hown hK hP 0 rfl rfl 12 (by decide) (hts (.fieldLink RX6 28 "FaultIsolationModel" "told" "[I") (by decide +kernel)) (fun _ h9 => h9) rfl dX6_touch_69 ?_
          refine lv_iconst (v := 5) hx hb dX6_touch_72 (by decide) ?_
          refine lv_iload_n hx hb dX6_touch_73 rfl (lv_at hl 1 rfl) ?_
          refine va_iast hx hb hK hP hD hS 3 0 rfl rfl (by rw [vp_in_iff]; decide) dX6_touch_74 (fun H locs hP hD hS => ?_)
          have hP : va_P g.1 vwCl [(hO, .inr (4, [.int xT, .int xB, .int xC, .ref qP, .int xP, .ref qN, .int xS, .ref qY, .ref qD, .int xA, .ref qR, .ref qM, .ref qT, .int xw, .int (nI ka), .int (nI kb), .int xc])), (qR, .inl (g.2.1.1, 8, .inl gr)), (qM, .inl (g.2.1.1, 4096, .inl gm)), (qT, .inl (g.2.1.1, 6, .inl (upd (upd gt 2 ((gt 2) + 1)) 5 ((gr kb) + xc))))] H := hP
          have hD : va_D A [(hO, .inr (4, [.int xT, .int xB, .int xC, .ref qP, .int xP, .ref qN, .int xS, .ref qY, .ref qD, .int xA, .ref qR, .ref qM, .ref qT, .int xw, .int (nI ka), .int (nI kb), .int xc])), (qR, .inl (g.2.1.1, 8, .inl gr)), (qM, .inl (g.2.1.1, 4096, .inl gm)), (qT, .inl (g.2.1.1, 6, .inl (upd (upd gt 2 ((gt 2) + 1)) 5 ((gr kb) + xc))))] := hD
          refine lv_aload_n hx hb dX6_touch_75 rfl (lv_at hl 2 rfl) ?_
          refine va_get (D := g.1) (ci := 4) (v := .int xw) (C := RX6) (T := TX6) (N := 17) hx hb hts iX6 hown hK hP 0 rfl rfl 13 (by decide) (hts (.fieldLink RX6 53 "FaultIsolationModel" "word" "I") (by decide +kernel)) (fun _ h9 => h9) rfl dX6_touch_76 ?_
          refine lv_bipush (v := 10) hx hb dX6_touch_79 (by decide) ?_
          refine lv_icmp_ne (tgt := 102) hx hb dX6_touch_81 (by decide) (fun c_10 => ?_) (fun c_10 => ?_)
          · skip
            refine lv_aload_n hx hb dX6_touch_102 rfl (lv_at hl 2 rfl) ?_
            refine va_get (D := g.1) (ci := 4) (v := .ref qM) (C := RX6) (T := TX6) (N := 17) hx hb hts iX6 hown hK hP 0 rfl rfl 11 (by decide) (hts (.fieldLink RX6 25 "FaultIsolationModel" "memory" "[I") (by decide +kernel)) (fun _ h9 => h9) rfl dX6_touch_103 ?_
            refine lv_iload_n hx hb dX6_touch_106 rfl (lv_at hl 1 rfl) ?_
            have zq_11 := k_clle (m := 4095) c_0 c_1 (by omega)
            refine lv_topi (fun y9 e9 => ?_)
            rw [show ((gr kb) + xc : Int32) = nI (((gr kb) + xc).toNatClampNeg) from k_cl1 c_0] at e9
            subst e9
            refine lv_aload_n hx hb dX6_touch_107 rfl (lv_at hl 2 rfl) ?_
            refine va_get (D := g.1) (ci := 4) (v := .ref qR) (C := RX6) (T := TX6) (N := 17) hx hb hts iX6 hown hK hP 0 rfl rfl 10 (by decide) (hts (.fieldLink RX6 22 "FaultIsolationModel" "registers" "[I") (by decide +kernel)) (fun _ h9 => h9) rfl dX6_touch_108 ?_
            refine lv_aload_n hx hb dX6_touch_111 rfl (lv_at hl 2 rfl) ?_
            refine va_get (D := g.1) (ci := 4) (v := .int (nI ka)) (C := RX6) (T := TX6) (N := 17) hx hb hts iX6 hown hK hP 0 rfl rfl 14 (by decide) (hts (.fieldLink RX6 56 "FaultIsolationModel" "a" "I") (by decide +kernel)) (fun _ h9 => h9) rfl dX6_touch_112 ?_
            refine va_iald hx hb hK hP 1 0 rfl rfl (vp_in_nI (by omega) (by decide)) dX6_touch_115 ?_
            refine lv_topi (fun y9 e9 => ?_)
            rw [show (gr (nI ka).toNatClampNeg : Int32) = gr ka from congrArg gr (nI_clamp (by omega))] at e9
            subst e9
            refine lv_sipush (v := 255) hx hb dX6_touch_116 (by decide) ?_
            refine lv_iand hx hb dX6_touch_119 ?_
            refine va_iast hx hb hK hP hD hS 2 0 rfl rfl (vp_in_nI (by omega) (by decide)) dX6_touch_120 (fun H locs hP hD hS => ?_)
            rw [nI_clamp (show ((gr kb) + xc).toNatClampNeg < 2 ^ 31 by omega)] at hP hD
            have hP : va_P g.1 vwCl [(hO, .inr (4, [.int xT, .int xB, .int xC, .ref qP, .int xP, .ref qN, .int xS, .ref qY, .ref qD, .int xA, .ref qR, .ref qM, .ref qT, .int xw, .int (nI ka), .int (nI kb), .int xc])), (qR, .inl (g.2.1.1, 8, .inl gr)), (qM, .inl (g.2.1.1, 4096, .inl (upd gm (((gr kb) + xc).toNatClampNeg) ((gr ka) &&& 255)))), (qT, .inl (g.2.1.1, 6, .inl (upd (upd gt 2 ((gt 2) + 1)) 5 ((gr kb) + xc))))] H := hP
            have hD : va_D A [(hO, .inr (4, [.int xT, .int xB, .int xC, .ref qP, .int xP, .ref qN, .int xS, .ref qY, .ref qD, .int xA, .ref qR, .ref qM, .ref qT, .int xw, .int (nI ka), .int (nI kb), .int xc])), (qR, .inl (g.2.1.1, 8, .inl gr)), (qM, .inl (g.2.1.1, 4096, .inl (upd gm (((gr kb) + xc).toNatClampNeg) ((gr ka) &&& 255)))), (qT, .inl (g.2.1.1, 6, .inl (upd (upd gt 2 ((gt 2) + 1)) 5 ((gr kb) + xc))))] := hD
            refine lv_aload_n hx hb dX6_touch_121 rfl (lv_at hl 2 rfl) ?_
            refine va_get (D := g.1) (ci := 4) (v := .ref qT) (C := RX6) (T := TX6) (N := 17) hx hb hts iX6 hown hK hP 0 rfl rfl 12 (by decide) (hts (.fieldLink RX6 28 "FaultIsolationModel" "told" "[I") (by decide +kernel)) (fun _ h9 => h9) rfl dX6_touch_122 ?_
            refine lv_iconst (v := 4) hx hb dX6_touch_125 (by decide) ?_
            refine lv_iload_n hx hb dX6_touch_126 rfl (lv_at hl 0 rfl) ?_
            refine lv_if_eq (tgt := 141) hx hb dX6_touch_127 (by decide) (fun _ => ?_) (fun c_12 => absurd c_12 (by decide))
            refine lv_aload_n hx hb dX6_touch_141 rfl (lv_at hl 2 rfl) ?_
            refine va_get (D := g.1) (ci := 4) (v := .ref qT) (C := RX6) (T := TX6) (N := 17) hx hb hts iX6 hown hK hP 0 rfl rfl 12 (by decide) (hts (.fieldLink RX6 28 "FaultIsolationModel" "told" "[I") (by decide +kernel)) (fun _ h9 => h9) rfl dX6_touch_142 ?_
            refine lv_iconst (v := 4) hx hb dX6_touch_145 (by decide) ?_
            refine va_iald hx hb hK hP 3 0 rfl rfl (by rw [vp_in_iff]; decide) dX6_touch_146 ?_
            refine lv_topi (fun y9 e9 => ?_)
            rw [show ((upd (upd gt 2 ((gt 2) + 1)) 5 ((gr kb) + xc)) (4 : Int32).toNatClampNeg : Int32) = (upd (upd gt 2 ((gt 2) + 1)) 5 ((gr kb) + xc)) 4 from rfl] at e9
            subst e9
            refine va_iast hx hb hK hP hD hS 3 0 rfl rfl (by rw [vp_in_iff]; decide) dX6_touch_147 (fun H locs hP hD hS => ?_)
            have hP : va_P g.1 vwCl [(hO, .inr (4, [.int xT, .int xB, .int xC, .ref qP, .int xP, .ref qN, .int xS, .ref qY, .ref qD, .int xA, .ref qR, .ref qM, .ref qT, .int xw, .int (nI ka), .int (nI kb), .int xc])), (qR, .inl (g.2.1.1, 8, .inl gr)), (qM, .inl (g.2.1.1, 4096, .inl (upd gm (((gr kb) + xc).toNatClampNeg) ((gr ka) &&& 255)))), (qT, .inl (g.2.1.1, 6, .inl (upd (upd (upd gt 2 ((gt 2) + 1)) 5 ((gr kb) + xc)) 4 ((upd (upd gt 2 ((gt 2) + 1)) 5 ((gr kb) + xc)) 4))))] H := hP
            have hD : va_D A [(hO, .inr (4, [.int xT, .int xB, .int xC, .ref qP, .int xP, .ref qN, .int xS, .ref qY, .ref qD, .int xA, .ref qR, .ref qM, .ref qT, .int xw, .int (nI ka), .int (nI kb), .int xc])), (qR, .inl (g.2.1.1, 8, .inl gr)), (qM, .inl (g.2.1.1, 4096, .inl (upd gm (((gr kb) + xc).toNatClampNeg) ((gr ka) &&& 255)))), (qT, .inl (g.2.1.1, 6, .inl (upd (upd (upd gt 2 ((gt 2) + 1)) 5 ((gr kb) + xc)) 4 ((upd (upd gt 2 ((gt 2) + 1)) 5 ((gr kb) + xc)) 4))))] := hD
            refine lv_iconst (v := 0) hx hb dX6_touch_148 (by decide) ?_
            exact k_iret hx hb hr hlocks ⟨hK, hP, hD, hS, hA, hE, hN⟩ rfl dX6_touch_149 (Nat.le_of_ble_eq_true rfl) (Nat.le_of_ble_eq_true rfl) ⟨(by simp only [sp_X6_touch, sp_X6_touch_registers, sp_X6_touch_memory, sp_X6_touch_told, if_neg c_0, if_pos c_1, if_neg c_2, if_pos c_8, if_neg c_10]), (by simp only [sp_X6_touch, sp_X6_touch_registers, sp_X6_touch_memory, sp_X6_touch_told, if_neg c_0, if_pos c_1, if_neg c_2, if_pos c_8, if_neg c_10])⟩
          · skip
            refine lv_aload_n hx hb dX6_touch_84 rfl (lv_at hl 2 rfl) ?_
            refine va_get (D := g.1) (ci := 4) (v := .ref qR) (C := RX6) (T := TX6) (N := 17) hx hb hts iX6 hown hK hP 0 rfl rfl 10 (by decide) (hts (.fieldLink RX6 22 "FaultIsolationModel" "registers" "[I") (by decide +kernel)) (fun _ h9 => h9) rfl dX6_touch_85 ?_
            refine lv_aload_n hx hb dX6_touch_88 rfl (lv_at hl 2 rfl) ?_
            refine va_get (D := g.1) (ci := 4) (v := .int (nI ka)) (C := RX6) (T := TX6) (N := 17) hx hb hts iX6 hown hK hP 0 rfl rfl 14 (by decide) (hts (.fieldLink RX6 56 "FaultIsolationModel" "a" "I") (by decide +kernel)) (fun _ h9 => h9) rfl dX6_touch_89 ?_
            refine lv_aload_n hx hb dX6_touch_92 rfl (lv_at hl 2 rfl) ?_
            refine va_get (D := g.1) (ci := 4) (v := .ref qM) (C := RX6) (T := TX6) (N := 17) hx hb hts iX6 hown hK hP 0 rfl rfl 11 (by decide) (hts (.fieldLink RX6 25 "FaultIsolationModel" "memory" "[I") (by decide +kernel)) (fun _ h9 => h9) rfl dX6_touch_93 ?_
            refine lv_iload_n hx hb dX6_touch_96 rfl (lv_at hl 1 rfl) ?_
            have zq_13 := k_clle (m := 4095) c_0 c_1 (by omega)
            refine lv_topi (fun y9 e9 => ?_)
            rw [show ((gr kb) + xc : Int32) = nI (((gr kb) + xc).toNatClampNeg) from k_cl1 c_0] at e9
            subst e9
            refine va_iald hx hb hK hP 2 0 rfl rfl (vp_in_nI (by omega) (by decide)) dX6_touch_97 ?_
            refine lv_topi (fun y9 e9 => ?_)
            rw [show (gm (nI (((gr kb) + xc).toNatClampNeg)).toNatClampNeg : Int32) = gm (((gr kb) + xc).toNatClampNeg) from congrArg gm (nI_clamp (by omega))] at e9
            subst e9
            refine va_iast hx hb hK hP hD hS 1 0 rfl rfl (vp_in_nI (by omega) (by decide)) dX6_touch_98 (fun H locs hP hD hS => ?_)
            rw [nI_clamp (show ka < 2 ^ 31 by omega)] at hP hD
            have hP : va_P g.1 vwCl [(hO, .inr (4, [.int xT, .int xB, .int xC, .ref qP, .int xP, .ref qN, .int xS, .ref qY, .ref qD, .int xA, .ref qR, .ref qM, .ref qT, .int xw, .int (nI ka), .int (nI kb), .int xc])), (qR, .inl (g.2.1.1, 8, .inl (upd gr ka (gm (((gr kb) + xc).toNatClampNeg))))), (qM, .inl (g.2.1.1, 4096, .inl gm)), (qT, .inl (g.2.1.1, 6, .inl (upd (upd gt 2 ((gt 2) + 1)) 5 ((gr kb) + xc))))] H := hP
            have hD : va_D A [(hO, .inr (4, [.int xT, .int xB, .int xC, .ref qP, .int xP, .ref qN, .int xS, .ref qY, .ref qD, .int xA, .ref qR, .ref qM, .ref qT, .int xw, .int (nI ka), .int (nI kb), .int xc])), (qR, .inl (g.2.1.1, 8, .inl (upd gr ka (gm (((gr kb) + xc).toNatClampNeg))))), (qM, .inl (g.2.1.1, 4096, .inl gm)), (qT, .inl (g.2.1.1, 6, .inl (upd (upd gt 2 ((gt 2) + 1)) 5 ((gr kb) + xc))))] := hD
            refine lv_goto (tgt := 148) hx hb dX6_touch_99 (by decide) ?_
            refine lv_iconst (v := 0) hx hb dX6_touch_148 (by decide) ?_
            exact k_iret hx hb hr hlocks ⟨hK, hP, hD, hS, hA, hE, hN⟩ rfl dX6_touch_149 (Nat.le_of_ble_eq_true rfl) (Nat.le_of_ble_eq_true rfl) ⟨(by simp only [sp_X6_touch, sp_X6_touch_registers, sp_X6_touch_memory, sp_X6_touch_told, if_neg c_0, if_pos c_1, if_neg c_2, if_pos c_8, if_pos c_10]), (by simp only [sp_X6_touch, sp_X6_touch_registers, sp_X6_touch_memory, sp_X6_touch_told, if_neg c_0, if_pos c_1, if_neg c_2, if_pos c_8, if_pos c_10])⟩
        · skip
          refine lv_iconst (v := 1) hx hb dX6_touch_48 (by decide) ?_
          refine lv_goto (tgt := 53) hx hb dX6_touch_49 (by decide) ?_
          refine lv_istore_n (lv' := [(2, .int 1), (1, .int ((gr kb) + xc)), (0, .ref hO)]) hx hb dX6_touch_53 rfl hl (by decide) rfl (fun ls hl => ?_)
          refine lv_iload_n hx hb dX6_touch_54 rfl (lv_at hl 0 rfl) ?_
          refine lv_if_ne (tgt := 75) hx hb dX6_touch_55 (by decide) (fun _ => ?_) (fun c_14 => absurd c_14 (by decide))
          refine lv_aload_n hx hb dX6_touch_75 rfl (lv_at hl 2 rfl) ?_
          refine va_get (D := g.1) (ci := 4) (v := .int xw) (C := RX6) (T := TX6) (N := 17) hx hb hts iX6 hown hK hP 0 rfl rfl 13 (by decide) (hts (.fieldLink RX6 53 "FaultIsolationModel" "word" "I") (by decide +kernel)) (fun _ h9 => h9) rfl dX6_touch_76 ?_
          refine lv_bipush (v := 10) hx hb dX6_touch_79 (by decide) ?_
          refine lv_icmp_ne (tgt := 102) hx hb dX6_touch_81 (by decide) (fun c_15 => ?_) (fun c_15 => ?_)
          · skip
            refine lv_aload_n hx hb dX6_touch_102 rfl (lv_at hl 2 rfl) ?_
            refine va_get (D := g.1) (ci := 4) (v := .ref qM) (C := RX6) (T := TX6) (N := 17) hx hb hts iX6 hown hK hP 0 rfl rfl 11 (by decide) (hts (.fieldLink RX6 25 "FaultIsolationModel" "memory" "[I") (by decide +kernel)) (fun _ h9 => h9) rfl dX6_touch_103 ?_
            refine lv_iload_n hx hb dX6_touch_106 rfl (lv_at hl 1 rfl) ?_
            have zq_16 := k_clle (m := 4095) c_0 c_1 (by omega)
            refine lv_topi (fun y9 e9 => ?_)
            rw [show ((gr kb) + xc : Int32) = nI (((gr kb) + xc).toNatClampNeg) from k_cl1 c_0] at e9
            subst e9
            refine lv_aload_n hx hb dX6_touch_107 rfl (lv_at hl 2 rfl) ?_
            refine va_get (D := g.1) (ci := 4) (v := .ref qR) (C := RX6) (T := TX6) (N := 17) hx hb hts iX6 hown hK hP 0 rfl rfl 10 (by decide) (hts (.fieldLink RX6 22 "FaultIsolationModel" "registers" "[I") (by decide +kernel)) (fun _ h9 => h9) rfl dX6_touch_108 ?_
            refine lv_aload_n hx hb dX6_touch_111 rfl (lv_at hl 2 rfl) ?_
            refine va_get (D := g.1) (ci := 4) (v := .int (nI ka)) (C := RX6) (T := TX6) (N := 17) hx hb hts iX6 hown hK hP 0 rfl rfl 14 (by decide) (hts (.fieldLink RX6 56 "FaultIsolationModel" "a" "I") (by decide +kernel)) (fun _ h9 => h9) rfl dX6_touch_112 ?_
            refine va_iald hx hb hK hP 1 0 rfl rfl (vp_in_nI (by omega) (by decide)) dX6_touch_115 ?_
            refine lv_topi (fun y9 e9 => ?_)
            rw [show (gr (nI ka).toNatClampNeg : Int32) = gr ka from congrArg gr (nI_clamp (by omega))] at e9
            subst e9
            refine lv_sipush (v := 255) hx hb dX6_touch_116 (by decide) ?_
            refine lv_iand hx hb dX6_touch_119 ?_
            refine va_iast hx hb hK hP hD hS 2 0 rfl rfl (vp_in_nI (by omega) (by decide)) dX6_touch_120 (fun H locs hP hD hS => ?_)
            rw [nI_clamp (show ((gr kb) + xc).toNatClampNeg < 2 ^ 31 by omega)] at hP hD
            have hP : va_P g.1 vwCl [(hO, .inr (4, [.int xT, .int xB, .int xC, .ref qP, .int xP, .ref qN, .int xS, .ref qY, .ref qD, .int xA, .ref qR, .ref qM, .ref qT, .int xw, .int (nI ka), .int (nI kb), .int xc])), (qR, .inl (g.2.1.1, 8, .inl gr)), (qM, .inl (g.2.1.1, 4096, .inl (upd gm (((gr kb) + xc).toNatClampNeg) ((gr ka) &&& 255)))), (qT, .inl (g.2.1.1, 6, .inl gt))] H := hP
            have hD : va_D A [(hO, .inr (4, [.int xT, .int xB, .int xC, .ref qP, .int xP, .ref qN, .int xS, .ref qY, .ref qD, .int xA, .ref qR, .ref qM, .ref qT, .int xw, .int (nI ka), .int (nI kb), .int xc])), (qR, .inl (g.2.1.1, 8, .inl gr)), (qM, .inl (g.2.1.1, 4096, .inl (upd gm (((gr kb) + xc).toNatClampNeg) ((gr ka) &&& 255)))), (qT, .inl (g.2.1.1, 6, .inl gt))] := hD
            refine lv_aload_n hx hb dX6_touch_121 rfl (lv_at hl 2 rfl) ?_
            refine va_get (D := g.1) (ci := 4) (v := .ref qT) (C := RX6) (T := TX6) (N := 17) hx hb hts iX6 hown hK hP 0 rfl rfl 12 (by decide) (hts (.fieldLink RX6 28 "FaultIsolationModel" "told" "[I") (by decide +kernel)) (fun _ h9 => h9) rfl dX6_touch_122 ?_
            refine lv_iconst (v := 4) hx hb dX6_touch_125 (by decide) ?_
            refine lv_iload_n hx hb dX6_touch_126 rfl (lv_at hl 0 rfl) ?_
            refine lv_if_eq (tgt := 141) hx hb dX6_touch_127 (by decide) (fun c_17 => absurd c_17 (by decide)) (fun _ => ?_)
            refine lv_aload_n hx hb dX6_touch_130 rfl (lv_at hl 2 rfl) ?_
            refine va_get (D := g.1) (ci := 4) (v := .ref qT) (C := RX6) (T := TX6) (N := 17) hx hb hts iX6 hown hK hP 0 rfl rfl 12 (by decide) (hts (.fieldLink RX6 28 "FaultIsolationModel" "told" "[I") (by decide +kernel)) (fun _ h9 => h9) rfl dX6_touch_131 ?_
            refine lv_iconst (v := 4) hx hb dX6_touch_134 (by decide) ?_
            refine va_iald hx hb hK hP 3 0 rfl rfl (by rw [vp_in_iff]; decide) dX6_touch_135 ?_
            refine lv_topi (fun y9 e9 => ?_)
            rw [show (gt (4 : Int32).toNatClampNeg : Int32) = gt 4 from rfl] at e9
            subst e9
            refine lv_iconst (v := 1) hx hb dX6_touch_136 (by decide) ?_
            refine lv_iadd hx hb dX6_touch_137 ?_
            refine lv_goto (tgt := 147) hx hb dX6_touch_138 (by decide) ?_
            refine va_iast hx hb hK hP hD hS 3 0 rfl rfl (by rw [vp_in_iff]; decide) dX6_touch_147 (fun H locs hP hD hS => ?_)
            have hP : va_P g.1 vwCl [(hO, .inr (4, [.int xT, .int xB, .int xC, .ref qP, .int xP, .ref qN, .int xS, .ref qY, .ref qD, .int xA, .ref qR, .ref qM, .ref qT, .int xw, .int (nI ka), .int (nI kb), .int xc])), (qR, .inl (g.2.1.1, 8, .inl gr)), (qM, .inl (g.2.1.1, 4096, .inl (upd gm (((gr kb) + xc).toNatClampNeg) ((gr ka) &&& 255)))), (qT, .inl (g.2.1.1, 6, .inl (upd gt 4 ((gt 4) + 1))))] H := hP
            have hD : va_D A [(hO, .inr (4, [.int xT, .int xB, .int xC, .ref qP, .int xP, .ref qN, .int xS, .ref qY, .ref qD, .int xA, .ref qR, .ref qM, .ref qT, .int xw, .int (nI ka), .int (nI kb), .int xc])), (qR, .inl (g.2.1.1, 8, .inl gr)), (qM, .inl (g.2.1.1, 4096, .inl (upd gm (((gr kb) + xc).toNatClampNeg) ((gr ka) &&& 255)))), (qT, .inl (g.2.1.1, 6, .inl (upd gt 4 ((gt 4) + 1))))] := hD
            refine lv_iconst (v := 0) hx hb dX6_touch_148 (by decide) ?_
            exact k_iret hx hb hr hlocks ⟨hK, hP, hD, hS, hA, hE, hN⟩ rfl dX6_touch_149 (Nat.le_of_ble_eq_true rfl) (Nat.le_of_ble_eq_true rfl) ⟨(by simp only [sp_X6_touch, sp_X6_touch_registers, sp_X6_touch_memory, sp_X6_touch_told, if_neg c_0, if_pos c_1, if_neg c_2, if_neg c_8, if_neg c_15]), (by simp only [sp_X6_touch, sp_X6_touch_registers, sp_X6_touch_memory, sp_X6_touch_told, if_neg c_0, if_pos c_1, if_neg c_2, if_neg c_8, if_neg c_15])⟩
          · skip
            refine lv_aload_n hx hb dX6_touch_84 rfl (lv_at hl 2 rfl) ?_
            refine va_get (D := g.1) (ci := 4) (v := .ref qR) (C := RX6) (T := TX6) (N := 17) hx hb hts iX6 hown hK hP 0 rfl rfl 10 (by decide) (hts (.fieldLink RX6 22 "FaultIsolationModel" "registers" "[I") (by decide +kernel)) (fun _ h9 => h9) rfl dX6_touch_85 ?_
            refine lv_aload_n hx hb dX6_touch_88 rfl (lv_at hl 2 rfl) ?_
            refine va_get (D := g.1) (ci := 4) (v := .int (nI ka)) (C := RX6) (T := TX6) (N := 17) hx hb hts iX6 hown hK hP 0 rfl rfl 14 (by decide) (hts (.fieldLink RX6 56 "FaultIsolationModel" "a" "I") (by decide +kernel)) (fun _ h9 => h9) rfl dX6_touch_89 ?_
            refine lv_aload_n hx hb dX6_touch_92 rfl (lv_at hl 2 rfl) ?_
            refine va_get (D := g.1) (ci := 4) (v := .ref qM) (C := RX6) (T := TX6) (N := 17) hx hb hts iX6 hown hK hP 0 rfl rfl 11 (by decide) (hts (.fieldLink RX6 25 "FaultIsolationModel" "memory" "[I") (by decide +kernel)) (fun _ h9 => h9) rfl dX6_touch_93 ?_
            refine lv_iload_n hx hb dX6_touch_96 rfl (lv_at hl 1 rfl) ?_
            have zq_18 := k_clle (m := 4095) c_0 c_1 (by omega)
            refine lv_topi (fun y9 e9 => ?_)
            rw [show ((gr kb) + xc : Int32) = nI (((gr kb) + xc).toNatClampNeg) from k_cl1 c_0] at e9
            subst e9
            refine va_iald hx hb hK hP 2 0 rfl rfl (vp_in_nI (by omega) (by decide)) dX6_touch_97 ?_
            refine lv_topi (fun y9 e9 => ?_)
            rw [show (gm (nI (((gr kb) + xc).toNatClampNeg)).toNatClampNeg : Int32) = gm (((gr kb) + xc).toNatClampNeg) from congrArg gm (nI_clamp (by omega))] at e9
            subst e9
            refine va_iast hx hb hK hP hD hS 1 0 rfl rfl (vp_in_nI (by omega) (by decide)) dX6_touch_98 (fun H locs hP hD hS => ?_)
            rw [nI_clamp (show ka < 2 ^ 31 by omega)] at hP hD
            have hP : va_P g.1 vwCl [(hO, .inr (4, [.int xT, .int xB, .int xC, .ref qP, .int xP, .ref qN, .int xS, .ref qY, .ref qD, .int xA, .ref qR, .ref qM, .ref qT, .int xw, .int (nI ka), .int (nI kb), .int xc])), (qR, .inl (g.2.1.1, 8, .inl (upd gr ka (gm (((gr kb) + xc).toNatClampNeg))))), (qM, .inl (g.2.1.1, 4096, .inl gm)), (qT, .inl (g.2.1.1, 6, .inl gt))] H := hP
            have hD : va_D A [(hO, .inr (4, [.int xT, .int xB, .int xC, .ref qP, .int xP, .ref qN, .int xS, .ref qY, .ref qD, .int xA, .ref qR, .ref qM, .ref qT, .int xw, .int (nI ka), .int (nI kb), .int xc])), (qR, .inl (g.2.1.1, 8, .inl (upd gr ka (gm (((gr kb) + xc).toNatClampNeg))))), (qM, .inl (g.2.1.1, 4096, .inl gm)), (qT, .inl (g.2.1.1, 6, .inl gt))] := hD
            refine lv_goto (tgt := 148) hx hb dX6_touch_99 (by decide) ?_
            refine lv_iconst (v := 0) hx hb dX6_touch_148 (by decide) ?_
            exact k_iret hx hb hr hlocks ⟨hK, hP, hD, hS, hA, hE, hN⟩ rfl dX6_touch_149 (Nat.le_of_ble_eq_true rfl) (Nat.le_of_ble_eq_true rfl) ⟨(by simp only [sp_X6_touch, sp_X6_touch_registers, sp_X6_touch_memory, sp_X6_touch_told, if_neg c_0, if_pos c_1, if_neg c_2, if_neg c_8, if_pos c_15]), (by simp only [sp_X6_touch, sp_X6_touch_registers, sp_X6_touch_memory, sp_X6_touch_told, if_neg c_0, if_pos c_1, if_neg c_2, if_neg c_8, if_pos c_15])⟩
    · skip
      refine lv_iconst (v := 4) hx hb dX6_touch_26 (by decide) ?_
      exact k_iret hx hb hr hlocks ⟨hK, hP, hD, hS, hA, hE, hN⟩ rfl dX6_touch_27 (Nat.le_of_ble_eq_true rfl) (Nat.le_of_ble_eq_true rfl) ⟨(by simp only [sp_X6_touch, sp_X6_touch_registers, sp_X6_touch_memory, sp_X6_touch_told, if_neg c_0, if_neg c_1]), (by simp only [sp_X6_touch, sp_X6_touch_registers, sp_X6_touch_memory, sp_X6_touch_told, if_neg c_0, if_neg c_1])⟩
