theorem k_clt {x : Int32} {n : Nat} (h0 : ¬ x < 0) (h1 : ¬ nI n ≤ x) (hn : n < 2 ^ 31) : x.toNatClampNeg < n := by
  obtain ⟨j, hj, rfl⟩ := nI_of h0
  rw [nI_clamp hj]
  exact k_leF h1 hn hj
theorem k_clgt {x : Int32} {m : Nat} (h0 : ¬ x < 0) (h1 : ¬ nI m < x) (hm : m < 2 ^ 31) : x.toNatClampNeg ≤ m := by
  obtain ⟨j, hj, rfl⟩ := nI_of h0
  rw [nI_clamp hj]
  exact k_ltF h1 hm hj
theorem k_clltT {x : Int32} {n : Nat} (h0 : ¬ x < 0) (h1 : x < nI n) (hn : n < 2 ^ 31) : x.toNatClampNeg < n := by
  obtain ⟨j, hj, rfl⟩ := nI_of h0
  rw [nI_clamp hj]
  exact k_ltT h1 hj hn

def sp_X6_add (n : Nat) (w0 : Int32) (a0 : Int32) (b0 : Int32) (c0 : Int32) : Int32 := if (sp_X6_areBytes w0 a0 b0 c0) = 0 then 0 else (if (nI n) = 60 then 0 else (nI ((n + 1) - 1)))
def sp_X6_add_thrown (n : Nat) (w0 : Int32) (a0 : Int32) (b0 : Int32) (c0 : Int32) : Int32 := if (sp_X6_areBytes w0 a0 b0 c0) = 0 then 1 else (if (nI n) = 60 then 2 else 0)
def sp_X6_add_count (n : Nat) (w0 : Int32) (a0 : Int32) (b0 : Int32) (c0 : Int32) : Int32 := if (sp_X6_areBytes w0 a0 b0 c0) = 0 then (nI n) else (if (nI n) = 60 then (nI n) else (nI (n + 1)))
def sp_X6_add_program (gp : Nat → Int32) (n : Nat) (w0 : Int32) (a0 : Int32) (b0 : Int32) (c0 : Int32) : Nat → Int32 := if (sp_X6_areBytes w0 a0 b0 c0) = 0 then gp else (if (nI n) = 60 then gp else (sp_X6_put_program gp n w0 a0 b0 c0))
set_option maxHeartbeats 4000000 in
set_option maxRecDepth 100000 in
theorem c_X6_add (l : Launch) (g : KG) (hO : Nat) (qP : Nat) (qN : Nat) (qY : Nat) (qD : Nat) (qR : Nat) (qM : Nat) (qT : Nat) (gp : Nat → Int32) (xT : Int32) (xB : Int32) (n : Nat) (xP : Int32) (xS : Int32) (xA : Int32) (xw : Int32) (xa : Int32) (xb : Int32) (xc : Int32) (w0 : Int32) (a0 : Int32) (b0 : Int32) (c0 : Int32) (hn : n ≤ 60) : Ci l g yX6_add wsX6_add ({ frames := 2, cells := 0, slots := 0, locals := 43 }) [.ref hO, .int w0, .int a0, .int b0, .int c0] [(hO, .inr (4, [.int xT, .int xB, .int (nI n), .ref qP, .int xP, .ref qN, .int xS, .ref qY, .ref qD, .int xA, .ref qR, .ref qM, .ref qT, .int xw, .int xa, .int xb, .int xc])), (qP, .inl (g.2.1.1, 240, .inl gp))] (fun r u => r = sp_X6_add n w0 a0 b0 c0 ∧ u = [(hO, .inr (4, [.int (sp_X6_add_thrown n w0 a0 b0 c0), .int xB, .int (sp_X6_add_count n w0 a0 b0 c0), .ref qP, .int xP, .ref qN, .int xS, .ref qY, .ref qD, .int xA, .ref qR, .ref qM, .ref qT, .int xw, .int xa, .int xb, .int xc])), (qP, .inl (g.2.1.1, 240, .inl (sp_X6_add_program gp n w0 a0 b0 c0)))]) 0 0 := by
  intro sz
  refine Met.ofW (cc := cX6_add) (maxL := 5) (ret := (some .int)) (by decide) rfl ?_
  intro p e s m args below meth c s₁ B hml hv
  obtain ⟨rfl, hsz, hP, hK, hD0, hE, hN⟩ := hv
  have hx := B.exec
  have hb := B.bytes
  have hr := B.returns
  have hts := atoms_spec (ws := wsX6_add) B.pre
  have hown : s.vm.findClass RX6 = some m.cls := findClass_of_methodNamed B.named
  have hlocks := B.notSynchronized
  have iX6 : ∀ w ∈ u_ws RX6 TX6 17, w ∈ wsX6_add := by decide +kernel
  subst hsz
  have hD := hD0.self (sz := s.heap.size)
  generalize hAe : va_A [(hO, .inr (4, [.int xT, .int xB, .int (nI n), .ref qP, .int xP, .ref qN, .int xS, .ref qY, .ref qD, .int xA, .ref qR, .ref qM, .ref qT, .int xw, .int xa, .int xb, .int xc])), (qP, .inl (g.2.1.1, 240, .inl gp))] s.heap.size = A at hD hE ⊢
  have hA : ∀ q : Nat, s.heap.size ≤ q → A q := fun q h => by rw [← hAe]; exact Or.inr h
  have hS : va_S A s.heap s.heap [] := va_S.rf
  have hl := lv_entry ([.ref hO, .int w0, .int a0, .int b0, .int c0]) (n := 5) (Nat.le_of_ble_eq_true rfl)
  rw [lg_entry_eq]
  generalize (lg_sl ([.ref hO, .int w0, .int a0, .int b0, .int c0]) ++ List.replicate (5 - (lg_sl ([.ref hO, .int w0, .int a0, .int b0, .int c0])).length) Slot.unset).toArray = ls at hl ⊢
  have hl : lv_has ls 5 [(0, .ref hO), (1, .int w0), (2, .int a0), (3, .int b0), (4, .int c0)] := hl
  refine lv_aload_n hx hb dX6_add_0 rfl (lv_at hl 0 rfl) ?_
  refine lv_iload_n hx hb dX6_add_1 rfl (lv_at hl 1 rfl) ?_
  refine lv_iload_n hx hb dX6_add_2 rfl (lv_at hl 2 rfl) ?_
  refine lv_iload_n hx hb dX6_add_3 rfl (lv_at hl 3 rfl) ?_
  refine lv_iload hx hb dX6_add_4 (lv_at hl 4 rfl) ?_
  refine kiS (As := [.int w0, .int a0, .int b0, .int c0]) (rest := [.ref hO]) (wc := []) (wr := [(hO, .inr (4, [.int xT, .int xB, .int (nI n), .ref qP, .int xP, .ref qN, .int xS, .ref qY, .ref qD, .int xA, .ref qR, .ref qM, .ref qT, .int xw, .int xa, .int xb, .int xc])), (qP, .inl (g.2.1.1, 240, .inl gp))]) ⟨hx, hb, hml, hown, hts⟩ (c_X6_areBytes l g w0 a0 b0 c0) (va_cwS 4 hts gX6_add_X6_areBytes rfl rfl rfl (by decide +kernel) ⟨Nat.le_of_ble_eq_true rfl, Nat.le_of_ble_eq_true rfl⟩) ⟨hK, hP, hD, hS, hA, hE, hN⟩ [] [0, 1] ⟨rfl, rfl, by decide⟩ rfl hl.1 (Nat.le_of_ble_eq_true rfl) dX6_add_6 ⟨Nat.le_of_ble_eq_true rfl, Nat.le_of_ble_eq_true rfl⟩ rfl (fun r u H locs hw hP hD hS => ?_)
  obtain ⟨hq, hw⟩ := hw
  subst r
  subst hw
  have hP := hP.sub (ws' := [(hO, .inr (4, [.int xT, .int xB, .int (nI n), .ref qP, .int xP, .ref qN, .int xS, .ref qY, .ref qD, .int xA, .ref qR, .ref qM, .ref qT, .int xw, .int xa, .int xb, .int xc])), (qP, .inl (g.2.1.1, 240, .inl gp))]) [0, 1] rfl
  have hD := hD.sub (ws' := [(hO, .inr (4, [.int xT, .int xB, .int (nI n), .ref qP, .int xP, .ref qN, .int xS, .ref qY, .ref qD, .int xA, .ref qR, .ref qM, .ref qT, .int xw, .int xa, .int xb, .int xc])), (qP, .inl (g.2.1.1, 240, .inl gp))]) [0, 1] (by decide) rfl
  refine lv_if_ne (tgt := 16) hx hb dX6_add_9 (by decide) (fun c_0 => ?_) (fun c_0 => ?_)
  · skip
    refine lv_aload_n hx hb dX6_add_16 rfl (lv_at hl 0 rfl) ?_
    refine va_get (D := g.1) (ci := 4) (v := .int (nI n)) (C := RX6) (T := TX6) (N := 17) hx hb hts iX6 hown hK hP 0 rfl rfl 2 (by decide) (hts (.fieldLink RX6 46 "FaultIsolationModel" "count" "I") (by decide +kernel)) (fun _ h9 => h9) rfl dX6_add_17 ?_
    refine lv_bipush (v := 60) hx hb dX6_add_20 (by decide) ?_
    refine lv_icmp_ne (tgt := 29) hx hb dX6_add_22 (by decide) (fun c_1 => ?_) (fun c_1 => ?_)
    · skip
      have z_1 := k_eqF (a := n) (b := 60) c_1 (by omega) (by omega)
      refine lv_iconst (v := 0) hx hb dX6_add_29 (by decide) ?_
      refine va_put (D := g.1) (ci := 4) (v := .int 0) (ty := .int) (C := RX6) (T := TX6) (N := 17) hx hb hts iX6 tyX6 tyX6_ok nmX6 hown hK hP hD hS 0 rfl rfl 0 (by decide) (hts (.fieldLink RX6 35 "FaultIsolationModel" "thrown" "I") (by decide +kernel)) (fun _ h9 => h9) rfl (by decide +kernel) rfl rfl (Nat.le_of_ble_eq_true rfl) dX6_add_30 (fun H locs hP hD hS => ?_)
      have hP : va_P g.1 vwCl [(hO, .inr (4, [.int 0, .int xB, .int (nI n), .ref qP, .int xP, .ref qN, .int xS, .ref qY, .ref qD, .int xA, .ref qR, .ref qM, .ref qT, .int xw, .int xa, .int xb, .int xc])), (qP, .inl (g.2.1.1, 240, .inl gp))] H := hP
      have hD : va_D A [(hO, .inr (4, [.int 0, .int xB, .int (nI n), .ref qP, .int xP, .ref qN, .int xS, .ref qY, .ref qD, .int xA, .ref qR, .ref qM, .ref qT, .int xw, .int xa, .int xb, .int xc])), (qP, .inl (g.2.1.1, 240, .inl gp))] := hD
      refine lv_aload_n hx hb dX6_add_33 rfl (lv_at hl 0 rfl) ?_
      refine va_get (D := g.1) (ci := 4) (v := .int 0) (C := RX6) (T := TX6) (N := 17) hx hb hts iX6 hown hK hP 0 rfl rfl 0 (by decide) (hts (.fieldLink RX6 35 "FaultIsolationModel" "thrown" "I") (by decide +kernel)) (fun _ h9 => h9) rfl dX6_add_34 ?_
      refine lv_if_le (tgt := 42) hx hb dX6_add_37 (by decide) (fun _ => ?_) (fun c_2 => absurd c_2 (by decide))
      refine lv_aload_n hx hb dX6_add_42 rfl (lv_at hl 0 rfl) ?_
      refine lv_aload_n hx hb dX6_add_43 rfl (lv_at hl 0 rfl) ?_
      refine va_get (D := g.1) (ci := 4) (v := .int (nI n)) (C := RX6) (T := TX6) (N := 17) hx hb hts iX6 hown hK hP 0 rfl rfl 2 (by decide) (hts (.fieldLink RX6 46 "FaultIsolationModel" "count" "I") (by decide +kernel)) (fun _ h9 => h9) rfl dX6_add_44 ?_
      refine lv_iload_n hx hb dX6_add_47 rfl (lv_at hl 1 rfl) ?_
      refine lv_iload_n hx hb dX6_add_48 rfl (lv_at hl 2 rfl) ?_
      refine lv_iload_n hx hb dX6_add_49 rfl (lv_at hl 3 rfl) ?_
      refine lv_iload hx hb dX6_add_50 (lv_at hl 4 rfl) ?_
      refine kvV (As := [.int (nI n), .int w0, .int a0, .int b0, .int c0]) (rest := []) (wc := [(hO, .inr (4, [.int 0, .int xB, .int (nI n), .ref qP, .int xP, .ref qN, .int xS, .ref qY, .ref qD, .int xA, .ref qR, .ref qM, .ref qT, .int xw, .int xa, .int xb, .int xc])), (qP, .inl (g.2.1.1, 240, .inl gp))]) (wr := []) ⟨hx, hb, hml, hown, hts⟩ (c_X6_put l g hO qP qN qY qD qR qM qT gp 0 xB (nI n) xP xS xA xw xa xb xc n w0 a0 b0 c0 (by omega)) (cwV 5 hts gX6_add_X6_put rfl rfl rfl (by decide +kernel) ⟨Nat.le_of_ble_eq_true rfl, Nat.le_of_ble_eq_true rfl⟩) ⟨hK, hP, hD, hS, hA, hE, hN⟩ [0, 1] [] ⟨rfl, rfl, by decide⟩ (q0 := 0) (ci := 4) rfl rfl rfl rfl hl.1 (Nat.le_of_ble_eq_true rfl) dX6_add_52 ⟨Nat.le_of_ble_eq_true rfl, Nat.le_of_ble_eq_true rfl⟩ rfl (fun u H locs hw hP hD hS => ?_)
      subst hw
      have hP := hP.sub (ws' := [(hO, .inr (4, [.int 0, .int xB, .int (nI n), .ref qP, .int xP, .ref qN, .int xS, .ref qY, .ref qD, .int xA, .ref qR, .ref qM, .ref qT, .int xw, .int xa, .int xb, .int xc])), (qP, .inl (g.2.1.1, 240, .inl (sp_X6_put_program gp n w0 a0 b0 c0)))]) [0, 1] rfl
      have hD := hD.sub (ws' := [(hO, .inr (4, [.int 0, .int xB, .int (nI n), .ref qP, .int xP, .ref qN, .int xS, .ref qY, .ref qD, .int xA, .ref qR, .ref qM, .ref qT, .int xw, .int xa, .int xb, .int xc])), (qP, .inl (g.2.1.1, 240, .inl (sp_X6_put_program gp n w0 a0 b0 c0)))]) [0, 1] (by decide) rfl
      refine lv_aload_n hx hb dX6_add_55 rfl (lv_at hl 0 rfl) ?_
      refine lv_dup hx hb dX6_add_56 rfl ?_
      refine va_get (D := g.1) (ci := 4) (v := .int (nI n)) (C := RX6) (T := TX6) (N := 17) hx hb hts iX6 hown hK hP 0 rfl rfl 2 (by decide) (hts (.fieldLink RX6 46 "FaultIsolationModel" "count" "I") (by decide +kernel)) (fun _ h9 => h9) rfl dX6_add_57 ?_
      refine lv_iconst (v := 1) hx hb dX6_add_60 (by decide) ?_
      refine lv_iadd hx hb dX6_add_61 ?_
      refine lv_topi (fun y9 e9 => ?_)
      rw [show ((nI n) + 1 : Int32) = nI (n + 1) from nI_add _ _] at e9
      subst e9
      refine va_put (D := g.1) (ci := 4) (v := .int (nI (n + 1))) (ty := .int) (C := RX6) (T := TX6) (N := 17) hx hb hts iX6 tyX6 tyX6_ok nmX6 hown hK hP hD hS 0 rfl rfl 2 (by decide) (hts (.fieldLink RX6 46 "FaultIsolationModel" "count" "I") (by decide +kernel)) (fun _ h9 => h9) rfl (by decide +kernel) rfl rfl (Nat.le_of_ble_eq_true rfl) dX6_add_62 (fun H locs hP hD hS => ?_)
      have hP : va_P g.1 vwCl [(hO, .inr (4, [.int 0, .int xB, .int (nI (n + 1)), .ref qP, .int xP, .ref qN, .int xS, .ref qY, .ref qD, .int xA, .ref qR, .ref qM, .ref qT, .int xw, .int xa, .int xb, .int xc])), (qP, .inl (g.2.1.1, 240, .inl (sp_X6_put_program gp n w0 a0 b0 c0)))] H := hP
      have hD : va_D A [(hO, .inr (4, [.int 0, .int xB, .int (nI (n + 1)), .ref qP, .int xP, .ref qN, .int xS, .ref qY, .ref qD, .int xA, .ref qR, .ref qM, .ref qT, .int xw, .int xa, .int xb, .int xc])), (qP, .inl (g.2.1.1, 240, .inl (sp_X6_put_program gp n w0 a0 b0 c0)))] := hD
      refine lv_aload_n hx hb dX6_add_65 rfl (lv_at hl 0 rfl) ?_
      refine va_get (D := g.1) (ci := 4) (v := .int (nI (n + 1))) (C := RX6) (T := TX6) (N := 17) hx hb hts iX6 hown hK hP 0 rfl rfl 2 (by decide) (hts (.fieldLink RX6 46 "FaultIsolationModel" "count" "I") (by decide +kernel)) (fun _ h9 => h9) rfl dX6_add_66 ?_
      refine lv_iconst (v := 1) hx hb dX6_add_69 (by decide) ?_
      refine lv_isub hx hb dX6_add_70 ?_
      refine lv_topi (fun y9 e9 => ?_)
      rw [show ((nI (n + 1)) - 1 : Int32) = nI ((n + 1) - 1) from pk_sub (a := (n + 1)) (b := 1) (by omega)] at e9
      subst e9
      exact k_iret hx hb hr hlocks ⟨hK, hP, hD, hS, hA, hE, hN⟩ rfl dX6_add_71 (Nat.le_of_ble_eq_true rfl) (Nat.le_of_ble_eq_true rfl) ⟨(by simp only [sp_X6_add, sp_X6_add_thrown, sp_X6_add_count, sp_X6_add_program, if_neg c_0, if_neg c_1]), (by simp only [sp_X6_add, sp_X6_add_thrown, sp_X6_add_count, sp_X6_add_program, if_neg c_0, if_neg c_1])⟩
    · skip
      have z_1 := k_eqT (a := n) (b := 60) c_1 (by omega) (by omega)
      refine lv_iconst (v := 2) hx hb dX6_add_25 (by decide) ?_
      refine lv_goto (tgt := 30) hx hb dX6_add_26 (by decide) ?_
      refine va_put (D := g.1) (ci := 4) (v := .int 2) (ty := .int) (C := RX6) (T := TX6) (N := 17) hx hb hts iX6 tyX6 tyX6_ok nmX6 hown hK hP hD hS 0 rfl rfl 0 (by decide) (hts (.fieldLink RX6 35 "FaultIsolationModel" "thrown" "I") (by decide +kernel)) (fun _ h9 => h9) rfl (by decide +kernel) rfl rfl (Nat.le_of_ble_eq_true rfl) dX6_add_30 (fun H locs hP hD hS => ?_)
      have hP : va_P g.1 vwCl [(hO, .inr (4, [.int 2, .int xB, .int (nI n), .ref qP, .int xP, .ref qN, .int xS, .ref qY, .ref qD, .int xA, .ref qR, .ref qM, .ref qT, .int xw, .int xa, .int xb, .int xc])), (qP, .inl (g.2.1.1, 240, .inl gp))] H := hP
      have hD : va_D A [(hO, .inr (4, [.int 2, .int xB, .int (nI n), .ref qP, .int xP, .ref qN, .int xS, .ref qY, .ref qD, .int xA, .ref qR, .ref qM, .ref qT, .int xw, .int xa, .int xb, .int xc])), (qP, .inl (g.2.1.1, 240, .inl gp))] := hD
      refine lv_aload_n hx hb dX6_add_33 rfl (lv_at hl 0 rfl) ?_
      refine va_get (D := g.1) (ci := 4) (v := .int 2) (C := RX6) (T := TX6) (N := 17) hx hb hts iX6 hown hK hP 0 rfl rfl 0 (by decide) (hts (.fieldLink RX6 35 "FaultIsolationModel" "thrown" "I") (by decide +kernel)) (fun _ h9 => h9) rfl dX6_add_34 ?_
      refine lv_if_le (tgt := 42) hx hb dX6_add_37 (by decide) (fun c_3 => absurd c_3 (by decide)) (fun _ => ?_)
      refine lv_iconst (v := 0) hx hb dX6_add_40 (by decide) ?_
      exact k_iret hx hb hr hlocks ⟨hK, hP, hD, hS, hA, hE, hN⟩ rfl dX6_add_41 (Nat.le_of_ble_eq_true rfl) (Nat.le_of_ble_eq_true rfl) ⟨(by simp only [sp_X6_add, sp_X6_add_thrown, sp_X6_add_count, sp_X6_add_program, if_neg c_0, if_pos c_1]), (by simp only [sp_X6_add, sp_X6_add_thrown, sp_X6_add_count, sp_X6_add_program, if_neg c_0, if_pos c_1])⟩
  · skip
    refine lv_iconst (v := 1) hx hb dX6_add_12 (by decide) ?_
    refine lv_goto (tgt := 30) hx hb dX6_add_13 (by decide) ?_
    refine va_put (D := g.1) (ci := 4) (v := .int 1) (ty := .int) (C := RX6) (T := TX6) (N := 17) hx hb hts iX6 tyX6 tyX6_ok nmX6 hown hK hP hD hS 0 rfl rfl 0 (by decide) (hts (.fieldLink RX6 35 "FaultIsolationModel" "thrown" "I") (by decide +kernel)) (fun _ h9 => h9) rfl (by decide +kernel) rfl rfl (Nat.le_of_ble_eq_true rfl) dX6_add_30 (fun H locs hP hD hS => ?_)
    have hP : va_P g.1 vwCl [(hO, .inr (4, [.int 1, .int xB, .int (nI n), .ref qP, .int xP, .ref qN, .int xS, .ref qY, .ref qD, .int xA, .ref qR, .ref qM, .ref qT, .int xw, .int xa, .int xb, .int xc])), (qP, .inl (g.2.1.1, 240, .inl gp))] H := hP
    have hD : va_D A [(hO, .inr (4, [.int 1, .int xB, .int (nI n), .ref qP, .int xP, .ref qN, .int xS, .ref qY, .ref qD, .int xA, .ref qR, .ref qM, .ref qT, .int xw, .int xa, .int xb, .int xc])), (qP, .inl (g.2.1.1, 240, .inl gp))] := hD
    refine lv_aload_n hx hb dX6_add_33 rfl (lv_at hl 0 rfl) ?_
    refine va_get (D := g.1) (ci := 4) (v := .int 1) (C := RX6) (T := TX6) (N := 17) hx hb hts iX6 hown hK hP 0 rfl rfl 0 (by decide) (hts (.fieldLink RX6 35 "FaultIsolationModel" "thrown" "I") (by decide +kernel)) (fun _ h9 => h9) rfl dX6_add_34 ?_
    refine lv_if_le (tgt := 42) hx hb dX6_add_37 (by decide) (fun c_4 => absurd c_4 (by decide)) (fun _ => ?_)
    refine lv_iconst (v := 0) hx hb dX6_add_40 (by decide) ?_
    exact k_iret hx hb hr hlocks ⟨hK, hP, hD, hS, hA, hE, hN⟩ rfl dX6_add_41 (Nat.le_of_ble_eq_true rfl) (Nat.le_of_ble_eq_true rfl) ⟨(by simp only [sp_X6_add, sp_X6_add_thrown, sp_X6_add_count, sp_X6_add_program, if_pos c_0]), (by simp only [sp_X6_add, sp_X6_add_thrown, sp_X6_add_count, sp_X6_add_program, if_pos c_0])⟩
def sp_X6_set_thrown (n : Nat) (pl : Int32) (w0 : Int32) (a0 : Int32) (b0 : Int32) (c0 : Int32) : Int32 := if pl < 0 then 1 else (if (nI n) ≤ pl then 1 else (if (sp_X6_areBytes w0 a0 b0 c0) = 0 then 1 else 0))
def sp_X6_set_program (gp : Nat → Int32) (n : Nat) (pl : Int32) (w0 : Int32) (a0 : Int32) (b0 : Int32) (c0 : Int32) : Nat → Int32 := if pl < 0 then gp else (if (nI n) ≤ pl then gp else (if (sp_X6_areBytes w0 a0 b0 c0) = 0 then gp else (sp_X6_put_program gp pl.toNatClampNeg w0 a0 b0 c0)))
set_option maxHeartbeats 4000000 in
set_option maxRecDepth 100000 in
theorem c_X6_set (l : Launch) (g : KG) (hO : Nat) (qP : Nat) (qN : Nat) (qY : Nat) (qD : Nat) (qR : Nat) (qM : Nat) (qT : Nat) (gp : Nat → Int32) (xT : Int32) (xB : Int32) (n : Nat) (xP : Int32) (xS : Int32) (xA : Int32) (xw : Int32) (xa : Int32) (xb : Int32) (xc : Int32) (pl : Int32) (w0 : Int32) (a0 : Int32) (b0 : Int32) (c0 : Int32) (hn : n ≤ 60) : Cv l g yX6_set wsX6_set ({ frames := 2, cells := 0, slots := 0, locals := 43 }) [.ref hO, .int pl, .int w0, .int a0, .int b0, .int c0] [(hO, .inr (4, [.int xT, .int xB, .int (nI n), .ref qP, .int xP, .ref qN, .int xS, .ref qY, .ref qD, .int xA, .ref qR, .ref qM, .ref qT, .int xw, .int xa, .int xb, .int xc])), (qP, .inl (g.2.1.1, 240, .inl gp))] (fun u => u = [(hO, .inr (4, [.int (sp_X6_set_thrown n pl w0 a0 b0 c0), .int xB, .int (nI n), .ref qP, .int xP, .ref qN, .int xS, .ref qY, .ref qD, .int xA, .ref qR, .ref qM, .ref qT, .int xw, .int xa, .int xb, .int xc])), (qP, .inl (g.2.1.1, 240, .inl (sp_X6_set_program gp n pl w0 a0 b0 c0)))]) 0 0 := by
  intro sz
  refine Met.ofW (cc := cX6_set) (maxL := 6) (ret := none) (by decide) rfl ?_
  intro p e s m args below meth c s₁ B hml hv
  obtain ⟨rfl, hsz, hP, hK, hD0, hE, hN⟩ := hv
  have hx := B.exec
  have hb := B.bytes
  have hr := B.returns
  have hts := atoms_spec (ws := wsX6_set) B.pre
  have hown : s.vm.findClass RX6 = some m.cls := findClass_of_methodNamed B.named
  have hlocks := B.notSynchronized
  have iX6 : ∀ w ∈ u_ws RX6 TX6 17, w ∈ wsX6_set := by decide +kernel
  subst hsz
  have hD := hD0.self (sz := s.heap.size)
  generalize hAe : va_A [(hO, .inr (4, [.int xT, .int xB, .int (nI n), .ref qP, .int xP, .ref qN, .int xS, .ref qY, .ref qD, .int xA, .ref qR, .ref qM, .ref qT, .int xw, .int xa, .int xb, .int xc])), (qP, .inl (g.2.1.1, 240, .inl gp))] s.heap.size = A at hD hE ⊢
  have hA : ∀ q : Nat, s.heap.size ≤ q → A q := fun q h => by rw [← hAe]; exact Or.inr h
  have hS : va_S A s.heap s.heap [] := va_S.rf
  have hl := lv_entry ([.ref hO, .int pl, .int w0, .int a0, .int b0, .int c0]) (n := 6) (Nat.le_of_ble_eq_true rfl)
  rw [lg_entry_eq]
  generalize (lg_sl ([.ref hO, .int pl, .int w0, .int a0, .int b0, .int c0]) ++ List.replicate (6 - (lg_sl ([.ref hO, .int pl, .int w0, .int a0, .int b0, .int c0])).length) Slot.unset).toArray = ls at hl ⊢
  have hl : lv_has ls 6 [(0, .ref hO), (1, .int pl), (2, .int w0), (3, .int a0), (4, .int b0), (5, .int c0)] := hl
  refine lv_aload_n hx hb dX6_set_0 rfl (lv_at hl 0 rfl) ?_
  refine lv_iload_n hx hb dX6_set_1 rfl (lv_at hl 1 rfl) ?_
  refine lv_if_lt (tgt := 25) hx hb dX6_set_2 (by decide) (fun c_0 => ?_) (fun c_0 => ?_)
  · skip
    refine lv_iconst (v := 1) hx hb dX6_set_25 (by decide) ?_
    refine lv_goto (tgt := 30) hx hb dX6_set_26 (by decide) ?_
    refine va_put (D := g.1) (ci := 4) (v := .int 1) (ty := .int) (C := RX6) (T := TX6) (N := 17) hx hb hts iX6 tyX6 tyX6_ok nmX6 hown hK hP hD hS 0 rfl rfl 0 (by decide) (hts (.fieldLink RX6 35 "FaultIsolationModel" "thrown" "I") (by decide +kernel)) (fun _ h9 => h9) rfl (by decide +kernel) rfl rfl (Nat.le_of_ble_eq_true rfl) dX6_set_30 (fun H locs hP hD hS => ?_)
    have hP : va_P g.1 vwCl [(hO, .inr (4, [.int 1, .int xB, .int (nI n), .ref qP, .int xP, .ref qN, .int xS, .ref qY, .ref qD, .int xA, .ref qR, .ref qM, .ref qT, .int xw, .int xa, .int xb, .int xc])), (qP, .inl (g.2.1.1, 240, .inl gp))] H := hP
    have hD : va_D A [(hO, .inr (4, [.int 1, .int xB, .int (nI n), .ref qP, .int xP, .ref qN, .int xS, .ref qY, .ref qD, .int xA, .ref qR, .ref qM, .ref qT, .int xw, .int xa, .int xb, .int xc])), (qP, .inl (g.2.1.1, 240, .inl gp))] := hD
    refine lv_aload_n hx hb dX6_set_33 rfl (lv_at hl 0 rfl) ?_
    refine va_get (D := g.1) (ci := 4) (v := .int 1) (C := RX6) (T := TX6) (N := 17) hx hb hts iX6 hown hK hP 0 rfl rfl 0 (by decide) (hts (.fieldLink RX6 35 "FaultIsolationModel" "thrown" "I") (by decide +kernel)) (fun _ h9 => h9) rfl dX6_set_34 ?_
    refine lv_if_ne (tgt := 51) hx hb dX6_set_37 (by decide) (fun _ => ?_) (fun c_1 => absurd c_1 (by decide))
    exact k_vret hx hb hr hlocks ⟨hK, hP, hD, hS, hA, hE, hN⟩ dX6_set_51 (Nat.le_of_ble_eq_true rfl) (Nat.le_of_ble_eq_true rfl) (by simp only [sp_X6_set_thrown, sp_X6_set_program, if_pos c_0])
  · skip
    refine lv_iload_n hx hb dX6_set_5 rfl (lv_at hl 1 rfl) ?_
    refine lv_aload_n hx hb dX6_set_6 rfl (lv_at hl 0 rfl) ?_
    refine va_get (D := g.1) (ci := 4) (v := .int (nI n)) (C := RX6) (T := TX6) (N := 17) hx hb hts iX6 hown hK hP 0 rfl rfl 2 (by decide) (hts (.fieldLink RX6 46 "FaultIsolationModel" "count" "I") (by decide +kernel)) (fun _ h9 => h9) rfl dX6_set_7 ?_
    refine lv_icmp_ge (tgt := 25) hx hb dX6_set_10 (by decide) (fun c_2 => ?_) (fun c_2 => ?_)
    · skip
      refine lv_iconst (v := 1) hx hb dX6_set_25 (by decide) ?_
      refine lv_goto (tgt := 30) hx hb dX6_set_26 (by decide) ?_
      refine va_put (D := g.1) (ci := 4) (v := .int 1) (ty := .int) (C := RX6) (T := TX6) (N := 17) hx hb hts iX6 tyX6 tyX6_ok nmX6 hown hK hP hD hS 0 rfl rfl 0 (by decide) (hts (.fieldLink RX6 35 "FaultIsolationModel" "thrown" "I") (by decide +kernel)) (fun _ h9 => h9) rfl (by decide +kernel) rfl rfl (Nat.le_of_ble_eq_true rfl) dX6_set_30 (fun H locs hP hD hS => ?_)
      have hP : va_P g.1 vwCl [(hO, .inr (4, [.int 1, .int xB, .int (nI n), .ref qP, .int xP, .ref qN, .int xS, .ref qY, .ref qD, .int xA, .ref qR, .ref qM, .ref qT, .int xw, .int xa, .int xb, .int xc])), (qP, .inl (g.2.1.1, 240, .inl gp))] H := hP
      have hD : va_D A [(hO, .inr (4, [.int 1, .int xB, .int (nI n), .ref qP, .int xP, .ref qN, .int xS, .ref qY, .ref qD, .int xA, .ref qR, .ref qM, .ref qT, .int xw, .int xa, .int xb, .int xc])), (qP, .inl (g.2.1.1, 240, .inl gp))] := hD
      refine lv_aload_n hx hb dX6_set_33 rfl (lv_at hl 0 rfl) ?_
      refine va_get (D := g.1) (ci := 4) (v := .int 1) (C := RX6) (T := TX6) (N := 17) hx hb hts iX6 hown hK hP 0 rfl rfl 0 (by decide) (hts (.fieldLink RX6 35 "FaultIsolationModel" "thrown" "I") (by decide +kernel)) (fun _ h9 => h9) rfl dX6_set_34 ?_
      refine lv_if_ne (tgt := 51) hx hb dX6_set_37 (by decide) (fun _ => ?_) (fun c_3 => absurd c_3 (by decide))
      exact k_vret hx hb hr hlocks ⟨hK, hP, hD, hS, hA, hE, hN⟩ dX6_set_51 (Nat.le_of_ble_eq_true rfl) (Nat.le_of_ble_eq_true rfl) (by simp only [sp_X6_set_thrown, sp_X6_set_program, if_neg c_0, if_pos c_2])
    · skip
      refine lv_iload_n hx hb dX6_set_13 rfl (lv_at hl 2 rfl) ?_
      refine lv_iload_n hx hb dX6_set_14 rfl (lv_at hl 3 rfl) ?_
      refine lv_iload hx hb dX6_set_15 (lv_at hl 4 rfl) ?_
      refine lv_iload hx hb dX6_set_17 (lv_at hl 5 rfl) ?_
      refine kiS (As := [.int w0, .int a0, .int b0, .int c0]) (rest := [.ref hO]) (wc := []) (wr := [(hO, .inr (4, [.int xT, .int xB, .int (nI n), .ref qP, .int xP, .ref qN, .int xS, .ref qY, .ref qD, .int xA, .ref qR, .ref qM, .ref qT, .int xw, .int xa, .int xb, .int xc])), (qP, .inl (g.2.1.1, 240, .inl gp))]) ⟨hx, hb, hml, hown, hts⟩ (c_X6_areBytes l g w0 a0 b0 c0) (va_cwS 4 hts gX6_set_X6_areBytes rfl rfl rfl (by decide +kernel) ⟨Nat.le_of_ble_eq_true rfl, Nat.le_of_ble_eq_true rfl⟩) ⟨hK, hP, hD, hS, hA, hE, hN⟩ [] [0, 1] ⟨rfl, rfl, by decide⟩ rfl hl.1 (Nat.le_of_ble_eq_true rfl) dX6_set_19 ⟨Nat.le_of_ble_eq_true rfl, Nat.le_of_ble_eq_true rfl⟩ rfl (fun r u H locs hw hP hD hS => ?_)
      obtain ⟨hq, hw⟩ := hw
      subst r
      subst hw
      have hP := hP.sub (ws' := [(hO, .inr (4, [.int xT, .int xB, .int (nI n), .ref qP, .int xP, .ref qN, .int xS, .ref qY, .ref qD, .int xA, .ref qR, .ref qM, .ref qT, .int xw, .int xa, .int xb, .int xc])), (qP, .inl (g.2.1.1, 240, .inl gp))]) [0, 1] rfl
      have hD := hD.sub (ws' := [(hO, .inr (4, [.int xT, .int xB, .int (nI n), .ref qP, .int xP, .ref qN, .int xS, .ref qY, .ref qD, .int xA, .ref qR, .ref qM, .ref qT, .int xw, .int xa, .int xb, .int xc])), (qP, .inl (g.2.1.1, 240, .inl gp))]) [0, 1] (by decide) rfl
      refine lv_if_ne (tgt := 29) hx hb dX6_set_22 (by decide) (fun c_4 => ?_) (fun c_4 => ?_)
      · skip
        refine lv_iconst (v := 0) hx hb dX6_set_29 (by decide) ?_
        refine va_put (D := g.1) (ci := 4) (v := .int 0) (ty := .int) (C := RX6) (T := TX6) (N := 17) hx hb hts iX6 tyX6 tyX6_ok nmX6 hown hK hP hD hS 0 rfl rfl 0 (by decide) (hts (.fieldLink RX6 35 "FaultIsolationModel" "thrown" "I") (by decide +kernel)) (fun _ h9 => h9) rfl (by decide +kernel) rfl rfl (Nat.le_of_ble_eq_true rfl) dX6_set_30 (fun H locs hP hD hS => ?_)
        have hP : va_P g.1 vwCl [(hO, .inr (4, [.int 0, .int xB, .int (nI n), .ref qP, .int xP, .ref qN, .int xS, .ref qY, .ref qD, .int xA, .ref qR, .ref qM, .ref qT, .int xw, .int xa, .int xb, .int xc])), (qP, .inl (g.2.1.1, 240, .inl gp))] H := hP
        have hD : va_D A [(hO, .inr (4, [.int 0, .int xB, .int (nI n), .ref qP, .int xP, .ref qN, .int xS, .ref qY, .ref qD, .int xA, .ref qR, .ref qM, .ref qT, .int xw, .int xa, .int xb, .int xc])), (qP, .inl (g.2.1.1, 240, .inl gp))] := hD
        refine lv_aload_n hx hb dX6_set_33 rfl (lv_at hl 0 rfl) ?_
        refine va_get (D := g.1) (ci := 4) (v := .int 0) (C := RX6) (T := TX6) (N := 17) hx hb hts iX6 hown hK hP 0 rfl rfl 0 (by decide) (hts (.fieldLink RX6 35 "FaultIsolationModel" "thrown" "I") (by decide +kernel)) (fun _ h9 => h9) rfl dX6_set_34 ?_
        refine lv_if_ne (tgt := 51) hx hb dX6_set_37 (by decide) (fun c_5 => absurd c_5 (by decide)) (fun _ => ?_)
        refine lv_aload_n hx hb dX6_set_40 rfl (lv_at hl 0 rfl) ?_
        refine lv_iload_n hx hb dX6_set_41 rfl (lv_at hl 1 rfl) ?_
        have zq_6 := k_clt (n := n) c_0 c_2 (by omega)
        refine lv_topi (fun y9 e9 => ?_)
        rw [show (pl : Int32) = nI (pl.toNatClampNeg) from k_cl1 c_0] at e9
        subst e9
        refine lv_iload_n hx hb dX6_set_42 rfl (lv_at hl 2 rfl) ?_
        refine lv_iload_n hx hb dX6_set_43 rfl (lv_at hl 3 rfl) ?_
        refine lv_iload hx hb dX6_set_44 (lv_at hl 4 rfl) ?_
        refine lv_iload hx hb dX6_set_46 (lv_at hl 5 rfl) ?_
        refine kvV (As := [.int (nI (pl.toNatClampNeg)), .int w0, .int a0, .int b0, .int c0]) (rest := []) (wc := [(hO, .inr (4, [.int 0, .int xB, .int (nI n), .ref qP, .int xP, .ref qN, .int xS, .ref qY, .ref qD, .int xA, .ref qR, .ref qM, .ref qT, .int xw, .int xa, .int xb, .int xc])), (qP, .inl (g.2.1.1, 240, .inl gp))]) (wr := []) ⟨hx, hb, hml, hown, hts⟩ (c_X6_put l g hO qP qN qY qD qR qM qT gp 0 xB (nI n) xP xS xA xw xa xb xc pl.toNatClampNeg w0 a0 b0 c0 (by omega)) (cwV 5 hts gX6_set_X6_put rfl rfl rfl (by decide +kernel) ⟨Nat.le_of_ble_eq_true rfl, Nat.le_of_ble_eq_true rfl⟩) ⟨hK, hP, hD, hS, hA, hE, hN⟩ [0, 1] [] ⟨rfl, rfl, by decide⟩ (q0 := 0) (ci := 4) rfl rfl rfl rfl hl.1 (Nat.le_of_ble_eq_true rfl) dX6_set_48 ⟨Nat.le_of_ble_eq_true rfl, Nat.le_of_ble_eq_true rfl⟩ rfl (fun u H locs hw hP hD hS => ?_)
        subst hw
        have hP := hP.sub (ws' := [(hO, .inr (4, [.int 0, .int xB, .int (nI n), .ref qP, .int xP, .ref qN, .int xS, .ref qY, .ref qD, .int xA, .ref qR, .ref qM, .ref qT, .int xw, .int xa, .int xb, .int xc])), (qP, .inl (g.2.1.1, 240, .inl (sp_X6_put_program gp pl.toNatClampNeg w0 a0 b0 c0)))]) [0, 1] rfl
        have hD := hD.sub (ws' := [(hO, .inr (4, [.int 0, .int xB, .int (nI n), .ref qP, .int xP, .ref qN, .int xS, .ref qY, .ref qD, .int xA, .ref qR, .ref qM, .ref qT, .int xw, .int xa, .int xb, .int xc])), (qP, .inl (g.2.1.1, 240, .inl (sp_X6_put_program gp pl.toNatClampNeg w0 a0 b0 c0)))]) [0, 1] (by decide) rfl
        exact k_vret hx hb hr hlocks ⟨hK, hP, hD, hS, hA, hE, hN⟩ dX6_set_51 (Nat.le_of_ble_eq_true rfl) (Nat.le_of_ble_eq_true rfl) (by simp only [sp_X6_set_thrown, sp_X6_set_program, if_neg c_0, if_neg c_2, if_neg c_4])
      · skip
        refine lv_iconst (v := 1) hx hb dX6_set_25 (by decide) ?_
        refine lv_goto (tgt := 30) hx hb dX6_set_26 (by decide) ?_
        refine va_put (D := g.1) (ci := 4) (v := .int 1) (ty := .int) (C := RX6) (T := TX6) (N := 17) hx hb hts iX6 tyX6 tyX6_ok nmX6 hown hK hP hD hS 0 rfl rfl 0 (by decide) (hts (.fieldLink RX6 35 "FaultIsolationModel" "thrown" "I") (by decide +kernel)) (fun _ h9 => h9) rfl (by decide +kernel) rfl rfl (Nat.le_of_ble_eq_true rfl) dX6_set_30 (fun H locs hP hD hS => ?_)
        have hP : va_P g.1 vwCl [(hO, .inr (4, [.int 1, .int xB, .int (nI n), .ref qP, .int xP, .ref qN, .int xS, .ref qY, .ref qD, .int xA, .ref qR, .ref qM, .ref qT, .int xw, .int xa, .int xb, .int xc])), (qP, .inl (g.2.1.1, 240, .inl gp))] H := hP
        have hD : va_D A [(hO, .inr (4, [.int 1, .int xB, .int (nI n), .ref qP, .int xP, .ref qN, .int xS, .ref qY, .ref qD, .int xA, .ref qR, .ref qM, .ref qT, .int xw, .int xa, .int xb, .int xc])), (qP, .inl (g.2.1.1, 240, .inl gp))] := hD
        refine lv_aload_n hx hb dX6_set_33 rfl (lv_at hl 0 rfl) ?_
        refine va_get (D := g.1) (ci := 4) (v := .int 1) (C := RX6) (T := TX6) (N := 17) hx hb hts iX6 hown hK hP 0 rfl rfl 0 (by decide) (hts (.fieldLink RX6 35 "FaultIsolationModel" "thrown" "I") (by decide +kernel)) (fun _ h9 => h9) rfl dX6_set_34 ?_
        refine lv_if_ne (tgt := 51) hx hb dX6_set_37 (by decide) (fun _ => ?_) (fun c_7 => absurd c_7 (by decide))
        exact k_vret hx hb hr hlocks ⟨hK, hP, hD, hS, hA, hE, hN⟩ dX6_set_51 (Nat.le_of_ble_eq_true rfl) (Nat.le_of_ble_eq_true rfl) (by simp only [sp_X6_set_thrown, sp_X6_set_program, if_neg c_0, if_neg c_2, if_pos c_4])
def sp_X6_cut (n : Nat) (p0 : Int32) : Int32 := if p0 < 0 then 0 else (if p0 ≤ (nI n) then (nI (n - p0.toNatClampNeg)) else 0)
def sp_X6_cut_thrown (n : Nat) (p0 : Int32) : Int32 := if p0 < 0 then 1 else (if p0 ≤ (nI n) then 0 else 1)
def sp_X6_cut_count (n : Nat) (p0 : Int32) : Int32 := if p0 < 0 then (nI n) else (if p0 ≤ (nI n) then (nI (n - p0.toNatClampNeg)) else (nI n))
set_option maxHeartbeats 4000000 in
set_option maxRecDepth 100000 in
theorem c_X6_cut (l : Launch) (g : KG) (hO : Nat) (qP : Nat) (qN : Nat) (qY : Nat) (qD : Nat) (qR : Nat) (qM : Nat) (qT : Nat) (xT : Int32) (xB : Int32) (n : Nat) (xP : Int32) (xS : Int32) (xA : Int32) (xw : Int32) (xa : Int32) (xb : Int32) (xc : Int32) (p0 : Int32) (hn : n ≤ 60) : Ci l g yX6_cut wsX6_cut ({ frames := 0, cells := 0, slots := 0, locals := 0 }) [.ref hO, .int p0] [(hO, .inr (4, [.int xT, .int xB, .int (nI n), .ref qP, .int xP, .ref qN, .int xS, .ref qY, .ref qD, .int xA, .ref qR, .ref qM, .ref qT, .int xw, .int xa, .int xb, .int xc]))] (fun r u => r = sp_X6_cut n p0 ∧ u = [(hO, .inr (4, [.int (sp_X6_cut_thrown n p0), .int xB, .int (sp_X6_cut_count n p0), .ref qP, .int xP, .ref qN, .int xS, .ref qY, .ref qD, .int xA, .ref qR, .ref qM, .ref qT, .int xw, .int xa, .int xb, .int xc]))]) 0 0 := by
  intro sz
  refine Met.ofW (cc := cX6_cut) (maxL := 2) (ret := (some .int)) (by decide) rfl ?_
  intro p e s m args below meth c s₁ B hml hv
  obtain ⟨rfl, hsz, hP, hK, hD0, hE, hN⟩ := hv
  have hx := B.exec
  have hb := B.bytes
  have hr := B.returns
  have hts := atoms_spec (ws := wsX6_cut) B.pre
  have hown : s.vm.findClass RX6 = some m.cls := findClass_of_methodNamed B.named
  have hlocks := B.notSynchronized
  have iX6 : ∀ w ∈ u_ws RX6 TX6 17, w ∈ wsX6_cut := by decide +kernel
  subst hsz
  have hD := hD0.self (sz := s.heap.size)
  generalize hAe : va_A [(hO, .inr (4, [.int xT, .int xB, .int (nI n), .ref qP, .int xP, .ref qN, .int xS, .ref qY, .ref qD, .int xA, .ref qR, .ref qM, .ref qT, .int xw, .int xa, .int xb, .int xc]))] s.heap.size = A at hD hE ⊢
  have hA : ∀ q : Nat, s.heap.size ≤ q → A q := fun q h => by rw [← hAe]; exact Or.inr h
  have hS : va_S A s.heap s.heap [] := va_S.rf
  have hl := lv_entry ([.ref hO, .int p0]) (n := 2) (Nat.le_of_ble_eq_true rfl)
  rw [lg_entry_eq]
  generalize (lg_sl ([.ref hO, .int p0]) ++ List.replicate (2 - (lg_sl ([.ref hO, .int p0])).length) Slot.unset).toArray = ls at hl ⊢
  have hl : lv_has ls 2 [(0, .ref hO), (1, .int p0)] := hl
  refine lv_aload_n hx hb dX6_cut_0 rfl (lv_at hl 0 rfl) ?_
  refine lv_iload_n hx hb dX6_cut_1 rfl (lv_at hl 1 rfl) ?_
  refine lv_if_lt (tgt := 13) hx hb dX6_cut_2 (by decide) (fun c_0 => ?_) (fun c_0 => ?_)
  · skip
    refine lv_iconst (v := 1) hx hb dX6_cut_13 (by decide) ?_
    refine lv_goto (tgt := 18) hx hb dX6_cut_14 (by decide) ?_
    refine va_put (D := g.1) (ci := 4) (v := .int 1) (ty := .int) (C := RX6) (T := TX6) (N := 17) hx hb hts iX6 tyX6 tyX6_ok nmX6 hown hK hP hD hS 0 rfl rfl 0 (by decide) (hts (.fieldLink RX6 35 "FaultIsolationModel" "thrown" "I") (by decide +kernel)) (fun _ h9 => h9) rfl (by decide +kernel) rfl rfl (Nat.le_of_ble_eq_true rfl) dX6_cut_18 (fun H locs hP hD hS => ?_)
    have hP : va_P g.1 vwCl [(hO, .inr (4, [.int 1, .int xB, .int (nI n), .ref qP, .int xP, .ref qN, .int xS, .ref qY, .ref qD, .int xA, .ref qR, .ref qM, .ref qT, .int xw, .int xa, .int xb, .int xc]))] H := hP
    have hD : va_D A [(hO, .inr (4, [.int 1, .int xB, .int (nI n), .ref qP, .int xP, .ref qN, .int xS, .ref qY, .ref qD, .int xA, .ref qR, .ref qM, .ref qT, .int xw, .int xa, .int xb, .int xc]))] := hD
    refine lv_aload_n hx hb dX6_cut_21 rfl (lv_at hl 0 rfl) ?_
    refine va_get (D := g.1) (ci := 4) (v := .int 1) (C := RX6) (T := TX6) (N := 17) hx hb hts iX6 hown hK hP 0 rfl rfl 0 (by decide) (hts (.fieldLink RX6 35 "FaultIsolationModel" "thrown" "I") (by decide +kernel)) (fun _ h9 => h9) rfl dX6_cut_22 ?_
    refine lv_if_le (tgt := 30) hx hb dX6_cut_25 (by decide) (fun c_1 => absurd c_1 (by decide)) (fun _ => ?_)
    refine lv_iconst (v := 0) hx hb dX6_cut_28 (by decide) ?_
    exact k_iret hx hb hr hlocks ⟨hK, hP, hD, hS, hA, hE, hN⟩ rfl dX6_cut_29 (Nat.le_of_ble_eq_true rfl) (Nat.le_of_ble_eq_true rfl) ⟨(by simp only [sp_X6_cut, sp_X6_cut_thrown, sp_X6_cut_count, if_pos c_0]), (by simp only [sp_X6_cut, sp_X6_cut_thrown, sp_X6_cut_count, if_pos c_0])⟩
  · skip
    refine lv_iload_n hx hb dX6_cut_5 rfl (lv_at hl 1 rfl) ?_
    refine lv_aload_n hx hb dX6_cut_6 rfl (lv_at hl 0 rfl) ?_
    refine va_get (D := g.1) (ci := 4) (v := .int (nI n)) (C := RX6) (T := TX6) (N := 17) hx hb hts iX6 hown hK hP 0 rfl rfl 2 (by decide) (hts (.fieldLink RX6 46 "FaultIsolationModel" "count" "I") (by decide +kernel)) (fun _ h9 => h9) rfl dX6_cut_7 ?_
    refine lv_icmp_le (tgt := 17) hx hb dX6_cut_10 (by decide) (fun c_2 => ?_) (fun c_2 => ?_)
    · skip
      refine lv_iconst (v := 0) hx hb dX6_cut_17 (by decide) ?_
      refine va_put (D := g.1) (ci := 4) (v := .int 0) (ty := .int) (C := RX6) (T := TX6) (N := 17) hx hb hts iX6 tyX6 tyX6_ok nmX6 hown hK hP hD hS 0 rfl rfl 0 (by decide) (hts (.fieldLink RX6 35 "FaultIsolationModel" "thrown" "I") (by decide +kernel)) (fun _ h9 => h9) rfl (by decide +kernel) rfl rfl (Nat.le_of_ble_eq_true rfl) dX6_cut_18 (fun H locs hP hD hS => ?_)
      have hP : va_P g.1 vwCl [(hO, .inr (4, [.int 0, .int xB, .int (nI n), .ref qP, .int xP, .ref qN, .int xS, .ref qY, .ref qD, .int xA, .ref qR, .ref qM, .ref qT, .int xw, .int xa, .int xb, .int xc]))] H := hP
      have hD : va_D A [(hO, .inr (4, [.int 0, .int xB, .int (nI n), .ref qP, .int xP, .ref qN, .int xS, .ref qY, .ref qD, .int xA, .ref qR, .ref qM, .ref qT, .int xw, .int xa, .int xb, .int xc]))] := hD
      refine lv_aload_n hx hb dX6_cut_21 rfl (lv_at hl 0 rfl) ?_
      refine va_get (D := g.1) (ci := 4) (v := .int 0) (C := RX6) (T := TX6) (N := 17) hx hb hts iX6 hown hK hP 0 rfl rfl 0 (by decide) (hts (.fieldLink RX6 35 "FaultIsolationModel" "thrown" "I") (by decide +kernel)) (fun _ h9 => h9) rfl dX6_cut_22 ?_
      refine lv_if_le (tgt := 30) hx hb dX6_cut_25 (by decide) (fun _ => ?_) (fun c_3 => absurd c_3 (by decide))
      refine lv_aload_n hx hb dX6_cut_30 rfl (lv_at hl 0 rfl) ?_
      refine lv_aload_n hx hb dX6_cut_31 rfl (lv_at hl 0 rfl) ?_
      refine va_get (D := g.1) (ci := 4) (v := .int (nI n)) (C := RX6) (T := TX6) (N := 17) hx hb hts iX6 hown hK hP 0 rfl rfl 2 (by decide) (hts (.fieldLink RX6 46 "FaultIsolationModel" "count" "I") (by decide +kernel)) (fun _ h9 => h9) rfl dX6_cut_32 ?_
      refine lv_iload_n hx hb dX6_cut_35 rfl (lv_at hl 1 rfl) ?_
      refine lv_isub hx hb dX6_cut_36 ?_
      refine lv_topi (fun y9 e9 => ?_)
      rw [show ((nI n) - p0 : Int32) = nI (n - p0.toNatClampNeg) from k_subc c_0 c_2 (by omega)] at e9
      subst e9
      refine va_put (D := g.1) (ci := 4) (v := .int (nI (n - p0.toNatClampNeg))) (ty := .int) (C := RX6) (T := TX6) (N := 17) hx hb hts iX6 tyX6 tyX6_ok nmX6 hown hK hP hD hS 0 rfl rfl 2 (by decide) (hts (.fieldLink RX6 46 "FaultIsolationModel" "count" "I") (by decide +kernel)) (fun _ h9 => h9) rfl (by decide +kernel) rfl rfl (Nat.le_of_ble_eq_true rfl) dX6_cut_37 (fun H locs hP hD hS => ?_)
      have hP : va_P g.1 vwCl [(hO, .inr (4, [.int 0, .int xB, .int (nI (n - p0.toNatClampNeg)), .ref qP, .int xP, .ref qN, .int xS, .ref qY, .ref qD, .int xA, .ref qR, .ref qM, .ref qT, .int xw, .int xa, .int xb, .int xc]))] H := hP
      have hD : va_D A [(hO, .inr (4, [.int 0, .int xB, .int (nI (n - p0.toNatClampNeg)), .ref qP, .int xP, .ref qN, .int xS, .ref qY, .ref qD, .int xA, .ref qR, .ref qM, .ref qT, .int xw, .int xa, .int xb, .int xc]))] := hD
      refine lv_aload_n hx hb dX6_cut_40 rfl (lv_at hl 0 rfl) ?_
      refine va_get (D := g.1) (ci := 4) (v := .int (nI (n - p0.toNatClampNeg))) (C := RX6) (T := TX6) (N := 17) hx hb hts iX6 hown hK hP 0 rfl rfl 2 (by decide) (hts (.fieldLink RX6 46 "FaultIsolationModel" "count" "I") (by decide +kernel)) (fun _ h9 => h9) rfl dX6_cut_41 ?_
      exact k_iret hx hb hr hlocks ⟨hK, hP, hD, hS, hA, hE, hN⟩ rfl dX6_cut_44 (Nat.le_of_ble_eq_true rfl) (Nat.le_of_ble_eq_true rfl) ⟨(by simp only [sp_X6_cut, sp_X6_cut_thrown, sp_X6_cut_count, if_neg c_0, if_pos c_2]), (by simp only [sp_X6_cut, sp_X6_cut_thrown, sp_X6_cut_count, if_neg c_0, if_pos c_2])⟩
    · skip
      refine lv_iconst (v := 1) hx hb dX6_cut_13 (by decide) ?_
      refine lv_goto (tgt := 18) hx hb dX6_cut_14 (by decide) ?_
      refine va_put (D := g.1) (ci := 4) (v := .int 1) (ty := .int) (C := RX6) (T := TX6) (N := 17) hx hb hts iX6 tyX6 tyX6_ok nmX6 hown hK hP hD hS 0 rfl rfl 0 (by decide) (hts (.fieldLink RX6 35 "FaultIsolationModel" "thrown" "I") (by decide +kernel)) (fun _ h9 => h9) rfl (by decide +kernel) rfl rfl (Nat.le_of_ble_eq_true rfl) dX6_cut_18 (fun H locs hP hD hS => ?_)
      have hP : va_P g.1 vwCl [(hO, .inr (4, [.int 1, .int xB, .int (nI n), .ref qP, .int xP, .ref qN, .int xS, .ref qY, .ref qD, .int xA, .ref qR, .ref qM, .ref qT, .int xw, .int xa, .int xb, .int xc]))] H := hP
      have hD : va_D A [(hO, .inr (4, [.int 1, .int xB, .int (nI n), .ref qP, .int xP, .ref qN, .int xS, .ref qY, .ref qD, .int xA, .ref qR, .ref qM, .ref qT, .int xw, .int xa, .int xb, .int xc]))] := hD
      refine lv_aload_n hx hb dX6_cut_21 rfl (lv_at hl 0 rfl) ?_
      refine va_get (D := g.1) (ci := 4) (v := .int 1) (C := RX6) (T := TX6) (N := 17) hx hb hts iX6 hown hK hP 0 rfl rfl 0 (by decide) (hts (.fieldLink RX6 35 "FaultIsolationModel" "thrown" "I") (by decide +kernel)) (fun _ h9 => h9) rfl dX6_cut_22 ?_
      refine lv_if_le (tgt := 30) hx hb dX6_cut_25 (by decide) (fun c_4 => absurd c_4 (by decide)) (fun _ => ?_)
      refine lv_iconst (v := 0) hx hb dX6_cut_28 (by decide) ?_
      exact k_iret hx hb hr hlocks ⟨hK, hP, hD, hS, hA, hE, hN⟩ rfl dX6_cut_29 (Nat.le_of_ble_eq_true rfl) (Nat.le_of_ble_eq_true rfl) ⟨(by simp only [sp_X6_cut, sp_X6_cut_thrown, sp_X6_cut_count, if_neg c_0, if_neg c_2]), (by simp only [sp_X6_cut, sp_X6_cut_thrown, sp_X6_cut_count, if_neg c_0, if_neg c_2])⟩
def sp_X6_place (gn : Nat → Int32) (k : Nat) (p0 : Int32) : Int32 := if p0 < 0 then 0 else (if p0 < (nI k) then (gn p0.toNatClampNeg) else 0)
def sp_X6_place_thrown (k : Nat) (p0 : Int32) : Int32 := if p0 < 0 then 1 else (if p0 < (nI k) then 0 else 1)
set_option maxHeartbeats 4000000 in
set_option maxRecDepth 100000 in
theorem c_X6_place (l : Launch) (g : KG) (hO : Nat) (qP : Nat) (qN : Nat) (qY : Nat) (qD : Nat) (qR : Nat) (qM : Nat) (qT : Nat) (gn : Nat → Int32) (xT : Int32) (xB : Int32) (xC : Int32) (k : Nat) (xS : Int32) (xA : Int32) (xw : Int32) (xa : Int32) (xb : Int32) (xc : Int32) (p0 : Int32) (hk : k ≤ 60) : Ci l g yX6_place wsX6_place ({ frames := 0, cells := 0, slots := 0, locals := 0 }) [.ref hO, .int p0] [(hO, .inr (4, [.int xT, .int xB, .int xC, .ref qP, .int (nI k), .ref qN, .int xS, .ref qY, .ref qD, .int xA, .ref qR, .ref qM, .ref qT, .int xw, .int xa, .int xb, .int xc])), (qN, .inl (g.2.1.1, 60, .inl gn))] (fun r u => r = sp_X6_place gn k p0 ∧ u = [(hO, .inr (4, [.int (sp_X6_place_thrown k p0), .int xB, .int xC, .ref qP, .int (nI k), .ref qN, .int xS, .ref qY, .ref qD, .int xA, .ref qR, .ref qM, .ref qT, .int xw, .int xa, .int xb, .int xc])), (qN, .inl (g.2.1.1, 60, .inl gn))]) 0 0 := by
  intro sz
  refine Met.ofW (cc := cX6_place) (maxL := 2) (ret := (some .int)) (by decide) rfl ?_
  intro p e s m args below meth c s₁ B hml hv
  obtain ⟨rfl, hsz, hP, hK, hD0, hE, hN⟩ := hv
  have hx := B.exec
  have hb := B.bytes
  have hr := B.returns
  have hts := atoms_spec (ws := wsX6_place) B.pre
  have hown : s.vm.findClass RX6 = some m.cls := findClass_of_methodNamed B.named
  have hlocks := B.notSynchronized
  have iX6 : ∀ w ∈ u_ws RX6 TX6 17, w ∈ wsX6_place := by decide +kernel
  subst hsz
  have hD := hD0.self (sz := s.heap.size)
  generalize hAe : va_A [(hO, .inr (4, [.int xT, .int xB, .int xC, .ref qP, .int (nI k), .ref qN, .int xS, .ref qY, .ref qD, .int xA, .ref qR, .ref qM, .ref qT, .int xw, .int xa, .int xb, .int xc])), (qN, .inl (g.2.1.1, 60, .inl gn))] s.heap.size = A at hD hE ⊢
  have hA : ∀ q : Nat, s.heap.size ≤ q → A q := fun q h => by rw [← hAe]; exact Or.inr h
  have hS : va_S A s.heap s.heap [] := va_S.rf
  have hl := lv_entry ([.ref hO, .int p0]) (n := 2) (Nat.le_of_ble_eq_true rfl)
  rw [lg_entry_eq]
  generalize (lg_sl ([.ref hO, .int p0]) ++ List.replicate (2 - (lg_sl ([.ref hO, .int p0])).length) Slot.unset).toArray = ls at hl ⊢
  have hl : lv_has ls 2 [(0, .ref hO), (1, .int p0)] := hl
  refine lv_aload_n hx hb dX6_place_0 rfl (lv_at hl 0 rfl) ?_
  refine lv_iload_n hx hb dX6_place_1 rfl (lv_at hl 1 rfl) ?_
  refine lv_if_lt (tgt := 13) hx hb dX6_place_2 (by decide) (fun c_0 => ?_) (fun c_0 => ?_)
  · skip
    refine lv_iconst (v := 1) hx hb dX6_place_13 (by decide) ?_
    refine lv_goto (tgt := 18) hx hb dX6_place_14 (by decide) ?_
    refine va_put (D := g.1) (ci := 4) (v := .int 1) (ty := .int) (C := RX6) (T := TX6) (N := 17) hx hb hts iX6 tyX6 tyX6_ok nmX6 hown hK hP hD hS 0 rfl rfl 0 (by decide) (hts (.fieldLink RX6 35 "FaultIsolationModel" "thrown" "I") (by decide +kernel)) (fun _ h9 => h9) rfl (by decide +kernel) rfl rfl (Nat.le_of_ble_eq_true rfl) dX6_place_18 (fun H locs hP hD hS => ?_)
    have hP : va_P g.1 vwCl [(hO, .inr (4, [.int 1, .int xB, .int xC, .ref qP, .int (nI k), .ref qN, .int xS, .ref qY, .ref qD, .int xA, .ref qR, .ref qM, .ref qT, .int xw, .int xa, .int xb, .int xc])), (qN, .inl (g.2.1.1, 60, .inl gn))] H := hP
    have hD : va_D A [(hO, .inr (4, [.int 1, .int xB, .int xC, .ref qP, .int (nI k), .ref qN, .int xS, .ref qY, .ref qD, .int xA, .ref qR, .ref qM, .ref qT, .int xw, .int xa, .int xb, .int xc])), (qN, .inl (g.2.1.1, 60, .inl gn))] := hD
    refine lv_aload_n hx hb dX6_place_21 rfl (lv_at hl 0 rfl) ?_
    refine va_get (D := g.1) (ci := 4) (v := .int 1) (C := RX6) (T := TX6) (N := 17) hx hb hts iX6 hown hK hP 0 rfl rfl 0 (by decide) (hts (.fieldLink RX6 35 "FaultIsolationModel" "thrown" "I") (by decide +kernel)) (fun _ h9 => h9) rfl dX6_place_22 ?_
    refine lv_if_le (tgt := 32) hx hb dX6_place_25 (by decide) (fun c_1 => absurd c_1 (by decide)) (fun _ => ?_)
    refine lv_iconst (v := 0) hx hb dX6_place_28 (by decide) ?_
    refine lv_goto (tgt := 38) hx hb dX6_place_29 (by decide) ?_
    exact k_iret hx hb hr hlocks ⟨hK, hP, hD, hS, hA, hE, hN⟩ rfl dX6_place_38 (Nat.le_of_ble_eq_true rfl) (Nat.le_of_ble_eq_true rfl) ⟨(by simp only [sp_X6_place, sp_X6_place_thrown, if_pos c_0]), (by simp only [sp_X6_place, sp_X6_place_thrown, if_pos c_0])⟩
  · skip
    refine lv_iload_n hx hb dX6_place_5 rfl (lv_at hl 1 rfl) ?_
    refine lv_aload_n hx hb dX6_place_6 rfl (lv_at hl 0 rfl) ?_
    refine va_get (D := g.1) (ci := 4) (v := .int (nI k)) (C := RX6) (T := TX6) (N := 17) hx hb hts iX6 hown hK hP 0 rfl rfl 4 (by decide) (hts (.fieldLink RX6 112 "FaultIsolationModel" "places" "I") (by decide +kernel)) (fun _ h9 => h9) rfl dX6_place_7 ?_
    refine lv_icmp_lt (tgt := 17) hx hb dX6_place_10 (by decide) (fun c_2 => ?_) (fun c_2 => ?_)
    · skip
      refine lv_iconst (v := 0) hx hb dX6_place_17 (by decide) ?_
      refine va_put (D := g.1) (ci := 4) (v := .int 0) (ty := .int) (C := RX6) (T := TX6) (N := 17) hx hb hts iX6 tyX6 tyX6_ok nmX6 hown hK hP hD hS 0 rfl rfl 0 (by decide) (hts (.fieldLink RX6 35 "FaultIsolationModel" "thrown" "I") (by decide +kernel)) (fun _ h9 => h9) rfl (by decide +kernel) rfl rfl (Nat.le_of_ble_eq_true rfl) dX6_place_18 (fun H locs hP hD hS => ?_)
      have hP : va_P g.1 vwCl [(hO, .inr (4, [.int 0, .int xB, .int xC, .ref qP, .int (nI k), .ref qN, .int xS, .ref qY, .ref qD, .int xA, .ref qR, .ref qM, .ref qT, .int xw, .int xa, .int xb, .int xc])), (qN, .inl (g.2.1.1, 60, .inl gn))] H := hP
      have hD : va_D A [(hO, .inr (4, [.int 0, .int xB, .int xC, .ref qP, .int (nI k), .ref qN, .int xS, .ref qY, .ref qD, .int xA, .ref qR, .ref qM, .ref qT, .int xw, .int xa, .int xb, .int xc])), (qN, .inl (g.2.1.1, 60, .inl gn))] := hD
      refine lv_aload_n hx hb dX6_place_21 rfl (lv_at hl 0 rfl) ?_
      refine va_get (D := g.1) (ci := 4) (v := .int 0) (C := RX6) (T := TX6) (N := 17) hx hb hts iX6 hown hK hP 0 rfl rfl 0 (by decide) (hts (.fieldLink RX6 35 "FaultIsolationModel" "thrown" "I") (by decide +kernel)) (fun _ h9 => h9) rfl dX6_place_22 ?_
      refine lv_if_le (tgt := 32) hx hb dX6_place_25 (by decide) (fun _ => ?_) (fun c_3 => absurd c_3 (by decide))
      refine lv_aload_n hx hb dX6_place_32 rfl (lv_at hl 0 rfl) ?_
      refine va_get (D := g.1) (ci := 4) (v := .ref qN) (C := RX6) (T := TX6) (N := 17) hx hb hts iX6 hown hK hP 0 rfl rfl 5 (by decide) (hts (.fieldLink RX6 13 "FaultIsolationModel" "newAddresses" "[I") (by decide +kernel)) (fun _ h9 => h9) rfl dX6_place_33 ?_
      refine lv_iload_n hx hb dX6_place_36 rfl (lv_at hl 1 rfl) ?_
      have zq_4 := k_clltT (n := k) c_0 c_2 (by omega)
      refine lv_topi (fun y9 e9 => ?_)
      rw [show (p0 : Int32) = nI (p0.toNatClampNeg) from k_cl1 c_0] at e9
      subst e9
      refine va_iald hx hb hK hP 1 0 rfl rfl (vp_in_nI (by omega) (by decide)) dX6_place_37 ?_
      refine lv_topi (fun y9 e9 => ?_)
      rw [show (gn (nI (p0.toNatClampNeg)).toNatClampNeg : Int32) = gn p0.toNatClampNeg from congrArg gn (nI_clamp (by omega))] at e9
      subst e9
      exact k_iret hx hb hr hlocks ⟨hK, hP, hD, hS, hA, hE, hN⟩ rfl dX6_place_38 (Nat.le_of_ble_eq_true rfl) (Nat.le_of_ble_eq_true rfl) ⟨(by simp only [sp_X6_place, sp_X6_place_thrown, if_neg c_0, if_pos c_2]), (by simp only [sp_X6_place, sp_X6_place_thrown, if_neg c_0, if_pos c_2])⟩
    · skip
      refine lv_iconst (v := 1) hx hb dX6_place_13 (by decide) ?_
      refine lv_goto (tgt := 18) hx hb dX6_place_14 (by decide) ?_
      refine va_put (D := g.1) (ci := 4) (v := .int 1) (ty := .int) (C := RX6) (T := TX6) (N := 17) hx hb hts iX6 tyX6 tyX6_ok nmX6 hown hK hP hD hS 0 rfl rfl 0 (by decide) (hts (.fieldLink RX6 35 "FaultIsolationModel" "thrown" "I") (by decide +kernel)) (fun _ h9 => h9) rfl (by decide +kernel) rfl rfl (Nat.le_of_ble_eq_true rfl) dX6_place_18 (fun H locs hP hD hS => ?_)
      have hP : va_P g.1 vwCl [(hO, .inr (4, [.int 1, .int xB, .int xC, .ref qP, .int (nI k), .ref qN, .int xS, .ref qY, .ref qD, .int xA, .ref qR, .ref qM, .ref qT, .int xw, .int xa, .int xb, .int xc])), (qN, .inl (g.2.1.1, 60, .inl gn))] H := hP
      have hD : va_D A [(hO, .inr (4, [.int 1, .int xB, .int xC, .ref qP, .int (nI k), .ref qN, .int xS, .ref qY, .ref qD, .int xA, .ref qR, .ref qM, .ref qT, .int xw, .int xa, .int xb, .int xc])), (qN, .inl (g.2.1.1, 60, .inl gn))] := hD
      refine lv_aload_n hx hb dX6_place_21 rfl (lv_at hl 0 rfl) ?_
      refine va_get (D := g.1) (ci := 4) (v := .int 1) (C := RX6) (T := TX6) (N := 17) hx hb hts iX6 hown hK hP 0 rfl rfl 0 (by decide) (hts (.fieldLink RX6 35 "FaultIsolationModel" "thrown" "I") (by decide +kernel)) (fun _ h9 => h9) rfl dX6_place_22 ?_
      refine lv_if_le (tgt := 32) hx hb dX6_place_25 (by decide) (fun c_5 => absurd c_5 (by decide)) (fun _ => ?_)
      refine lv_iconst (v := 0) hx hb dX6_place_28 (by decide) ?_
      refine lv_goto (tgt := 38) hx hb dX6_place_29 (by decide) ?_
      exact k_iret hx hb hr hlocks ⟨hK, hP, hD, hS, hA, hE, hN⟩ rfl dX6_place_38 (Nat.le_of_ble_eq_true rfl) (Nat.le_of_ble_eq_true rfl) ⟨(by simp only [sp_X6_place, sp_X6_place_thrown, if_neg c_0, if_neg c_2]), (by simp only [sp_X6_place, sp_X6_place_thrown, if_neg c_0, if_neg c_2])⟩
def sp_X6_byteAt (gb : Nat → Int32) (b : Nat) (p0 : Int32) : Int32 := if p0 < 0 then 0 else (if p0 < (nI (16 * b)) then (gb p0.toNatClampNeg) else 0)
def sp_X6_byteAt_thrown (b : Nat) (p0 : Int32) : Int32 := if p0 < 0 then 1 else (if p0 < (nI (16 * b)) then 0 else 1)
set_option maxHeartbeats 4000000 in
set_option maxRecDepth 100000 in
theorem c_X6_byteAt (l : Launch) (g : KG) (hO : Nat) (qP : Nat) (qN : Nat) (qY : Nat) (qD : Nat) (qR : Nat) (qM : Nat) (qT : Nat) (gb : Nat → Int32) (xT : Int32) (xB : Int32) (xC : Int32) (xP : Int32) (b : Nat) (xA : Int32) (xw : Int32) (xa : Int32) (xb : Int32) (xc : Int32) (p0 : Int32) (hbb : b ≤ 64) : Ci l g yX6_byteAt wsX6_byteAt ({ frames := 0, cells := 0, slots := 0, locals := 0 }) [.ref hO, .int p0] [(hO, .inr (4, [.int xT, .int xB, .int xC, .ref qP, .int xP, .ref qN, .int (nI (16 * b)), .ref qY, .ref qD, .int xA, .ref qR, .ref qM, .ref qT, .int xw, .int xa, .int xb, .int xc])), (qY, .inl (g.2.1.1, 1024, .inl gb))] (fun r u => r = sp_X6_byteAt gb b p0 ∧ u = [(hO, .inr (4, [.int (sp_X6_byteAt_thrown b p0), .int xB, .int xC, .ref qP, .int xP, .ref qN, .int (nI (16 * b)), .ref qY, .ref qD, .int xA, .ref qR, .ref qM, .ref qT, .int xw, .int xa, .int xb, .int xc])), (qY, .inl (g.2.1.1, 1024, .inl gb))]) 0 0 := by
  intro sz
  refine Met.ofW (cc := cX6_byteAt) (maxL := 2) (ret := (some .int)) (by decide) rfl ?_
  intro p e s m args below meth c s₁ B hml hv
  obtain ⟨rfl, hsz, hP, hK, hD0, hE, hN⟩ := hv
  have hx := B.exec
  have hb := B.bytes
  have hr := B.returns
  have hts := atoms_spec (ws := wsX6_byteAt) B.pre
  have hown : s.vm.findClass RX6 = some m.cls := findClass_of_methodNamed B.named
  have hlocks := B.notSynchronized
  have iX6 : ∀ w ∈ u_ws RX6 TX6 17, w ∈ wsX6_byteAt := by decide +kernel
  subst hsz
  have hD := hD0.self (sz := s.heap.size)
  generalize hAe : va_A [(hO, .inr (4, [.int xT, .int xB, .int xC, .ref qP, .int xP, .ref qN, .int (nI (16 * b)), .ref qY, .ref qD, .int xA, .ref qR, .ref qM, .ref qT, .int xw, .int xa, .int xb, .int xc])), (qY, .inl (g.2.1.1, 1024, .inl gb))] s.heap.size = A at hD hE ⊢
  have hA : ∀ q : Nat, s.heap.size ≤ q → A q := fun q h => by rw [← hAe]; exact Or.inr h
  have hS : va_S A s.heap s.heap [] := va_S.rf
  have hl := lv_entry ([.ref hO, .int p0]) (n := 2) (Nat.le_of_ble_eq_true rfl)
  rw [lg_entry_eq]
  generalize (lg_sl ([.ref hO, .int p0]) ++ List.replicate (2 - (lg_sl ([.ref hO, .int p0])).length) Slot.unset).toArray = ls at hl ⊢
  have hl : lv_has ls 2 [(0, .ref hO), (1, .int p0)] := hl
  refine lv_aload_n hx hb dX6_byteAt_0 rfl (lv_at hl 0 rfl) ?_
  refine lv_iload_n hx hb dX6_byteAt_1 rfl (lv_at hl 1 rfl) ?_
  refine lv_if_lt (tgt := 13) hx hb dX6_byteAt_2 (by decide) (fun c_0 => ?_) (fun c_0 => ?_)
  · skip
    refine lv_iconst (v := 1) hx hb dX6_byteAt_13 (by decide) ?_
    refine lv_goto (tgt := 18) hx hb dX6_byteAt_14 (by decide) ?_
    refine va_put (D := g.1) (ci := 4) (v := .int 1) (ty := .int) (C := RX6) (T := TX6) (N := 17) hx hb hts iX6 tyX6 tyX6_ok nmX6 hown hK hP hD hS 0 rfl rfl 0 (by decide) (hts (.fieldLink RX6 35 "FaultIsolationModel" "thrown" "I") (by decide +kernel)) (fun _ h9 => h9) rfl (by decide +kernel) rfl rfl (Nat.le_of_ble_eq_true rfl) dX6_byteAt_18 (fun H locs hP hD hS => ?_)
    have hP : va_P g.1 vwCl [(hO, .inr (4, [.int 1, .int xB, .int xC, .ref qP, .int xP, .ref qN, .int (nI (16 * b)), .ref qY, .ref qD, .int xA, .ref qR, .ref qM, .ref qT, .int xw, .int xa, .int xb, .int xc])), (qY, .inl (g.2.1.1, 1024, .inl gb))] H := hP
    have hD : va_D A [(hO, .inr (4, [.int 1, .int xB, .int xC, .ref qP, .int xP, .ref qN, .int (nI (16 * b)), .ref qY, .ref qD, .int xA, .ref qR, .ref qM, .ref qT, .int xw, .int xa, .int xb, .int xc])), (qY, .inl (g.2.1.1, 1024, .inl gb))] := hD
    refine lv_aload_n hx hb dX6_byteAt_21 rfl (lv_at hl 0 rfl) ?_
    refine va_get (D := g.1) (ci := 4) (v := .int 1) (C := RX6) (T := TX6) (N := 17) hx hb hts iX6 hown hK hP 0 rfl rfl 0 (by decide) (hts (.fieldLink RX6 35 "FaultIsolationModel" "thrown" "I") (by decide +kernel)) (fun _ h9 => h9) rfl dX6_byteAt_22 ?_
    refine lv_if_le (tgt := 32) hx hb dX6_byteAt_25 (by decide) (fun c_1 => absurd c_1 (by decide)) (fun _ => ?_)
    refine lv_iconst (v := 0) hx hb dX6_byteAt_28 (by decide) ?_
    refine lv_goto (tgt := 38) hx hb dX6_byteAt_29 (by decide) ?_
    exact k_iret hx hb hr hlocks ⟨hK, hP, hD, hS, hA, hE, hN⟩ rfl dX6_byteAt_38 (Nat.le_of_ble_eq_true rfl) (Nat.le_of_ble_eq_true rfl) ⟨(by simp only [sp_X6_byteAt, sp_X6_byteAt_thrown, if_pos c_0]), (by simp only [sp_X6_byteAt, sp_X6_byteAt_thrown, if_pos c_0])⟩
  · skip
    refine lv_iload_n hx hb dX6_byteAt_5 rfl (lv_at hl 1 rfl) ?_
    refine lv_aload_n hx hb dX6_byteAt_6 rfl (lv_at hl 0 rfl) ?_
    refine va_get (D := g.1) (ci := 4) (v := .int (nI (16 * b))) (C := RX6) (T := TX6) (N := 17) hx hb hts iX6 hown hK hP 0 rfl rfl 6 (by decide) (hts (.fieldLink RX6 109 "FaultIsolationModel" "size" "I") (by decide +kernel)) (fun _ h9 => h9) rfl dX6_byteAt_7 ?_
    refine lv_icmp_lt (tgt := 17) hx hb dX6_byteAt_10 (by decide) (fun c_2 => ?_) (fun c_2 => ?_)
    · skip
      refine lv_iconst (v := 0) hx hb dX6_byteAt_17 (by decide) ?_
      refine va_put (D := g.1) (ci := 4) (v := .int 0) (ty := .int) (C := RX6) (T := TX6) (N := 17) hx hb hts iX6 tyX6 tyX6_ok nmX6 hown hK hP hD hS 0 rfl rfl 0 (by decide) (hts (.fieldLink RX6 35 "FaultIsolationModel" "thrown" "I") (by decide +kernel)) (fun _ h9 => h9) rfl (by decide +kernel) rfl rfl (Nat.le_of_ble_eq_true rfl) dX6_byteAt_18 (fun H locs hP hD hS => ?_)
      have hP : va_P g.1 vwCl [(hO, .inr (4, [.int 0, .int xB, .int xC, .ref qP, .int xP, .ref qN, .int (nI (16 * b)), .ref qY, .ref qD, .int xA, .ref qR, .ref qM, .ref qT, .int xw, .int xa, .int xb, .int xc])), (qY, .inl (g.2.1.1, 1024, .inl gb))] H := hP
      have hD : va_D A [(hO, .inr (4, [.int 0, .int xB, .int xC, .ref qP, .int xP, .ref qN, .int (nI (16 * b)), .ref qY, .ref qD, .int xA, .ref qR, .ref qM, .ref qT, .int xw, .int xa, .int xb, .int xc])), (qY, .inl (g.2.1.1, 1024, .inl gb))] := hD
      refine lv_aload_n hx hb dX6_byteAt_21 rfl (lv_at hl 0 rfl) ?_
      refine va_get (D := g.1) (ci := 4) (v := .int 0) (C := RX6) (T := TX6) (N := 17) hx hb hts iX6 hown hK hP 0 rfl rfl 0 (by decide) (hts (.fieldLink RX6 35 "FaultIsolationModel" "thrown" "I") (by decide +kernel)) (fun _ h9 => h9) rfl dX6_byteAt_22 ?_
      refine lv_if_le (tgt := 32) hx hb dX6_byteAt_25 (by decide) (fun _ => ?_) (fun c_3 => absurd c_3 (by decide))
      refine lv_aload_n hx hb dX6_byteAt_32 rfl (lv_at hl 0 rfl) ?_
      refine va_get (D := g.1) (ci := 4) (v := .ref qY) (C := RX6) (T := TX6) (N := 17) hx hb hts iX6 hown hK hP 0 rfl rfl 7 (by decide) (hts (.fieldLink RX6 16 "FaultIsolationModel" "bytes" "[I") (by decide +kernel)) (fun _ h9 => h9) rfl dX6_byteAt_33 ?_
      refine lv_iload_n hx hb dX6_byteAt_36 rfl (lv_at hl 1 rfl) ?_
      have zq_4 := k_clltT (n := 16 * b) c_0 c_2 (by omega)
      refine lv_topi (fun y9 e9 => ?_)
      rw [show (p0 : Int32) = nI (p0.toNatClampNeg) from k_cl1 c_0] at e9
      subst e9
      refine va_iald hx hb hK hP 1 0 rfl rfl (vp_in_nI (by omega) (by decide)) dX6_byteAt_37 ?_
      refine lv_topi (fun y9 e9 => ?_)
      rw [show (gb (nI (p0.toNatClampNeg)).toNatClampNeg : Int32) = gb p0.toNatClampNeg from congrArg gb (nI_clamp (by omega))] at e9
      subst e9
      exact k_iret hx hb hr hlocks ⟨hK, hP, hD, hS, hA, hE, hN⟩ rfl dX6_byteAt_38 (Nat.le_of_ble_eq_true rfl) (Nat.le_of_ble_eq_true rfl) ⟨(by simp only [sp_X6_byteAt, sp_X6_byteAt_thrown, if_neg c_0, if_pos c_2]), (by simp only [sp_X6_byteAt, sp_X6_byteAt_thrown, if_neg c_0, if_pos c_2])⟩
    · skip
      refine lv_iconst (v := 1) hx hb dX6_byteAt_13 (by decide) ?_
      refine lv_goto (tgt := 18) hx hb dX6_byteAt_14 (by decide) ?_
      refine va_put (D := g.1) (ci := 4) (v := .int 1) (ty := .int) (C := RX6) (T := TX6) (N := 17) hx hb hts iX6 tyX6 tyX6_ok nmX6 hown hK hP hD hS 0 rfl rfl 0 (by decide) (hts (.fieldLink RX6 35 "FaultIsolationModel" "thrown" "I") (by decide +kernel)) (fun _ h9 => h9) rfl (by decide +kernel) rfl rfl (Nat.le_of_ble_eq_true rfl) dX6_byteAt_18 (fun H locs hP hD hS => ?_)
      have hP : va_P g.1 vwCl [(hO, .inr (4, [.int 1, .int xB, .int xC, .ref qP, .int xP, .ref qN, .int (nI (16 * b)), .ref qY, .ref qD, .int xA, .ref qR, .ref qM, .ref qT, .int xw, .int xa, .int xb, .int xc])), (qY, .inl (g.2.1.1, 1024, .inl gb))] H := hP
      have hD : va_D A [(hO, .inr (4, [.int 1, .int xB, .int xC, .ref qP, .int xP, .ref qN, .int (nI (16 * b)), .ref qY, .ref qD, .int xA, .ref qR, .ref qM, .ref qT, .int xw, .int xa, .int xb, .int xc])), (qY, .inl (g.2.1.1, 1024, .inl gb))] := hD
      refine lv_aload_n hx hb dX6_byteAt_21 rfl (lv_at hl 0 rfl) ?_
      refine va_get (D := g.1) (ci := 4) (v := .int 1) (C := RX6) (T := TX6) (N := 17) hx hb hts iX6 hown hK hP 0 rfl rfl 0 (by decide) (hts (.fieldLink RX6 35 "FaultIsolationModel" "thrown" "I") (by decide +kernel)) (fun _ h9 => h9) rfl dX6_byteAt_22 ?_
      refine lv_if_le (tgt := 32) hx hb dX6_byteAt_25 (by decide) (fun c_5 => absurd c_5 (by decide)) (fun _ => ?_)
      refine lv_iconst (v := 0) hx hb dX6_byteAt_28 (by decide) ?_
      refine lv_goto (tgt := 38) hx hb dX6_byteAt_29 (by decide) ?_
      exact k_iret hx hb hr hlocks ⟨hK, hP, hD, hS, hA, hE, hN⟩ rfl dX6_byteAt_38 (Nat.le_of_ble_eq_true rfl) (Nat.le_of_ble_eq_true rfl) ⟨(by simp only [sp_X6_byteAt, sp_X6_byteAt_thrown, if_neg c_0, if_neg c_2]), (by simp only [sp_X6_byteAt, sp_X6_byteAt_thrown, if_neg c_0, if_neg c_2])⟩
def sp_X6_poke (gb : Nat → Int32) (b : Nat) (p0 : Int32) (v0 : Int32) : Int32 := if p0 < 0 then 0 else (if (nI (16 * b)) ≤ p0 then 0 else (if (sp_X6_isByte v0) = 0 then 0 else (gb p0.toNatClampNeg)))
def sp_X6_poke_thrown (b : Nat) (p0 : Int32) (v0 : Int32) : Int32 := if p0 < 0 then 1 else (if (nI (16 * b)) ≤ p0 then 1 else (if (sp_X6_isByte v0) = 0 then 1 else 0))
def sp_X6_poke_bytes (gb : Nat → Int32) (b : Nat) (p0 : Int32) (v0 : Int32) : Nat → Int32 := if p0 < 0 then gb else (if (nI (16 * b)) ≤ p0 then gb else (if (sp_X6_isByte v0) = 0 then gb else (upd gb p0.toNatClampNeg v0)))
set_option maxHeartbeats 4000000 in
set_option maxRecDepth 100000 in
theorem c_X6_poke (l : Launch) (g : KG) (hO : Nat) (qP : Nat) (qN : Nat) (qY : Nat) (qD : Nat) (qR : Nat) (qM : Nat) (qT : Nat) (gb : Nat → Int32) (xT : Int32) (xB : Int32) (xC : Int32) (xP : Int32) (b : Nat) (xA : Int32) (xw : Int32) (xa : Int32) (xb : Int32) (xc : Int32) (p0 : Int32) (v0 : Int32) (hbb : b ≤ 64) : Ci l g yX6_poke wsX6_poke ({ frames := 1, cells := 0, slots := 0, locals := 20 }) [.ref hO, .int p0, .int v0] [(hO, .inr (4, [.int xT, .int xB, .int xC, .ref qP, .int xP, .ref qN, .int (nI (16 * b)), .ref qY, .ref qD, .int xA, .ref qR, .ref qM, .ref qT, .int xw, .int xa, .int xb, .int xc])), (qY, .inl (g.2.1.1, 1024, .inl gb))] (fun r u => r = sp_X6_poke gb b p0 v0 ∧ u = [(hO, .inr (4, [.int (sp_X6_poke_thrown b p0 v0), .int xB, .int xC, .ref qP, .int xP, .ref qN, .int (nI (16 * b)), .ref qY, .ref qD, .int xA, .ref qR, .ref qM, .ref qT, .int xw, .int xa, .int xb, .int xc])), (qY, .inl (g.2.1.1, 1024, .inl (sp_X6_poke_bytes gb b p0 v0)))]) 0 0 := by
  intro sz
  refine Met.ofW (cc := cX6_poke) (maxL := 4) (ret := (some .int)) (by decide) rfl ?_
  intro p e s m args below meth c s₁ B hml hv
  obtain ⟨rfl, hsz, hP, hK, hD0, hE, hN⟩ := hv
  have hx := B.exec
  have hb := B.bytes
  have hr := B.returns
  have hts := atoms_spec (ws := wsX6_poke) B.pre
  have hown : s.vm.findClass RX6 = some m.cls := findClass_of_methodNamed B.named
  have hlocks := B.notSynchronized
  have iX6 : ∀ w ∈ u_ws RX6 TX6 17, w ∈ wsX6_poke := by decide +kernel
  subst hsz
  have hD := hD0.self (sz := s.heap.size)
  generalize hAe : va_A [(hO, .inr (4, [.int xT, .int xB, .int xC, .ref qP, .int xP, .ref qN, .int (nI (16 * b)), .ref qY, .ref qD, .int xA, .ref qR, .ref qM, .ref qT, .int xw, .int xa, .int xb, .int xc])), (qY, .inl (g.2.1.1, 1024, .inl gb))] s.heap.size = A at hD hE ⊢
  have hA : ∀ q : Nat, s.heap.size ≤ q → A q := fun q h => by rw [← hAe]; exact Or.inr h
  have hS : va_S A s.heap s.heap [] := va_S.rf
  have hl := lv_entry ([.ref hO, .int p0, .int v0]) (n := 4) (Nat.le_of_ble_eq_true rfl)
  rw [lg_entry_eq]
  generalize (lg_sl ([.ref hO, .int p0, .int v0]) ++ List.replicate (4 - (lg_sl ([.ref hO, .int p0, .int v0])).length) Slot.unset).toArray = ls at hl ⊢
  have hl : lv_has ls 4 [(0, .ref hO), (1, .int p0), (2, .int v0)] := hl
  refine lv_aload_n hx hb dX6_poke_0 rfl (lv_at hl 0 rfl) ?_
  refine lv_iload_n hx hb dX6_poke_1 rfl (lv_at hl 1 rfl) ?_
  refine lv_if_lt (tgt := 20) hx hb dX6_poke_2 (by decide) (fun c_0 => ?_) (fun c_0 => ?_)
  · skip
    refine lv_iconst (v := 1) hx hb dX6_poke_20 (by decide) ?_
    refine lv_goto (tgt := 25) hx hb dX6_poke_21 (by decide) ?_
    refine va_put (D := g.1) (ci := 4) (v := .int 1) (ty := .int) (C := RX6) (T := TX6) (N := 17) hx hb hts iX6 tyX6 tyX6_ok nmX6 hown hK hP hD hS 0 rfl rfl 0 (by decide) (hts (.fieldLink RX6 35 "FaultIsolationModel" "thrown" "I") (by decide +kernel)) (fun _ h9 => h9) rfl (by decide +kernel) rfl rfl (Nat.le_of_ble_eq_true rfl) dX6_poke_25 (fun H locs hP hD hS => ?_)
    have hP : va_P g.1 vwCl [(hO, .inr (4, [.int 1, .int xB, .int xC, .ref qP, .int xP, .ref qN, .int (nI (16 * b)), .ref qY, .ref qD, .int xA, .ref qR, .ref qM, .ref qT, .int xw, .int xa, .int xb, .int xc])), (qY, .inl (g.2.1.1, 1024, .inl gb))] H := hP
    have hD : va_D A [(hO, .inr (4, [.int 1, .int xB, .int xC, .ref qP, .int xP, .ref qN, .int (nI (16 * b)), .ref qY, .ref qD, .int xA, .ref qR, .ref qM, .ref qT, .int xw, .int xa, .int xb, .int xc])), (qY, .inl (g.2.1.1, 1024, .inl gb))] := hD
    refine lv_aload_n hx hb dX6_poke_28 rfl (lv_at hl 0 rfl) ?_
    refine va_get (D := g.1) (ci := 4) (v := .int 1) (C := RX6) (T := TX6) (N := 17) hx hb hts iX6 hown hK hP 0 rfl rfl 0 (by decide) (hts (.fieldLink RX6 35 "FaultIsolationModel" "thrown" "I") (by decide +kernel)) (fun _ h9 => h9) rfl dX6_poke_29 ?_
    refine lv_if_le (tgt := 37) hx hb dX6_poke_32 (by decide) (fun c_1 => absurd c_1 (by decide)) (fun _ => ?_)
    refine lv_iconst (v := 0) hx hb dX6_poke_35 (by decide) ?_
    exact k_iret hx hb hr hlocks ⟨hK, hP, hD, hS, hA, hE, hN⟩ rfl dX6_poke_36 (Nat.le_of_ble_eq_true rfl) (Nat.le_of_ble_eq_true rfl) ⟨(by simp only [sp_X6_poke, sp_X6_poke_thrown, sp_X6_poke_bytes, if_pos c_0]), (by simp only [sp_X6_poke, sp_X6_poke_thrown, sp_X6_poke_bytes, if_pos c_0])⟩
  · skip
    refine lv_iload_n hx hb dX6_poke_5 rfl (lv_at hl 1 rfl) ?_
    refine lv_aload_n hx hb dX6_poke_6 rfl (lv_at hl 0 rfl) ?_
    refine va_get (D := g.1) (ci := 4) (v := .int (nI (16 * b))) (C := RX6) (T := TX6) (N := 17) hx hb hts iX6 hown hK hP 0 rfl rfl 6 (by decide) (hts (.fieldLink RX6 109 "FaultIsolationModel" "size" "I") (by decide +kernel)) (fun _ h9 => h9) rfl dX6_poke_7 ?_
    refine lv_icmp_ge (tgt := 20) hx hb dX6_poke_10 (by decide) (fun c_2 => ?_) (fun c_2 => ?_)
    · skip
      refine lv_iconst (v := 1) hx hb dX6_poke_20 (by decide) ?_
      refine lv_goto (tgt := 25) hx hb dX6_poke_21 (by decide) ?_
      refine va_put (D := g.1) (ci := 4) (v := .int 1) (ty := .int) (C := RX6) (T := TX6) (N := 17) hx hb hts iX6 tyX6 tyX6_ok nmX6 hown hK hP hD hS 0 rfl rfl 0 (by decide) (hts (.fieldLink RX6 35 "FaultIsolationModel" "thrown" "I") (by decide +kernel)) (fun _ h9 => h9) rfl (by decide +kernel) rfl rfl (Nat.le_of_ble_eq_true rfl) dX6_poke_25 (fun H locs hP hD hS => ?_)
      have hP : va_P g.1 vwCl [(hO, .inr (4, [.int 1, .int xB, .int xC, .ref qP, .int xP, .ref qN, .int (nI (16 * b)), .ref qY, .ref qD, .int xA, .ref qR, .ref qM, .ref qT, .int xw, .int xa, .int xb, .int xc])), (qY, .inl (g.2.1.1, 1024, .inl gb))] H := hP
      have hD : va_D A [(hO, .inr (4, [.int 1, .int xB, .int xC, .ref qP, .int xP, .ref qN, .int (nI (16 * b)), .ref qY, .ref qD, .int xA, .ref qR, .ref qM, .ref qT, .int xw, .int xa, .int xb, .int xc])), (qY, .inl (g.2.1.1, 1024, .inl gb))] := hD
      refine lv_aload_n hx hb dX6_poke_28 rfl (lv_at hl 0 rfl) ?_
      refine va_get (D := g.1) (ci := 4) (v := .int 1) (C := RX6) (T := TX6) (N := 17) hx hb hts iX6 hown hK hP 0 rfl rfl 0 (by decide) (hts (.fieldLink RX6 35 "FaultIsolationModel" "thrown" "I") (by decide +kernel)) (fun _ h9 => h9) rfl dX6_poke_29 ?_
      refine lv_if_le (tgt := 37) hx hb dX6_poke_32 (by decide) (fun c_3 => absurd c_3 (by decide)) (fun _ => ?_)
      refine lv_iconst (v := 0) hx hb dX6_poke_35 (by decide) ?_
      exact k_iret hx hb hr hlocks ⟨hK, hP, hD, hS, hA, hE, hN⟩ rfl dX6_poke_36 (Nat.le_of_ble_eq_true rfl) (Nat.le_of_ble_eq_true rfl) ⟨(by simp only [sp_X6_poke, sp_X6_poke_thrown, sp_X6_poke_bytes, if_neg c_0, if_pos c_2]), (by simp only [sp_X6_poke, sp_X6_poke_thrown, sp_X6_poke_bytes, if_neg c_0, if_pos c_2])⟩
    · skip
      refine lv_iload_n hx hb dX6_poke_13 rfl (lv_at hl 2 rfl) ?_
      refine kiS (As := [.int v0]) (rest := [.ref hO]) (wc := []) (wr := [(hO, .inr (4, [.int xT, .int xB, .int xC, .ref qP, .int xP, .ref qN, .int (nI (16 * b)), .ref qY, .ref qD, .int xA, .ref qR, .ref qM, .ref qT, .int xw, .int xa, .int xb, .int xc])), (qY, .inl (g.2.1.1, 1024, .inl gb))]) ⟨hx, hb, hml, hown, hts⟩ (c_X6_isByte l g v0) (va_cwS 1 hts gX6_poke_X6_isByte rfl rfl rfl (by decide +kernel) ⟨Nat.le_of_ble_eq_true rfl, Nat.le_of_ble_eq_true rfl⟩) ⟨hK, hP, hD, hS, hA, hE, hN⟩ [] [0, 1] ⟨rfl, rfl, by decide⟩ rfl hl.1 (Nat.le_of_ble_eq_true rfl) dX6_poke_14 ⟨Nat.le_of_ble_eq_true rfl, Nat.le_of_ble_eq_true rfl⟩ rfl (fun r u H locs hw hP hD hS => ?_)
      obtain ⟨hq, hw⟩ := hw
      subst r
      subst hw
      have hP := hP.sub (ws' := [(hO, .inr (4, [.int xT, .int xB, .int xC, .ref qP, .int xP, .ref qN, .int (nI (16 * b)), .ref qY, .ref qD, .int xA, .ref qR, .ref qM, .ref qT, .int xw, .int xa, .int xb, .int xc])), (qY, .inl (g.2.1.1, 1024, .inl gb))]) [0, 1] rfl
      have hD := hD.sub (ws' := [(hO, .inr (4, [.int xT, .int xB, .int xC, .ref qP, .int xP, .ref qN, .int (nI (16 * b)), .ref qY, .ref qD, .int xA, .ref qR, .ref qM, .ref qT, .int xw, .int xa, .int xb, .int xc])), (qY, .inl (g.2.1.1, 1024, .inl gb))]) [0, 1] (by decide) rfl
      refine lv_if_ne (tgt := 24) hx hb dX6_poke_17 (by decide) (fun c_4 => ?_) (fun c_4 => ?_)
      · skip
        refine lv_iconst (v := 0) hx hb dX6_poke_24 (by decide) ?_
        refine va_put (D := g.1) (ci := 4) (v := .int 0) (ty := .int) (C := RX6) (T := TX6) (N := 17) hx hb hts iX6 tyX6 tyX6_ok nmX6 hown hK hP hD hS 0 rfl rfl 0 (by decide) (hts (.fieldLink RX6 35 "FaultIsolationModel" "thrown" "I") (by decide +kernel)) (fun _ h9 => h9) rfl (by decide +kernel) rfl rfl (Nat.le_of_ble_eq_true rfl) dX6_poke_25 (fun H locs hP hD hS => ?_)
        have hP : va_P g.1 vwCl [(hO, .inr (4, [.int 0, .int xB, .int xC, .ref qP, .int xP, .ref qN, .int (nI (16 * b)), .ref qY, .ref qD, .int xA, .ref qR, .ref qM, .ref qT, .int xw, .int xa, .int xb, .int xc])), (qY, .inl (g.2.1.1, 1024, .inl gb))] H := hP
        have hD : va_D A [(hO, .inr (4, [.int 0, .int xB, .int xC, .ref qP, .int xP, .ref qN, .int (nI (16 * b)), .ref qY, .ref qD, .int xA, .ref qR, .ref qM, .ref qT, .int xw, .int xa, .int xb, .int xc])), (qY, .inl (g.2.1.1, 1024, .inl gb))] := hD
        refine lv_aload_n hx hb dX6_poke_28 rfl (lv_at hl 0 rfl) ?_
        refine va_get (D := g.1) (ci := 4) (v := .int 0) (C := RX6) (T := TX6) (N := 17) hx hb hts iX6 hown hK hP 0 rfl rfl 0 (by decide) (hts (.fieldLink RX6 35 "FaultIsolationModel" "thrown" "I") (by decide +kernel)) (fun _ h9 => h9) rfl dX6_poke_29 ?_
        refine lv_if_le (tgt := 37) hx hb dX6_poke_32 (by decide) (fun _ => ?_) (fun c_5 => absurd c_5 (by decide))
        refine lv_aload_n hx hb dX6_poke_37 rfl (lv_at hl 0 rfl) ?_
        refine va_get (D := g.1) (ci := 4) (v := .ref qY) (C := RX6) (T := TX6) (N := 17) hx hb hts iX6 hown hK hP 0 rfl rfl 7 (by decide) (hts (.fieldLink RX6 16 "FaultIsolationModel" "bytes" "[I") (by decide +kernel)) (fun _ h9 => h9) rfl dX6_poke_38 ?_
        refine lv_iload_n hx hb dX6_poke_41 rfl (lv_at hl 1 rfl) ?_
        have zq_6 := k_clt (n := 16 * b) c_0 c_2 (by omega)
        refine lv_topi (fun y9 e9 => ?_)
        rw [show (p0 : Int32) = nI (p0.toNatClampNeg) from k_cl1 c_0] at e9
        subst e9
        refine va_iald hx hb hK hP 1 0 rfl rfl (vp_in_nI (by omega) (by decide)) dX6_poke_42 ?_
        refine lv_topi (fun y9 e9 => ?_)
        rw [show (gb (nI (p0.toNatClampNeg)).toNatClampNeg : Int32) = gb p0.toNatClampNeg from congrArg gb (nI_clamp (by omega))] at e9
        subst e9
        refine lv_istore_n (lv' := [(3, .int (gb p0.toNatClampNeg)), (0, .ref hO), (1, .int p0), (2, .int v0)]) hx hb dX6_poke_43 rfl hl (by decide) rfl (fun ls hl => ?_)
        refine lv_aload_n hx hb dX6_poke_44 rfl (lv_at hl 1 rfl) ?_
        refine va_get (D := g.1) (ci := 4) (v := .ref qY) (C := RX6) (T := TX6) (N := 17) hx hb hts iX6 hown hK hP 0 rfl rfl 7 (by decide) (hts (.fieldLink RX6 16 "FaultIsolationModel" "bytes" "[I") (by decide +kernel)) (fun _ h9 => h9) rfl dX6_poke_45 ?_
        refine lv_iload_n hx hb dX6_poke_48 rfl (lv_at hl 2 rfl) ?_
        have zq_7 := k_clt (n := 16 * b) c_0 c_2 (by omega)
        refine lv_topi (fun y9 e9 => ?_)
        rw [show (p0 : Int32) = nI (p0.toNatClampNeg) from k_cl1 c_0] at e9
        subst e9
        refine lv_iload_n hx hb dX6_poke_49 rfl (lv_at hl 3 rfl) ?_
        refine va_iast hx hb hK hP hD hS 1 0 rfl rfl (vp_in_nI (by omega) (by decide)) dX6_poke_50 (fun H locs hP hD hS => ?_)
        rw [nI_clamp (show p0.toNatClampNeg < 2 ^ 31 by omega)] at hP hD
        have hP : va_P g.1 vwCl [(hO, .inr (4, [.int 0, .int xB, .int xC, .ref qP, .int xP, .ref qN, .int (nI (16 * b)), .ref qY, .ref qD, .int xA, .ref qR, .ref qM, .ref qT, .int xw, .int xa, .int xb, .int xc])), (qY, .inl (g.2.1.1, 1024, .inl (upd gb p0.toNatClampNeg v0)))] H := hP
        have hD : va_D A [(hO, .inr (4, [.int 0, .int xB, .int xC, .ref qP, .int xP, .ref qN, .int (nI (16 * b)), .ref qY, .ref qD, .int xA, .ref qR, .ref qM, .ref qT, .int xw, .int xa, .int xb, .int xc])), (qY, .inl (g.2.1.1, 1024, .inl (upd gb p0.toNatClampNeg v0)))] := hD
        refine lv_iload_n hx hb dX6_poke_51 rfl (lv_at hl 0 rfl) ?_
        exact k_iret hx hb hr hlocks ⟨hK, hP, hD, hS, hA, hE, hN⟩ rfl dX6_poke_52 (Nat.le_of_ble_eq_true rfl) (Nat.le_of_ble_eq_true rfl) ⟨(by simp only [sp_X6_poke, sp_X6_poke_thrown, sp_X6_poke_bytes, if_neg c_0, if_neg c_2, if_neg c_4]), (by simp only [sp_X6_poke, sp_X6_poke_thrown, sp_X6_poke_bytes, if_neg c_0, if_neg c_2, if_neg c_4])⟩
      · skip
        refine lv_iconst (v := 1) hx hb dX6_poke_20 (by decide) ?_
        refine lv_goto (tgt := 25) hx hb dX6_poke_21 (by decide) ?_
        refine va_put (D := g.1) (ci := 4) (v := .int 1) (ty := .int) (C := RX6) (T := TX6) (N := 17) hx hb hts iX6 tyX6 tyX6_ok nmX6 hown hK hP hD hS 0 rfl rfl 0 (by decide) (hts (.fieldLink RX6 35 "FaultIsolationModel" "thrown" "I") (by decide +kernel)) (fun _ h9 => h9) rfl (by decide +kernel) rfl rfl (Nat.le_of_ble_eq_true rfl) dX6_poke_25 (fun H locs hP hD hS => ?_)
        have hP : va_P g.1 vwCl [(hO, .inr (4, [.int 1, .int xB, .int xC, .ref qP, .int xP, .ref qN, .int (nI (16 * b)), .ref qY, .ref qD, .int xA, .ref qR, .ref qM, .ref qT, .int xw, .int xa, .int xb, .int xc])), (qY, .inl (g.2.1.1, 1024, .inl gb))] H := hP
        have hD : va_D A [(hO, .inr (4, [.int 1, .int xB, .int xC, .ref qP, .int xP, .ref qN, .int (nI (16 * b)), .ref qY, .ref qD, .int xA, .ref qR, .ref qM, .ref qT, .int xw, .int xa, .int xb, .int xc])), (qY, .inl (g.2.1.1, 1024, .inl gb))] := hD
        refine lv_aload_n hx hb dX6_poke_28 rfl (lv_at hl 0 rfl) ?_
        refine va_get (D := g.1) (ci := 4) (v := .int 1) (C := RX6) (T := TX6) (N := 17) hx hb hts iX6 hown hK hP 0 rfl rfl 0 (by decide) (hts (.fieldLink RX6 35 "FaultIsolationModel" "thrown" "I") (by decide +kernel)) (fun _ h9 => h9) rfl dX6_poke_29 ?_
        refine lv_if_le (tgt := 37) hx hb dX6_poke_32 (by decide) (fun c_8 => absurd c_8 (by decide)) (fun _ => ?_)
        refine lv_iconst (v := 0) hx hb dX6_poke_35 (by decide) ?_
        exact k_iret hx hb hr hlocks ⟨hK, hP, hD, hS, hA, hE, hN⟩ rfl dX6_poke_36 (Nat.le_of_ble_eq_true rfl) (Nat.le_of_ble_eq_true rfl) ⟨(by simp only [sp_X6_poke, sp_X6_poke_thrown, sp_X6_poke_bytes, if_neg c_0, if_neg c_2, if_pos c_4]), (by simp only [sp_X6_poke, sp_X6_poke_thrown, sp_X6_poke_bytes, if_neg c_0, if_neg c_2, if_pos c_4])⟩
def sp_X6_register (gr : Nat → Int32) (r0 : Int32) : Int32 := if r0 < 0 then 0 else (if r0 ≤ 7 then (gr r0.toNatClampNeg) else 0)
def sp_X6_register_thrown (r0 : Int32) : Int32 := if r0 < 0 then 1 else (if r0 ≤ 7 then 0 else 1)
def sp_X6_register_registers (gr : Nat → Int32) (r0 : Int32) (v0 : Int32) : Nat → Int32 := if r0 < 0 then gr else (if r0 ≤ 7 then (upd gr r0.toNatClampNeg v0) else gr)
set_option maxHeartbeats 4000000 in
set_option maxRecDepth 100000 in
theorem c_X6_register (l : Launch) (g : KG) (hO : Nat) (qP : Nat) (qN : Nat) (qY : Nat) (qD : Nat) (qR : Nat) (qM : Nat) (qT : Nat) (gr : Nat → Int32) (xT : Int32) (xB : Int32) (xC : Int32) (xP : Int32) (xS : Int32) (xA : Int32) (xw : Int32) (xa : Int32) (xb : Int32) (xc : Int32) (r0 : Int32) (v0 : Int32)  : Ci l g yX6_register wsX6_register ({ frames := 0, cells := 0, slots := 0, locals := 0 }) [.ref hO, .int r0, .int v0] [(hO, .inr (4, [.int xT, .int xB, .int xC, .ref qP, .int xP, .ref qN, .int xS, .ref qY, .ref qD, .int xA, .ref qR, .ref qM, .ref qT, .int xw, .int xa, .int xb, .int xc])), (qR, .inl (g.2.1.1, 8, .inl gr))] (fun r u => r = sp_X6_register gr r0 ∧ u = [(hO, .inr (4, [.int (sp_X6_register_thrown r0), .int xB, .int xC, .ref qP, .int xP, .ref qN, .int xS, .ref qY, .ref qD, .int xA, .ref qR, .ref qM, .ref qT, .int xw, .int xa, .int xb, .int xc])), (qR, .inl (g.2.1.1, 8, .inl (sp_X6_register_registers gr r0 v0)))]) 0 0 := by
  intro sz
  refine Met.ofW (cc := cX6_register) (maxL := 4) (ret := (some .int)) (by decide) rfl ?_
  intro p e s m args below meth c s₁ B hml hv
  obtain ⟨rfl, hsz, hP, hK, hD0, hE, hN⟩ := hv
  have hx := B.exec
  have hb := B.bytes
  have hr := B.returns
  have hts := atoms_spec (ws := wsX6_register) B.pre
  have hown : s.vm.findClass RX6 = some m.cls := findClass_of_methodNamed B.named
  have hlocks := B.notSynchronized
  have iX6 : ∀ w ∈ u_ws RX6 TX6 17, w ∈ wsX6_register := by decide +kernel
  subst hsz
  have hD := hD0.self (sz := s.heap.size)
  generalize hAe : va_A [(hO, .inr (4, [.int xT, .int xB, .int xC, .ref qP, .int xP, .ref qN, .int xS, .ref qY, .ref qD, .int xA, .ref qR, .ref qM, .ref qT, .int xw, .int xa, .int xb, .int xc])), (qR, .inl (g.2.1.1, 8, .inl gr))] s.heap.size = A at hD hE ⊢
  have hA : ∀ q : Nat, s.heap.size ≤ q → A q := fun q h => by rw [← hAe]; exact Or.inr h
  have hS : va_S A s.heap s.heap [] := va_S.rf
  have hl := lv_entry ([.ref hO, .int r0, .int v0]) (n := 4) (Nat.le_of_ble_eq_true rfl)
  rw [lg_entry_eq]
  generalize (lg_sl ([.ref hO, .int r0, .int v0]) ++ List.replicate (4 - (lg_sl ([.ref hO, .int r0, .int v0])).length) Slot.unset).toArray = ls at hl ⊢
  have hl : lv_has ls 4 [(0, .ref hO), (1, .int r0), (2, .int v0)] := hl
  refine lv_aload_n hx hb dX6_register_0 rfl (lv_at hl 0 rfl) ?_
  refine lv_iload_n hx hb dX6_register_1 rfl (lv_at hl 1 rfl) ?_
  refine lv_if_lt (tgt := 11) hx hb dX6_register_2 (by decide) (fun c_0 => ?_) (fun c_0 => ?_)
  · skip
    refine lv_iconst (v := 1) hx hb dX6_register_11 (by decide) ?_
    refine lv_goto (tgt := 16) hx hb dX6_register_12 (by decide) ?_
    refine va_put (D := g.1) (ci := 4) (v := .int 1) (ty := .int) (C := RX6) (T := TX6) (N := 17) hx hb hts iX6 tyX6 tyX6_ok nmX6 hown hK hP hD hS 0 rfl rfl 0 (by decide) (hts (.fieldLink RX6 35 "FaultIsolationModel" "thrown" "I") (by decide +kernel)) (fun _ h9 => h9) rfl (by decide +kernel) rfl rfl (Nat.le_of_ble_eq_true rfl) dX6_register_16 (fun H locs hP hD hS => ?_)
    have hP : va_P g.1 vwCl [(hO, .inr (4, [.int 1, .int xB, .int xC, .ref qP, .int xP, .ref qN, .int xS, .ref qY, .ref qD, .int xA, .ref qR, .ref qM, .ref qT, .int xw, .int xa, .int xb, .int xc])), (qR, .inl (g.2.1.1, 8, .inl gr))] H := hP
    have hD : va_D A [(hO, .inr (4, [.int 1, .int xB, .int xC, .ref qP, .int xP, .ref qN, .int xS, .ref qY, .ref qD, .int xA, .ref qR, .ref qM, .ref qT, .int xw, .int xa, .int xb, .int xc])), (qR, .inl (g.2.1.1, 8, .inl gr))] := hD
    refine lv_aload_n hx hb dX6_register_19 rfl (lv_at hl 0 rfl) ?_
    refine va_get (D := g.1) (ci := 4) (v := .int 1) (C := RX6) (T := TX6) (N := 17) hx hb hts iX6 hown hK hP 0 rfl rfl 0 (by decide) (hts (.fieldLink RX6 35 "FaultIsolationModel" "thrown" "I") (by decide +kernel)) (fun _ h9 => h9) rfl dX6_register_20 ?_
    refine lv_if_le (tgt := 28) hx hb dX6_register_23 (by decide) (fun c_1 => absurd c_1 (by decide)) (fun _ => ?_)
    refine lv_iconst (v := 0) hx hb dX6_register_26 (by decide) ?_
    exact k_iret hx hb hr hlocks ⟨hK, hP, hD, hS, hA, hE, hN⟩ rfl dX6_register_27 (Nat.le_of_ble_eq_true rfl) (Nat.le_of_ble_eq_true rfl) ⟨(by simp only [sp_X6_register, sp_X6_register_thrown, sp_X6_register_registers, if_pos c_0]), (by simp only [sp_X6_register, sp_X6_register_thrown, sp_X6_register_registers, if_pos c_0])⟩
  · skip
    refine lv_iload_n hx hb dX6_register_5 rfl (lv_at hl 1 rfl) ?_
    refine lv_bipush (v := 7) hx hb dX6_register_6 (by decide) ?_
    refine lv_icmp_le (tgt := 15) hx hb dX6_register_8 (by decide) (fun c_2 => ?_) (fun c_2 => ?_)
    · skip
      refine lv_iconst (v := 0) hx hb dX6_register_15 (by decide) ?_
      refine va_put (D := g.1) (ci := 4) (v := .int 0) (ty := .int) (C := RX6) (T := TX6) (N := 17) hx hb hts iX6 tyX6 tyX6_ok nmX6 hown hK hP hD hS 0 rfl rfl 0 (by decide) (hts (.fieldLink RX6 35 "FaultIsolationModel" "thrown" "I") (by decide +kernel)) (fun _ h9 => h9) rfl (by decide +kernel) rfl rfl (Nat.le_of_ble_eq_true rfl) dX6_register_16 (fun H locs hP hD hS => ?_)
      have hP : va_P g.1 vwCl [(hO, .inr (4, [.int 0, .int xB, .int xC, .ref qP, .int xP, .ref qN, .int xS, .ref qY, .ref qD, .int xA, .ref qR, .ref qM, .ref qT, .int xw, .int xa, .int xb, .int xc])), (qR, .inl (g.2.1.1, 8, .inl gr))] H := hP
      have hD : va_D A [(hO, .inr (4, [.int 0, .int xB, .int xC, .ref qP, .int xP, .ref qN, .int xS, .ref qY, .ref qD, .int xA, .ref qR, .ref qM, .ref qT, .int xw, .int xa, .int xb, .int xc])), (qR, .inl (g.2.1.1, 8, .inl gr))] := hD
      refine lv_aload_n hx hb dX6_register_19 rfl (lv_at hl 0 rfl) ?_
      refine va_get (D := g.1) (ci := 4) (v := .int 0) (C := RX6) (T := TX6) (N := 17) hx hb hts iX6 hown hK hP 0 rfl rfl 0 (by decide) (hts (.fieldLink RX6 35 "FaultIsolationModel" "thrown" "I") (by decide +kernel)) (fun _ h9 => h9) rfl dX6_register_20 ?_
      refine lv_if_le (tgt := 28) hx hb dX6_register_23 (by decide) (fun _ => ?_) (fun c_3 => absurd c_3 (by decide))
      refine lv_aload_n hx hb dX6_register_28 rfl (lv_at hl 0 rfl) ?_
      refine va_get (D := g.1) (ci := 4) (v := .ref qR) (C := RX6) (T := TX6) (N := 17) hx hb hts iX6 hown hK hP 0 rfl rfl 10 (by decide) (hts (.fieldLink RX6 22 "FaultIsolationModel" "registers" "[I") (by decide +kernel)) (fun _ h9 => h9) rfl dX6_register_29 ?_
      refine lv_iload_n hx hb dX6_register_32 rfl (lv_at hl 1 rfl) ?_
      have zq_4 := k_clle (m := 7) c_0 c_2 (by omega)
      refine lv_topi (fun y9 e9 => ?_)
      rw [show (r0 : Int32) = nI (r0.toNatClampNeg) from k_cl1 c_0] at e9
      subst e9
      refine va_iald hx hb hK hP 1 0 rfl rfl (vp_in_nI (by omega) (by decide)) dX6_register_33 ?_
      refine lv_topi (fun y9 e9 => ?_)
      rw [show (gr (nI (r0.toNatClampNeg)).toNatClampNeg : Int32) = gr r0.toNatClampNeg from congrArg gr (nI_clamp (by omega))] at e9
      subst e9
      refine lv_istore_n (lv' := [(3, .int (gr r0.toNatClampNeg)), (0, .ref hO), (1, .int r0), (2, .int v0)]) hx hb dX6_register_34 rfl hl (by decide) rfl (fun ls hl => ?_)
      refine lv_aload_n hx hb dX6_register_35 rfl (lv_at hl 1 rfl) ?_
      refine va_get (D := g.1) (ci := 4) (v := .ref qR) (C := RX6) (T := TX6) (N := 17) hx hb hts iX6 hown hK hP 0 rfl rfl 10 (by decide) (hts (.fieldLink RX6 22 "FaultIsolationModel" "registers" "[I") (by decide +kernel)) (fun _ h9 => h9) rfl dX6_register_36 ?_
      refine lv_iload_n hx hb dX6_register_39 rfl (lv_at hl 2 rfl) ?_
      have zq_5 := k_clle (m := 7) c_0 c_2 (by omega)
      refine lv_topi (fun y9 e9 => ?_)
      rw [show (r0 : Int32) = nI (r0.toNatClampNeg) from k_cl1 c_0] at e9
      subst e9
      refine lv_iload_n hx hb dX6_register_40 rfl (lv_at hl 3 rfl) ?_
      refine va_iast hx hb hK hP hD hS 1 0 rfl rfl (vp_in_nI (by omega) (by decide)) dX6_register_41 (fun H locs hP hD hS => ?_)
      rw [nI_clamp (show r0.toNatClampNeg < 2 ^ 31 by omega)] at hP hD
      have hP : va_P g.1 vwCl [(hO, .inr (4, [.int 0, .int xB, .int xC, .ref qP, .int xP, .ref qN, .int xS, .ref qY, .ref qD, .int xA, .ref qR, .ref qM, .ref qT, .int xw, .int xa, .int xb, .int xc])), (qR, .inl (g.2.1.1, 8, .inl (upd gr r0.toNatClampNeg v0)))] H := hP
      have hD : va_D A [(hO, .inr (4, [.int 0, .int xB, .int xC, .ref qP, .int xP, .ref qN, .int xS, .ref qY, .ref qD, .int xA, .ref qR, .ref qM, .ref qT, .int xw, .int xa, .int xb, .int xc])), (qR, .inl (g.2.1.1, 8, .inl (upd gr r0.toNatClampNeg v0)))] := hD
      refine lv_iload_n hx hb dX6_register_42 rfl (lv_at hl 0 rfl) ?_
      exact k_iret hx hb hr hlocks ⟨hK, hP, hD, hS, hA, hE, hN⟩ rfl dX6_register_43 (Nat.le_of_ble_eq_true rfl) (Nat.le_of_ble_eq_true rfl) ⟨(by simp only [sp_X6_register, sp_X6_register_thrown, sp_X6_register_registers, if_neg c_0, if_pos c_2]), (by simp only [sp_X6_register, sp_X6_register_thrown, sp_X6_register_registers, if_neg c_0, if_pos c_2])⟩
    · skip
      refine lv_iconst (v := 1) hx hb dX6_register_11 (by decide) ?_
      refine lv_goto (tgt := 16) hx hb dX6_register_12 (by decide) ?_
      refine va_put (D := g.1) (ci := 4) (v := .int 1) (ty := .int) (C := RX6) (T := TX6) (N := 17) hx hb hts iX6 tyX6 tyX6_ok nmX6 hown hK hP hD hS 0 rfl rfl 0 (by decide) (hts (.fieldLink RX6 35 "FaultIsolationModel" "thrown" "I") (by decide +kernel)) (fun _ h9 => h9) rfl (by decide +kernel) rfl rfl (Nat.le_of_ble_eq_true rfl) dX6_register_16 (fun H locs hP hD hS => ?_)
      have hP : va_P g.1 vwCl [(hO, .inr (4, [.int 1, .int xB, .int xC, .ref qP, .int xP, .ref qN, .int xS, .ref qY, .ref qD, .int xA, .ref qR, .ref qM, .ref qT, .int xw, .int xa, .int xb, .int xc])), (qR, .inl (g.2.1.1, 8, .inl gr))] H := hP
      have hD : va_D A [(hO, .inr (4, [.int 1, .int xB, .int xC, .ref qP, .int xP, .ref qN, .int xS, .ref qY, .ref qD, .int xA, .ref qR, .ref qM, .ref qT, .int xw, .int xa, .int xb, .int xc])), (qR, .inl (g.2.1.1, 8, .inl gr))] := hD
      refine lv_aload_n hx hb dX6_register_19 rfl (lv_at hl 0 rfl) ?_
      refine va_get (D := g.1) (ci := 4) (v := .int 1) (C := RX6) (T := TX6) (N := 17) hx hb hts iX6 hown hK hP 0 rfl rfl 0 (by decide) (hts (.fieldLink RX6 35 "FaultIsolationModel" "thrown" "I") (by decide +kernel)) (fun _ h9 => h9) rfl dX6_register_20 ?_
      refine lv_if_le (tgt := 28) hx hb dX6_register_23 (by decide) (fun c_6 => absurd c_6 (by decide)) (fun _ => ?_)
      refine lv_iconst (v := 0) hx hb dX6_register_26 (by decide) ?_
      exact k_iret hx hb hr hlocks ⟨hK, hP, hD, hS, hA, hE, hN⟩ rfl dX6_register_27 (Nat.le_of_ble_eq_true rfl) (Nat.le_of_ble_eq_true rfl) ⟨(by simp only [sp_X6_register, sp_X6_register_thrown, sp_X6_register_registers, if_neg c_0, if_neg c_2]), (by simp only [sp_X6_register, sp_X6_register_thrown, sp_X6_register_registers, if_neg c_0, if_neg c_2])⟩
def sp_X6_memory (gm : Nat → Int32) (p0 : Int32) (v0 : Int32) : Int32 := if p0 < 0 then 0 else (if 4095 < p0 then 0 else (if (sp_X6_isByte v0) = 0 then 0 else (gm p0.toNatClampNeg)))
def sp_X6_memory_thrown (p0 : Int32) (v0 : Int32) : Int32 := if p0 < 0 then 1 else (if 4095 < p0 then 1 else (if (sp_X6_isByte v0) = 0 then 1 else 0))
def sp_X6_memory_memory (gm : Nat → Int32) (p0 : Int32) (v0 : Int32) : Nat → Int32 := if p0 < 0 then gm else (if 4095 < p0 then gm else (if (sp_X6_isByte v0) = 0 then gm else (upd gm p0.toNatClampNeg v0)))
set_option maxHeartbeats 4000000 in
set_option maxRecDepth 100000 in
theorem c_X6_memory (l : Launch) (g : KG) (hO : Nat) (qP : Nat) (qN : Nat) (qY : Nat) (qD : Nat) (qR : Nat) (qM : Nat) (qT : Nat) (gm : Nat → Int32) (xT : Int32) (xB : Int32) (xC : Int32) (xP : Int32) (xS : Int32) (xA : Int32) (xw : Int32) (xa : Int32) (xb : Int32) (xc : Int32) (p0 : Int32) (v0 : Int32)  : Ci l g yX6_memory wsX6_memory ({ frames := 1, cells := 0, slots := 0, locals := 20 }) [.ref hO, .int p0, .int v0] [(hO, .inr (4, [.int xT, .int xB, .int xC, .ref qP, .int xP, .ref qN, .int xS, .ref qY, .ref qD, .int xA, .ref qR, .ref qM, .ref qT, .int xw, .int xa, .int xb, .int xc])), (qM, .inl (g.2.1.1, 4096, .inl gm))] (fun r u => r = sp_X6_memory gm p0 v0 ∧ u = [(hO, .inr (4, [.int (sp_X6_memory_thrown p0 v0), .int xB, .int xC, .ref qP, .int xP, .ref qN, .int xS, .ref qY, .ref qD, .int xA, .ref qR, .ref qM, .ref qT, .int xw, .int xa, .int xb, .int xc])), (qM, .inl (g.2.1.1, 4096, .inl (sp_X6_memory_memory gm p0 v0)))]) 0 0 := by
  intro sz
  refine Met.ofW (cc := cX6_memory) (maxL := 4) (ret := (some .int)) (by decide) rfl ?_
  intro p e s m args below meth c s₁ B hml hv
  obtain ⟨rfl, hsz, hP, hK, hD0, hE, hN⟩ := hv
  have hx := B.exec
  have hb := B.bytes
  have hr := B.returns
  have hts := atoms_spec (ws := wsX6_memory) B.pre
  have hown : s.vm.findClass RX6 = some m.cls := findClass_of_methodNamed B.named
  have hlocks := B.notSynchronized
  have iX6 : ∀ w ∈ u_ws RX6 TX6 17, w ∈ wsX6_memory := by decide +kernel
  subst hsz
  have hD := hD0.self (sz := s.heap.size)
  generalize hAe : va_A [(hO, .inr (4, [.int xT, .int xB, .int xC, .ref qP, .int xP, .ref qN, .int xS, .ref qY, .ref qD, .int xA, .ref qR, .ref qM, .ref qT, .int xw, .int xa, .int xb, .int xc])), (qM, .inl (g.2.1.1, 4096, .inl gm))] s.heap.size = A at hD hE ⊢
  have hA : ∀ q : Nat, s.heap.size ≤ q → A q := fun q h => by rw [← hAe]; exact Or.inr h
  have hS : va_S A s.heap s.heap [] := va_S.rf
  have hl := lv_entry ([.ref hO, .int p0, .int v0]) (n := 4) (Nat.le_of_ble_eq_true rfl)
  rw [lg_entry_eq]
  generalize (lg_sl ([.ref hO, .int p0, .int v0]) ++ List.replicate (4 - (lg_sl ([.ref hO, .int p0, .int v0])).length) Slot.unset).toArray = ls at hl ⊢
  have hl : lv_has ls 4 [(0, .ref hO), (1, .int p0), (2, .int v0)] := hl
  refine lv_aload_n hx hb dX6_memory_0 rfl (lv_at hl 0 rfl) ?_
  refine lv_iload_n hx hb dX6_memory_1 rfl (lv_at hl 1 rfl) ?_
  refine lv_if_lt (tgt := 19) hx hb dX6_memory_2 (by decide) (fun c_0 => ?_) (fun c_0 => ?_)
  · skip
    refine lv_iconst (v := 1) hx hb dX6_memory_19 (by decide) ?_
    refine lv_goto (tgt := 24) hx hb dX6_memory_20 (by decide) ?_
    refine va_put (D := g.1) (ci := 4) (v := .int 1) (ty := .int) (C := RX6) (T := TX6) (N := 17) hx hb hts iX6 tyX6 tyX6_ok nmX6 hown hK hP hD hS 0 rfl rfl 0 (by decide) (hts (.fieldLink RX6 35 "FaultIsolationModel" "thrown" "I") (by decide +kernel)) (fun _ h9 => h9) rfl (by decide +kernel) rfl rfl (Nat.le_of_ble_eq_true rfl) dX6_memory_24 (fun H locs hP hD hS => ?_)
    have hP : va_P g.1 vwCl [(hO, .inr (4, [.int 1, .int xB, .int xC, .ref qP, .int xP, .ref qN, .int xS, .ref qY, .ref qD, .int xA, .ref qR, .ref qM, .ref qT, .int xw, .int xa, .int xb, .int xc])), (qM, .inl (g.2.1.1, 4096, .inl gm))] H := hP
    have hD : va_D A [(hO, .inr (4, [.int 1, .int xB, .int xC, .ref qP, .int xP, .ref qN, .int xS, .ref qY, .ref qD, .int xA, .ref qR, .ref qM, .ref qT, .int xw, .int xa, .int xb, .int xc])), (qM, .inl (g.2.1.1, 4096, .inl gm))] := hD
    refine lv_aload_n hx hb dX6_memory_27 rfl (lv_at hl 0 rfl) ?_
    refine va_get (D := g.1) (ci := 4) (v := .int 1) (C := RX6) (T := TX6) (N := 17) hx hb hts iX6 hown hK hP 0 rfl rfl 0 (by decide) (hts (.fieldLink RX6 35 "FaultIsolationModel" "thrown" "I") (by decide +kernel)) (fun _ h9 => h9) rfl dX6_memory_28 ?_
    refine lv_if_le (tgt := 36) hx hb dX6_memory_31 (by decide) (fun c_1 => absurd c_1 (by decide)) (fun _ => ?_)
    refine lv_iconst (v := 0) hx hb dX6_memory_34 (by decide) ?_
    exact k_iret hx hb hr hlocks ⟨hK, hP, hD, hS, hA, hE, hN⟩ rfl dX6_memory_35 (Nat.le_of_ble_eq_true rfl) (Nat.le_of_ble_eq_true rfl) ⟨(by simp only [sp_X6_memory, sp_X6_memory_thrown, sp_X6_memory_memory, if_pos c_0]), (by simp only [sp_X6_memory, sp_X6_memory_thrown, sp_X6_memory_memory, if_pos c_0])⟩
  · skip
    refine lv_iload_n hx hb dX6_memory_5 rfl (lv_at hl 1 rfl) ?_
    refine lv_sipush (v := 4095) hx hb dX6_memory_6 (by decide) ?_
    refine lv_icmp_gt (tgt := 19) hx hb dX6_memory_9 (by decide) (fun c_2 => ?_) (fun c_2 => ?_)
    · skip
      refine lv_iconst (v := 1) hx hb dX6_memory_19 (by decide) ?_
      refine lv_goto (tgt := 24) hx hb dX6_memory_20 (by decide) ?_
      refine va_put (D := g.1) (ci := 4) (v := .int 1) (ty := .int) (C := RX6) (T := TX6) (N := 17) hx hb hts iX6 tyX6 tyX6_ok nmX6 hown hK hP hD hS 0 rfl rfl 0 (by decide) (hts (.fieldLink RX6 35 "FaultIsolationModel" "thrown" "I") (by decide +kernel)) (fun _ h9 => h9) rfl (by decide +kernel) rfl rfl (Nat.le_of_ble_eq_true rfl) dX6_memory_24 (fun H locs hP hD hS => ?_)
      have hP : va_P g.1 vwCl [(hO, .inr (4, [.int 1, .int xB, .int xC, .ref qP, .int xP, .ref qN, .int xS, .ref qY, .ref qD, .int xA, .ref qR, .ref qM, .ref qT, .int xw, .int xa, .int xb, .int xc])), (qM, .inl (g.2.1.1, 4096, .inl gm))] H := hP
      have hD : va_D A [(hO, .inr (4, [.int 1, .int xB, .int xC, .ref qP, .int xP, .ref qN, .int xS, .ref qY, .ref qD, .int xA, .ref qR, .ref qM, .ref qT, .int xw, .int xa, .int xb, .int xc])), (qM, .inl (g.2.1.1, 4096, .inl gm))] := hD
      refine lv_aload_n hx hb dX6_memory_27 rfl (lv_at hl 0 rfl) ?_
      refine va_get (D := g.1) (ci := 4) (v := .int 1) (C := RX6) (T := TX6) (N := 17) hx hb hts iX6 hown hK hP 0 rfl rfl 0 (by decide) (hts (.fieldLink RX6 35 "FaultIsolationModel" "thrown" "I") (by decide +kernel)) (fun _ h9 => h9) rfl dX6_memory_28 ?_
      refine lv_if_le (tgt := 36) hx hb dX6_memory_31 (by decide) (fun c_3 => absurd c_3 (by decide)) (fun _ => ?_)
      refine lv_iconst (v := 0) hx hb dX6_memory_34 (by decide) ?_
      exact k_iret hx hb hr hlocks ⟨hK, hP, hD, hS, hA, hE, hN⟩ rfl dX6_memory_35 (Nat.le_of_ble_eq_true rfl) (Nat.le_of_ble_eq_true rfl) ⟨(by simp only [sp_X6_memory, sp_X6_memory_thrown, sp_X6_memory_memory, if_neg c_0, if_pos c_2]), (by simp only [sp_X6_memory, sp_X6_memory_thrown, sp_X6_memory_memory, if_neg c_0, if_pos c_2])⟩
    · skip
      refine lv_iload_n hx hb dX6_memory_12 rfl (lv_at hl 2 rfl) ?_
      refine kiS (As := [.int v0]) (rest := [.ref hO]) (wc := []) (wr := [(hO, .inr (4, [.int xT, .int xB, .int xC, .ref qP, .int xP, .ref qN, .int xS, .ref qY, .ref qD, .int xA, .ref qR, .ref qM, .ref qT, .int xw, .int xa, .int xb, .int xc])), (qM, .inl (g.2.1.1, 4096, .inl gm))]) ⟨hx, hb, hml, hown, hts⟩ (c_X6_isByte l g v0) (va_cwS 1 hts gX6_memory_X6_isByte rfl rfl rfl (by decide +kernel) ⟨Nat.le_of_ble_eq_true rfl, Nat.le_of_ble_eq_true rfl⟩) ⟨hK, hP, hD, hS, hA, hE, hN⟩ [] [0, 1] ⟨rfl, rfl, by decide⟩ rfl hl.1 (Nat.le_of_ble_eq_true rfl) dX6_memory_13 ⟨Nat.le_of_ble_eq_true rfl, Nat.le_of_ble_eq_true rfl⟩ rfl (fun r u H locs hw hP hD hS => ?_)
      obtain ⟨hq, hw⟩ := hw
      subst r
      subst hw
      have hP := hP.sub (ws' := [(hO, .inr (4, [.int xT, .int xB, .int xC, .ref qP, .int xP, .ref qN, .int xS, .ref qY, .ref qD, .int xA, .ref qR, .ref qM, .ref qT, .int xw, .int xa, .int xb, .int xc])), (qM, .inl (g.2.1.1, 4096, .inl gm))]) [0, 1] rfl
      have hD := hD.sub (ws' := [(hO, .inr (4, [.int xT, .int xB, .int xC, .ref qP, .int xP, .ref qN, .int xS, .ref qY, .ref qD, .int xA, .ref qR, .ref qM, .ref qT, .int xw, .int xa, .int xb, .int xc])), (qM, .inl (g.2.1.1, 4096, .inl gm))]) [0, 1] (by decide) rfl
      refine lv_if_ne (tgt := 23) hx hb dX6_memory_16 (by decide) (fun c_4 => ?_) (fun c_4 => ?_)
      · skip
        refine lv_iconst (v := 0) hx hb dX6_memory_23 (by decide) ?_
        refine va_put (D := g.1) (ci := 4) (v := .int 0) (ty := .int) (C := RX6) (T := TX6) (N := 17) hx hb hts iX6 tyX6 tyX6_ok nmX6 hown hK hP hD hS 0 rfl rfl 0 (by decide) (hts (.fieldLink RX6 35 "FaultIsolationModel" "thrown" "I") (by decide +kernel)) (fun _ h9 => h9) rfl (by decide +kernel) rfl rfl (Nat.le_of_ble_eq_true rfl) dX6_memory_24 (fun H locs hP hD hS => ?_)
        have hP : va_P g.1 vwCl [(hO, .inr (4, [.int 0, .int xB, .int xC, .ref qP, .int xP, .ref qN, .int xS, .ref qY, .ref qD, .int xA, .ref qR, .ref qM, .ref qT, .int xw, .int xa, .int xb, .int xc])), (qM, .inl (g.2.1.1, 4096, .inl gm))] H := hP
        have hD : va_D A [(hO, .inr (4, [.int 0, .int xB, .int xC, .ref qP, .int xP, .ref qN, .int xS, .ref qY, .ref qD, .int xA, .ref qR, .ref qM, .ref qT, .int xw, .int xa, .int xb, .int xc])), (qM, .inl (g.2.1.1, 4096, .inl gm))] := hD
        refine lv_aload_n hx hb dX6_memory_27 rfl (lv_at hl 0 rfl) ?_
        refine va_get (D := g.1) (ci := 4) (v := .int 0) (C := RX6) (T := TX6) (N := 17) hx hb hts iX6 hown hK hP 0 rfl rfl 0 (by decide) (hts (.fieldLink RX6 35 "FaultIsolationModel" "thrown" "I") (by decide +kernel)) (fun _ h9 => h9) rfl dX6_memory_28 ?_
        refine lv_if_le (tgt := 36) hx hb dX6_memory_31 (by decide) (fun _ => ?_) (fun c_5 => absurd c_5 (by decide))
        refine lv_aload_n hx hb dX6_memory_36 rfl (lv_at hl 0 rfl) ?_
        refine va_get (D := g.1) (ci := 4) (v := .ref qM) (C := RX6) (T := TX6) (N := 17) hx hb hts iX6 hown hK hP 0 rfl rfl 11 (by decide) (hts (.fieldLink RX6 25 "FaultIsolationModel" "memory" "[I") (by decide +kernel)) (fun _ h9 => h9) rfl dX6_memory_37 ?_
        refine lv_iload_n hx hb dX6_memory_40 rfl (lv_at hl 1 rfl) ?_
        have zq_6 := k_clgt (m := 4095) c_0 c_2 (by omega)
        refine lv_topi (fun y9 e9 => ?_)
        rw [show (p0 : Int32) = nI (p0.toNatClampNeg) from k_cl1 c_0] at e9
        subst e9
        refine va_iald hx hb hK hP 1 0 rfl rfl (vp_in_nI (by omega) (by decide)) dX6_memory_41 ?_
        refine lv_topi (fun y9 e9 => ?_)
        rw [show (gm (nI (p0.toNatClampNeg)).toNatClampNeg : Int32) = gm p0.toNatClampNeg from congrArg gm (nI_clamp (by omega))] at e9
        subst e9
        refine lv_istore_n (lv' := [(3, .int (gm p0.toNatClampNeg)), (0, .ref hO), (1, .int p0), (2, .int v0)]) hx hb dX6_memory_42 rfl hl (by decide) rfl (fun ls hl => ?_)
        refine lv_aload_n hx hb dX6_memory_43 rfl (lv_at hl 1 rfl) ?_
        refine va_get (D := g.1) (ci := 4) (v := .ref qM) (C := RX6) (T := TX6) (N := 17) hx hb hts iX6 hown hK hP 0 rfl rfl 11 (by decide) (hts (.fieldLink RX6 25 "FaultIsolationModel" "memory" "[I") (by decide +kernel)) (fun _ h9 => h9) rfl dX6_memory_44 ?_
        refine lv_iload_n hx hb dX6_memory_47 rfl (lv_at hl 2 rfl) ?_
        have zq_7 := k_clgt (m := 4095) c_0 c_2 (by omega)
        refine lv_topi (fun y9 e9 => ?_)
        rw [show (p0 : Int32) = nI (p0.toNatClampNeg) from k_cl1 c_0] at e9
        subst e9
        refine lv_iload_n hx hb dX6_memory_48 rfl (lv_at hl 3 rfl) ?_
        refine va_iast hx hb hK hP hD hS 1 0 rfl rfl (vp_in_nI (by omega) (by decide)) dX6_memory_49 (fun H locs hP hD hS => ?_)
        rw [nI_clamp (show p0.toNatClampNeg < 2 ^ 31 by omega)] at hP hD
        have hP : va_P g.1 vwCl [(hO, .inr (4, [.int 0, .int xB, .int xC, .ref qP, .int xP, .ref qN, .int xS, .ref qY, .ref qD, .int xA, .ref qR, .ref qM, .ref qT, .int xw, .int xa, .int xb, .int xc])), (qM, .inl (g.2.1.1, 4096, .inl (upd gm p0.toNatClampNeg v0)))] H := hP
        have hD : va_D A [(hO, .inr (4, [.int 0, .int xB, .int xC, .ref qP, .int xP, .ref qN, .int xS, .ref qY, .ref qD, .int xA, .ref qR, .ref qM, .ref qT, .int xw, .int xa, .int xb, .int xc])), (qM, .inl (g.2.1.1, 4096, .inl (upd gm p0.toNatClampNeg v0)))] := hD
        refine lv_iload_n hx hb dX6_memory_50 rfl (lv_at hl 0 rfl) ?_
        exact k_iret hx hb hr hlocks ⟨hK, hP, hD, hS, hA, hE, hN⟩ rfl dX6_memory_51 (Nat.le_of_ble_eq_true rfl) (Nat.le_of_ble_eq_true rfl) ⟨(by simp only [sp_X6_memory, sp_X6_memory_thrown, sp_X6_memory_memory, if_neg c_0, if_neg c_2, if_neg c_4]), (by simp only [sp_X6_memory, sp_X6_memory_thrown, sp_X6_memory_memory, if_neg c_0, if_neg c_2, if_neg c_4])⟩
      · skip
        refine lv_iconst (v := 1) hx hb dX6_memory_19 (by decide) ?_
        refine lv_goto (tgt := 24) hx hb dX6_memory_20 (by decide) ?_
        refine va_put (D := g.1) (ci := 4) (v := .int 1) (ty := .int) (C := RX6) (T := TX6) (N := 17) hx hb hts iX6 tyX6 tyX6_ok nmX6 hown hK hP hD hS 0 rfl rfl 0 (by decide) (hts (.fieldLink RX6 35 "FaultIsolationModel" "thrown" "I") (by decide +kernel)) (fun _ h9 => h9) rfl (by decide +kernel) rfl rfl (Nat.le_of_ble_eq_true rfl) dX6_memory_24 (fun H locs hP hD hS => ?_)
        have hP : va_P g.1 vwCl [(hO, .inr (4, [.int 1, .int xB, .int xC, .ref qP, .int xP, .ref qN, .int xS, .ref qY, .ref qD, .int xA, .ref qR, .ref qM, .ref qT, .int xw, .int xa, .int xb, .int xc])), (qM, .inl (g.2.1.1, 4096, .inl gm))] H := hP
        have hD : va_D A [(hO, .inr (4, [.int 1, .int xB, .int xC, .ref qP, .int xP, .ref qN, .int xS, .ref qY, .ref qD, .int xA, .ref qR, .ref qM, .ref qT, .int xw, .int xa, .int xb, .int xc])), (qM, .inl (g.2.1.1, 4096, .inl gm))] := hD
        refine lv_aload_n hx hb dX6_memory_27 rfl (lv_at hl 0 rfl) ?_
        refine va_get (D := g.1) (ci := 4) (v := .int 1) (C := RX6) (T := TX6) (N := 17) hx hb hts iX6 hown hK hP 0 rfl rfl 0 (by decide) (hts (.fieldLink RX6 35 "FaultIsolationModel" "thrown" "I") (by decide +kernel)) (fun _ h9 => h9) rfl dX6_memory_28 ?_
        refine lv_if_le (tgt := 36) hx hb dX6_memory_31 (by decide) (fun c_8 => absurd c_8 (by decide)) (fun _ => ?_)
        refine lv_iconst (v := 0) hx hb dX6_memory_34 (by decide) ?_
        exact k_iret hx hb hr hlocks ⟨hK, hP, hD, hS, hA, hE, hN⟩ rfl dX6_memory_35 (Nat.le_of_ble_eq_true rfl) (Nat.le_of_ble_eq_true rfl) ⟨(by simp only [sp_X6_memory, sp_X6_memory_thrown, sp_X6_memory_memory, if_neg c_0, if_neg c_2, if_pos c_4]), (by simp only [sp_X6_memory, sp_X6_memory_thrown, sp_X6_memory_memory, if_neg c_0, if_neg c_2, if_pos c_4])⟩
def sp_X6_told (gt : Nat → Int32) (p0 : Int32) : Int32 := if p0 < 0 then 0 else (if p0 ≤ 5 then (gt p0.toNatClampNeg) else 0)
def sp_X6_told_thrown (p0 : Int32) : Int32 := if p0 < 0 then 1 else (if p0 ≤ 5 then 0 else 1)
set_option maxHeartbeats 4000000 in
set_option maxRecDepth 100000 in
theorem c_X6_told (l : Launch) (g : KG) (hO : Nat) (qP : Nat) (qN : Nat) (qY : Nat) (qD : Nat) (qR : Nat) (qM : Nat) (qT : Nat) (gt : Nat → Int32) (xT : Int32) (xB : Int32) (xC : Int32) (xP : Int32) (xS : Int32) (xA : Int32) (xw : Int32) (xa : Int32) (xb : Int32) (xc : Int32) (p0 : Int32)  : Ci l g yX6_told wsX6_told ({ frames := 0, cells := 0, slots := 0, locals := 0 }) [.ref hO, .int p0] [(hO, .inr (4, [.int xT, .int xB, .int xC, .ref qP, .int xP, .ref qN, .int xS, .ref qY, .ref qD, .int xA, .ref qR, .ref qM, .ref qT, .int xw, .int xa, .int xb, .int xc])), (qT, .inl (g.2.1.1, 6, .inl gt))] (fun r u => r = sp_X6_told gt p0 ∧ u = [(hO, .inr (4, [.int (sp_X6_told_thrown p0), .int xB, .int xC, .ref qP, .int xP, .ref qN, .int xS, .ref qY, .ref qD, .int xA, .ref qR, .ref qM, .ref qT, .int xw, .int xa, .int xb, .int xc])), (qT, .inl (g.2.1.1, 6, .inl gt))]) 0 0 := by
  intro sz
  refine Met.ofW (cc := cX6_told) (maxL := 2) (ret := (some .int)) (by decide) rfl ?_
  intro p e s m args below meth c s₁ B hml hv
  obtain ⟨rfl, hsz, hP, hK, hD0, hE, hN⟩ := hv
  have hx := B.exec
  have hb := B.bytes
  have hr := B.returns
  have hts := atoms_spec (ws := wsX6_told) B.pre
  have hown : s.vm.findClass RX6 = some m.cls := findClass_of_methodNamed B.named
  have hlocks := B.notSynchronized
  have iX6 : ∀ w ∈ u_ws RX6 TX6 17, w ∈ wsX6_told := by decide +kernel
  subst hsz
  have hD := hD0.self (sz := s.heap.size)
  generalize hAe : va_A [(hO, .inr (4, [.int xT, .int xB, .int xC, .ref qP, .int xP, .ref qN, .int xS, .ref qY, .ref qD, .int xA, .ref qR, .ref qM, .ref qT, .int xw, .int xa, .int xb, .int xc])), (qT, .inl (g.2.1.1, 6, .inl gt))] s.heap.size = A at hD hE ⊢
  have hA : ∀ q : Nat, s.heap.size ≤ q → A q := fun q h => by rw [← hAe]; exact Or.inr h
  have hS : va_S A s.heap s.heap [] := va_S.rf
  have hl := lv_entry ([.ref hO, .int p0]) (n := 2) (Nat.le_of_ble_eq_true rfl)
  rw [lg_entry_eq]
  generalize (lg_sl ([.ref hO, .int p0]) ++ List.replicate (2 - (lg_sl ([.ref hO, .int p0])).length) Slot.unset).toArray = ls at hl ⊢
  have hl : lv_has ls 2 [(0, .ref hO), (1, .int p0)] := hl
  refine lv_aload_n hx hb dX6_told_0 rfl (lv_at hl 0 rfl) ?_
  refine lv_iload_n hx hb dX6_told_1 rfl (lv_at hl 1 rfl) ?_
  refine lv_if_lt (tgt := 10) hx hb dX6_told_2 (by decide) (fun c_0 => ?_) (fun c_0 => ?_)
  · skip
    refine lv_iconst (v := 1) hx hb dX6_told_10 (by decide) ?_
    refine lv_goto (tgt := 15) hx hb dX6_told_11 (by decide) ?_
    refine va_put (D := g.1) (ci := 4) (v := .int 1) (ty := .int) (C := RX6) (T := TX6) (N := 17) hx hb hts iX6 tyX6 tyX6_ok nmX6 hown hK hP hD hS 0 rfl rfl 0 (by decide) (hts (.fieldLink RX6 35 "FaultIsolationModel" "thrown" "I") (by decide +kernel)) (fun _ h9 => h9) rfl (by decide +kernel) rfl rfl (Nat.le_of_ble_eq_true rfl) dX6_told_15 (fun H locs hP hD hS => ?_)
    have hP : va_P g.1 vwCl [(hO, .inr (4, [.int 1, .int xB, .int xC, .ref qP, .int xP, .ref qN, .int xS, .ref qY, .ref qD, .int xA, .ref qR, .ref qM, .ref qT, .int xw, .int xa, .int xb, .int xc])), (qT, .inl (g.2.1.1, 6, .inl gt))] H := hP
    have hD : va_D A [(hO, .inr (4, [.int 1, .int xB, .int xC, .ref qP, .int xP, .ref qN, .int xS, .ref qY, .ref qD, .int xA, .ref qR, .ref qM, .ref qT, .int xw, .int xa, .int xb, .int xc])), (qT, .inl (g.2.1.1, 6, .inl gt))] := hD
    refine lv_aload_n hx hb dX6_told_18 rfl (lv_at hl 0 rfl) ?_
    refine va_get (D := g.1) (ci := 4) (v := .int 1) (C := RX6) (T := TX6) (N := 17) hx hb hts iX6 hown hK hP 0 rfl rfl 0 (by decide) (hts (.fieldLink RX6 35 "FaultIsolationModel" "thrown" "I") (by decide +kernel)) (fun _ h9 => h9) rfl dX6_told_19 ?_
    refine lv_if_le (tgt := 29) hx hb dX6_told_22 (by decide) (fun c_1 => absurd c_1 (by decide)) (fun _ => ?_)
    refine lv_iconst (v := 0) hx hb dX6_told_25 (by decide) ?_
    refine lv_goto (tgt := 35) hx hb dX6_told_26 (by decide) ?_
    exact k_iret hx hb hr hlocks ⟨hK, hP, hD, hS, hA, hE, hN⟩ rfl dX6_told_35 (Nat.le_of_ble_eq_true rfl) (Nat.le_of_ble_eq_true rfl) ⟨(by simp only [sp_X6_told, sp_X6_told_thrown, if_pos c_0]), (by simp only [sp_X6_told, sp_X6_told_thrown, if_pos c_0])⟩
  · skip
    refine lv_iload_n hx hb dX6_told_5 rfl (lv_at hl 1 rfl) ?_
    refine lv_iconst (v := 5) hx hb dX6_told_6 (by decide) ?_
    refine lv_icmp_le (tgt := 14) hx hb dX6_told_7 (by decide) (fun c_2 => ?_) (fun c_2 => ?_)
    · skip
      refine lv_iconst (v := 0) hx hb dX6_told_14 (by decide) ?_
      refine va_put (D := g.1) (ci := 4) (v := .int 0) (ty := .int) (C := RX6) (T := TX6) (N := 17) hx hb hts iX6 tyX6 tyX6_ok nmX6 hown hK hP hD hS 0 rfl rfl 0 (by decide) (hts (.fieldLink RX6 35 "FaultIsolationModel" "thrown" "I") (by decide +kernel)) (fun _ h9 => h9) rfl (by decide +kernel) rfl rfl (Nat.le_of_ble_eq_true rfl) dX6_told_15 (fun H locs hP hD hS => ?_)
      have hP : va_P g.1 vwCl [(hO, .inr (4, [.int 0, .int xB, .int xC, .ref qP, .int xP, .ref qN, .int xS, .ref qY, .ref qD, .int xA, .ref qR, .ref qM, .ref qT, .int xw, .int xa, .int xb, .int xc])), (qT, .inl (g.2.1.1, 6, .inl gt))] H := hP
      have hD : va_D A [(hO, .inr (4, [.int 0, .int xB, .int xC, .ref qP, .int xP, .ref qN, .int xS, .ref qY, .ref qD, .int xA, .ref qR, .ref qM, .ref qT, .int xw, .int xa, .int xb, .int xc])), (qT, .inl (g.2.1.1, 6, .inl gt))] := hD
      refine lv_aload_n hx hb dX6_told_18 rfl (lv_at hl 0 rfl) ?_
      refine va_get (D := g.1) (ci := 4) (v := .int 0) (C := RX6) (T := TX6) (N := 17) hx hb hts iX6 hown hK hP 0 rfl rfl 0 (by decide) (hts (.fieldLink RX6 35 "FaultIsolationModel" "thrown" "I") (by decide +kernel)) (fun _ h9 => h9) rfl dX6_told_19 ?_
      refine lv_if_le (tgt := 29) hx hb dX6_told_22 (by decide) (fun _ => ?_) (fun c_3 => absurd c_3 (by decide))
      refine lv_aload_n hx hb dX6_told_29 rfl (lv_at hl 0 rfl) ?_
      refine va_get (D := g.1) (ci := 4) (v := .ref qT) (C := RX6) (T := TX6) (N := 17) hx hb hts iX6 hown hK hP 0 rfl rfl 12 (by decide) (hts (.fieldLink RX6 28 "FaultIsolationModel" "told" "[I") (by decide +kernel)) (fun _ h9 => h9) rfl dX6_told_30 ?_
      refine lv_iload_n hx hb dX6_told_33 rfl (lv_at hl 1 rfl) ?_
      have zq_4 := k_clle (m := 5) c_0 c_2 (by omega)
      refine lv_topi (fun y9 e9 => ?_)
      rw [show (p0 : Int32) = nI (p0.toNatClampNeg) from k_cl1 c_0] at e9
      subst e9
      refine va_iald hx hb hK hP 1 0 rfl rfl (vp_in_nI (by omega) (by decide)) dX6_told_34 ?_
      refine lv_topi (fun y9 e9 => ?_)
      rw [show (gt (nI (p0.toNatClampNeg)).toNatClampNeg : Int32) = gt p0.toNatClampNeg from congrArg gt (nI_clamp (by omega))] at e9
      subst e9
      exact k_iret hx hb hr hlocks ⟨hK, hP, hD, hS, hA, hE, hN⟩ rfl dX6_told_35 (Nat.le_of_ble_eq_true rfl) (Nat.le_of_ble_eq_true rfl) ⟨(by simp only [sp_X6_told, sp_X6_told_thrown, if_neg c_0, if_pos c_2]), (by simp only [sp_X6_told, sp_X6_told_thrown, if_neg c_0, if_pos c_2])⟩
    · skip
      refine lv_iconst (v := 1) hx hb dX6_told_10 (by decide) ?_
      refine lv_goto (tgt := 15) hx hb dX6_told_11 (by decide) ?_
      refine va_put (D := g.1) (ci := 4) (v := .int 1) (ty := .int) (C := RX6) (T := TX6) (N := 17) hx hb hts iX6 tyX6 tyX6_ok nmX6 hown hK hP hD hS 0 rfl rfl 0 (by decide) (hts (.fieldLink RX6 35 "FaultIsolationModel" "thrown" "I") (by decide +kernel)) (fun _ h9 => h9) rfl (by decide +kernel) rfl rfl (Nat.le_of_ble_eq_true rfl) dX6_told_15 (fun H locs hP hD hS => ?_)
      have hP : va_P g.1 vwCl [(hO, .inr (4, [.int 1, .int xB, .int xC, .ref qP, .int xP, .ref qN, .int xS, .ref qY, .ref qD, .int xA, .ref qR, .ref qM, .ref qT, .int xw, .int xa, .int xb, .int xc])), (qT, .inl (g.2.1.1, 6, .inl gt))] H := hP
      have hD : va_D A [(hO, .inr (4, [.int 1, .int xB, .int xC, .ref qP, .int xP, .ref qN, .int xS, .ref qY, .ref qD, .int xA, .ref qR, .ref qM, .ref qT, .int xw, .int xa, .int xb, .int xc])), (qT, .inl (g.2.1.1, 6, .inl gt))] := hD
      refine lv_aload_n hx hb dX6_told_18 rfl (lv_at hl 0 rfl) ?_
      refine va_get (D := g.1) (ci := 4) (v := .int 1) (C := RX6) (T := TX6) (N := 17) hx hb hts iX6 hown hK hP 0 rfl rfl 0 (by decide) (hts (.fieldLink RX6 35 "FaultIsolationModel" "thrown" "I") (by decide +kernel)) (fun _ h9 => h9) rfl dX6_told_19 ?_
      refine lv_if_le (tgt := 29) hx hb dX6_told_22 (by decide) (fun c_5 => absurd c_5 (by decide)) (fun _ => ?_)
      refine lv_iconst (v := 0) hx hb dX6_told_25 (by decide) ?_
      refine lv_goto (tgt := 35) hx hb dX6_told_26 (by decide) ?_
      exact k_iret hx hb hr hlocks ⟨hK, hP, hD, hS, hA, hE, hN⟩ rfl dX6_told_35 (Nat.le_of_ble_eq_true rfl) (Nat.le_of_ble_eq_true rfl) ⟨(by simp only [sp_X6_told, sp_X6_told_thrown, if_neg c_0, if_neg c_2]), (by simp only [sp_X6_told, sp_X6_told_thrown, if_neg c_0, if_neg c_2])⟩
def sp_X6_registerAt (gr : Nat → Int32) (r0 : Int32) : Int32 := if r0 < 0 then 0 else (if r0 ≤ 7 then (gr r0.toNatClampNeg) else 0)
def sp_X6_registerAt_thrown (r0 : Int32) : Int32 := if r0 < 0 then 1 else (if r0 ≤ 7 then 0 else 1)
set_option maxHeartbeats 4000000 in
set_option maxRecDepth 100000 in
theorem c_X6_registerAt (l : Launch) (g : KG) (hO : Nat) (qP : Nat) (qN : Nat) (qY : Nat) (qD : Nat) (qR : Nat) (qM : Nat) (qT : Nat) (gr : Nat → Int32) (xT : Int32) (xB : Int32) (xC : Int32) (xP : Int32) (xS : Int32) (xA : Int32) (xw : Int32) (xa : Int32) (xb : Int32) (xc : Int32) (r0 : Int32)  : Ci l g yX6_registerAt wsX6_registerAt ({ frames := 0, cells := 0, slots := 0, locals := 0 }) [.ref hO, .int r0] [(hO, .inr (4, [.int xT, .int xB, .int xC, .ref qP, .int xP, .ref qN, .int xS, .ref qY, .ref qD, .int xA, .ref qR, .ref qM, .ref qT, .int xw, .int xa, .int xb, .int xc])), (qR, .inl (g.2.1.1, 8, .inl gr))] (fun r u => r = sp_X6_registerAt gr r0 ∧ u = [(hO, .inr (4, [.int (sp_X6_registerAt_thrown r0), .int xB, .int xC, .ref qP, .int xP, .ref qN, .int xS, .ref qY, .ref qD, .int xA, .ref qR, .ref qM, .ref qT, .int xw, .int xa, .int xb, .int xc])), (qR, .inl (g.2.1.1, 8, .inl gr))]) 0 0 := by
  intro sz
  refine Met.ofW (cc := cX6_registerAt) (maxL := 2) (ret := (some .int)) (by decide) rfl ?_
  intro p e s m args below meth c s₁ B hml hv
  obtain ⟨rfl, hsz, hP, hK, hD0, hE, hN⟩ := hv
  have hx := B.exec
  have hb := B.bytes
  have hr := B.returns
  have hts := atoms_spec (ws := wsX6_registerAt) B.pre
  have hown : s.vm.findClass RX6 = some m.cls := findClass_of_methodNamed B.named
  have hlocks := B.notSynchronized
  have iX6 : ∀ w ∈ u_ws RX6 TX6 17, w ∈ wsX6_registerAt := by decide +kernel
  subst hsz
  have hD := hD0.self (sz := s.heap.size)
  generalize hAe : va_A [(hO, .inr (4, [.int xT, .int xB, .int xC, .ref qP, .int xP, .ref qN, .int xS, .ref qY, .ref qD, .int xA, .ref qR, .ref qM, .ref qT, .int xw, .int xa, .int xb, .int xc])), (qR, .inl (g.2.1.1, 8, .inl gr))] s.heap.size = A at hD hE ⊢
  have hA : ∀ q : Nat, s.heap.size ≤ q → A q := fun q h => by rw [← hAe]; exact Or.inr h
  have hS : va_S A s.heap s.heap [] := va_S.rf
  have hl := lv_entry ([.ref hO, .int r0]) (n := 2) (Nat.le_of_ble_eq_true rfl)
  rw [lg_entry_eq]
  generalize (lg_sl ([.ref hO, .int r0]) ++ List.replicate (2 - (lg_sl ([.ref hO, .int r0])).length) Slot.unset).toArray = ls at hl ⊢
  have hl : lv_has ls 2 [(0, .ref hO), (1, .int r0)] := hl
  refine lv_aload_n hx hb dX6_registerAt_0 rfl (lv_at hl 0 rfl) ?_
  refine lv_iload_n hx hb dX6_registerAt_1 rfl (lv_at hl 1 rfl) ?_
  refine lv_if_lt (tgt := 11) hx hb dX6_registerAt_2 (by decide) (fun c_0 => ?_) (fun c_0 => ?_)
  · skip
    refine lv_iconst (v := 1) hx hb dX6_registerAt_11 (by decide) ?_
    refine lv_goto (tgt := 16) hx hb dX6_registerAt_12 (by decide) ?_
    refine va_put (D := g.1) (ci := 4) (v := .int 1) (ty := .int) (C := RX6) (T := TX6) (N := 17) hx hb hts iX6 tyX6 tyX6_ok nmX6 hown hK hP hD hS 0 rfl rfl 0 (by decide) (hts (.fieldLink RX6 35 "FaultIsolationModel" "thrown" "I") (by decide +kernel)) (fun _ h9 => h9) rfl (by decide +kernel) rfl rfl (Nat.le_of_ble_eq_true rfl) dX6_registerAt_16 (fun H locs hP hD hS => ?_)
    have hP : va_P g.1 vwCl [(hO, .inr (4, [.int 1, .int xB, .int xC, .ref qP, .int xP, .ref qN, .int xS, .ref qY, .ref qD, .int xA, .ref qR, .ref qM, .ref qT, .int xw, .int xa, .int xb, .int xc])), (qR, .inl (g.2.1.1, 8, .inl gr))] H := hP
    have hD : va_D A [(hO, .inr (4, [.int 1, .int xB, .int xC, .ref qP, .int xP, .ref qN, .int xS, .ref qY, .ref qD, .int xA, .ref qR, .ref qM, .ref qT, .int xw, .int xa, .int xb, .int xc])), (qR, .inl (g.2.1.1, 8, .inl gr))] := hD
    refine lv_aload_n hx hb dX6_registerAt_19 rfl (lv_at hl 0 rfl) ?_
    refine va_get (D := g.1) (ci := 4) (v := .int 1) (C := RX6) (T := TX6) (N := 17) hx hb hts iX6 hown hK hP 0 rfl rfl 0 (by decide) (hts (.fieldLink RX6 35 "FaultIsolationModel" "thrown" "I") (by decide +kernel)) (fun _ h9 => h9) rfl dX6_registerAt_20 ?_
    refine lv_if_le (tgt := 30) hx hb dX6_registerAt_23 (by decide) (fun c_1 => absurd c_1 (by decide)) (fun _ => ?_)
    refine lv_iconst (v := 0) hx hb dX6_registerAt_26 (by decide) ?_
    refine lv_goto (tgt := 36) hx hb dX6_registerAt_27 (by decide) ?_
    exact k_iret hx hb hr hlocks ⟨hK, hP, hD, hS, hA, hE, hN⟩ rfl dX6_registerAt_36 (Nat.le_of_ble_eq_true rfl) (Nat.le_of_ble_eq_true rfl) ⟨(by simp only [sp_X6_registerAt, sp_X6_registerAt_thrown, if_pos c_0]), (by simp only [sp_X6_registerAt, sp_X6_registerAt_thrown, if_pos c_0])⟩
  · skip
    refine lv_iload_n hx hb dX6_registerAt_5 rfl (lv_at hl 1 rfl) ?_
    refine lv_bipush (v := 7) hx hb dX6_registerAt_6 (by decide) ?_
    refine lv_icmp_le (tgt := 15) hx hb dX6_registerAt_8 (by decide) (fun c_2 => ?_) (fun c_2 => ?_)
    · skip
      refine lv_iconst (v := 0) hx hb dX6_registerAt_15 (by decide) ?_
      refine va_put (D := g.1) (ci := 4) (v := .int 0) (ty := .int) (C := RX6) (T := TX6) (N := 17) hx hb hts iX6 tyX6 tyX6_ok nmX6 hown hK hP hD hS 0 rfl rfl 0 (by decide) (hts (.fieldLink RX6 35 "FaultIsolationModel" "thrown" "I") (by decide +kernel)) (fun _ h9 => h9) rfl (by decide +kernel) rfl rfl (Nat.le_of_ble_eq_true rfl) dX6_registerAt_16 (fun H locs hP hD hS => ?_)
      have hP : va_P g.1 vwCl [(hO, .inr (4, [.int 0, .int xB, .int xC, .ref qP, .int xP, .ref qN, .int xS, .ref qY, .ref qD, .int xA, .ref qR, .ref qM, .ref qT, .int xw, .int xa, .int xb, .int xc])), (qR, .inl (g.2.1.1, 8, .inl gr))] H := hP
      have hD : va_D A [(hO, .inr (4, [.int 0, .int xB, .int xC, .ref qP, .int xP, .ref qN, .int xS, .ref qY, .ref qD, .int xA, .ref qR, .ref qM, .ref qT, .int xw, .int xa, .int xb, .int xc])), (qR, .inl (g.2.1.1, 8, .inl gr))] := hD
      refine lv_aload_n hx hb dX6_registerAt_19 rfl (lv_at hl 0 rfl) ?_
      refine va_get (D := g.1) (ci := 4) (v := .int 0) (C := RX6) (T := TX6) (N := 17) hx hb hts iX6 hown hK hP 0 rfl rfl 0 (by decide) (hts (.fieldLink RX6 35 "FaultIsolationModel" "thrown" "I") (by decide +kernel)) (fun _ h9 => h9) rfl dX6_registerAt_20 ?_
      refine lv_if_le (tgt := 30) hx hb dX6_registerAt_23 (by decide) (fun _ => ?_) (fun c_3 => absurd c_3 (by decide))
      refine lv_aload_n hx hb dX6_registerAt_30 rfl (lv_at hl 0 rfl) ?_
      refine va_get (D := g.1) (ci := 4) (v := .ref qR) (C := RX6) (T := TX6) (N := 17) hx hb hts iX6 hown hK hP 0 rfl rfl 10 (by decide) (hts (.fieldLink RX6 22 "FaultIsolationModel" "registers" "[I") (by decide +kernel)) (fun _ h9 => h9) rfl dX6_registerAt_31 ?_
      refine lv_iload_n hx hb dX6_registerAt_34 rfl (lv_at hl 1 rfl) ?_
      have zq_4 := k_clle (m := 7) c_0 c_2 (by omega)
      refine lv_topi (fun y9 e9 => ?_)
      rw [show (r0 : Int32) = nI (r0.toNatClampNeg) from k_cl1 c_0] at e9
      subst e9
      refine va_iald hx hb hK hP 1 0 rfl rfl (vp_in_nI (by omega) (by decide)) dX6_registerAt_35 ?_
      refine lv_topi (fun y9 e9 => ?_)
      rw [show (gr (nI (r0.toNatClampNeg)).toNatClampNeg : Int32) = gr r0.toNatClampNeg from congrArg gr (nI_clamp (by omega))] at e9
      subst e9
      exact k_iret hx hb hr hlocks ⟨hK, hP, hD, hS, hA, hE, hN⟩ rfl dX6_registerAt_36 (Nat.le_of_ble_eq_true rfl) (Nat.le_of_ble_eq_true rfl) ⟨(by simp only [sp_X6_registerAt, sp_X6_registerAt_thrown, if_neg c_0, if_pos c_2]), (by simp only [sp_X6_registerAt, sp_X6_registerAt_thrown, if_neg c_0, if_pos c_2])⟩
    · skip
      refine lv_iconst (v := 1) hx hb dX6_registerAt_11 (by decide) ?_
      refine lv_goto (tgt := 16) hx hb dX6_registerAt_12 (by decide) ?_
      refine va_put (D := g.1) (ci := 4) (v := .int 1) (ty := .int) (C := RX6) (T := TX6) (N := 17) hx hb hts iX6 tyX6 tyX6_ok nmX6 hown hK hP hD hS 0 rfl rfl 0 (by decide) (hts (.fieldLink RX6 35 "FaultIsolationModel" "thrown" "I") (by decide +kernel)) (fun _ h9 => h9) rfl (by decide +kernel) rfl rfl (Nat.le_of_ble_eq_true rfl) dX6_registerAt_16 (fun H locs hP hD hS => ?_)
      have hP : va_P g.1 vwCl [(hO, .inr (4, [.int 1, .int xB, .int xC, .ref qP, .int xP, .ref qN, .int xS, .ref qY, .ref qD, .int xA, .ref qR, .ref qM, .ref qT, .int xw, .int xa, .int xb, .int xc])), (qR, .inl (g.2.1.1, 8, .inl gr))] H := hP
      have hD : va_D A [(hO, .inr (4, [.int 1, .int xB, .int xC, .ref qP, .int xP, .ref qN, .int xS, .ref qY, .ref qD, .int xA, .ref qR, .ref qM, .ref qT, .int xw, .int xa, .int xb, .int xc])), (qR, .inl (g.2.1.1, 8, .inl gr))] := hD
      refine lv_aload_n hx hb dX6_registerAt_19 rfl (lv_at hl 0 rfl) ?_
      refine va_get (D := g.1) (ci := 4) (v := .int 1) (C := RX6) (T := TX6) (N := 17) hx hb hts iX6 hown hK hP 0 rfl rfl 0 (by decide) (hts (.fieldLink RX6 35 "FaultIsolationModel" "thrown" "I") (by decide +kernel)) (fun _ h9 => h9) rfl dX6_registerAt_20 ?_
      refine lv_if_le (tgt := 30) hx hb dX6_registerAt_23 (by decide) (fun c_5 => absurd c_5 (by decide)) (fun _ => ?_)
      refine lv_iconst (v := 0) hx hb dX6_registerAt_26 (by decide) ?_
      refine lv_goto (tgt := 36) hx hb dX6_registerAt_27 (by decide) ?_
      exact k_iret hx hb hr hlocks ⟨hK, hP, hD, hS, hA, hE, hN⟩ rfl dX6_registerAt_36 (Nat.le_of_ble_eq_true rfl) (Nat.le_of_ble_eq_true rfl) ⟨(by simp only [sp_X6_registerAt, sp_X6_registerAt_thrown, if_neg c_0, if_neg c_2]), (by simp only [sp_X6_registerAt, sp_X6_registerAt_thrown, if_neg c_0, if_neg c_2])⟩
def sp_X6_memoryAt (gm : Nat → Int32) (p0 : Int32) : Int32 := if p0 < 0 then 0 else (if p0 ≤ 4095 then (gm p0.toNatClampNeg) else 0)
def sp_X6_memoryAt_thrown (p0 : Int32) : Int32 := if p0 < 0 then 1 else (if p0 ≤ 4095 then 0 else 1)
set_option maxHeartbeats 4000000 in
set_option maxRecDepth 100000 in
theorem c_X6_memoryAt (l : Launch) (g : KG) (hO : Nat) (qP : Nat) (qN : Nat) (qY : Nat) (qD : Nat) (qR : Nat) (qM : Nat) (qT : Nat) (gm : Nat → Int32) (xT : Int32) (xB : Int32) (xC : Int32) (xP : Int32) (xS : Int32) (xA : Int32) (xw : Int32) (xa : Int32) (xb : Int32) (xc : Int32) (p0 : Int32)  : Ci l g yX6_memoryAt wsX6_memoryAt ({ frames := 0, cells := 0, slots := 0, locals := 0 }) [.ref hO, .int p0] [(hO, .inr (4, [.int xT, .int xB, .int xC, .ref qP, .int xP, .ref qN, .int xS, .ref qY, .ref qD, .int xA, .ref qR, .ref qM, .ref qT, .int xw, .int xa, .int xb, .int xc])), (qM, .inl (g.2.1.1, 4096, .inl gm))] (fun r u => r = sp_X6_memoryAt gm p0 ∧ u = [(hO, .inr (4, [.int (sp_X6_memoryAt_thrown p0), .int xB, .int xC, .ref qP, .int xP, .ref qN, .int xS, .ref qY, .ref qD, .int xA, .ref qR, .ref qM, .ref qT, .int xw, .int xa, .int xb, .int xc])), (qM, .inl (g.2.1.1, 4096, .inl gm))]) 0 0 := by
  intro sz
  refine Met.ofW (cc := cX6_memoryAt) (maxL := 2) (ret := (some .int)) (by decide) rfl ?_
  intro p e s m args below meth c s₁ B hml hv
  obtain ⟨rfl, hsz, hP, hK, hD0, hE, hN⟩ := hv
  have hx := B.exec
  have hb := B.bytes
  have hr := B.returns
  have hts := atoms_spec (ws := wsX6_memoryAt) B.pre
  have hown : s.vm.findClass RX6 = some m.cls := findClass_of_methodNamed B.named
  have hlocks := B.notSynchronized
  have iX6 : ∀ w ∈ u_ws RX6 TX6 17, w ∈ wsX6_memoryAt := by decide +kernel
  subst hsz
  have hD := hD0.self (sz := s.heap.size)
  generalize hAe : va_A [(hO, .inr (4, [.int xT, .int xB, .int xC, .ref qP, .int xP, .ref qN, .int xS, .ref qY, .ref qD, .int xA, .ref qR, .ref qM, .ref qT, .int xw, .int xa, .int xb, .int xc])), (qM, .inl (g.2.1.1, 4096, .inl gm))] s.heap.size = A at hD hE ⊢
  have hA : ∀ q : Nat, s.heap.size ≤ q → A q := fun q h => by rw [← hAe]; exact Or.inr h
  have hS : va_S A s.heap s.heap [] := va_S.rf
  have hl := lv_entry ([.ref hO, .int p0]) (n := 2) (Nat.le_of_ble_eq_true rfl)
  rw [lg_entry_eq]
  generalize (lg_sl ([.ref hO, .int p0]) ++ List.replicate (2 - (lg_sl ([.ref hO, .int p0])).length) Slot.unset).toArray = ls at hl ⊢
  have hl : lv_has ls 2 [(0, .ref hO), (1, .int p0)] := hl
  refine lv_aload_n hx hb dX6_memoryAt_0 rfl (lv_at hl 0 rfl) ?_
  refine lv_iload_n hx hb dX6_memoryAt_1 rfl (lv_at hl 1 rfl) ?_
  refine lv_if_lt (tgt := 12) hx hb dX6_memoryAt_2 (by decide) (fun c_0 => ?_) (fun c_0 => ?_)
  · skip
    refine lv_iconst (v := 1) hx hb dX6_memoryAt_12 (by decide) ?_
    refine lv_goto (tgt := 17) hx hb dX6_memoryAt_13 (by decide) ?_
    refine va_put (D := g.1) (ci := 4) (v := .int 1) (ty := .int) (C := RX6) (T := TX6) (N := 17) hx hb hts iX6 tyX6 tyX6_ok nmX6 hown hK hP hD hS 0 rfl rfl 0 (by decide) (hts (.fieldLink RX6 35 "FaultIsolationModel" "thrown" "I") (by decide +kernel)) (fun _ h9 => h9) rfl (by decide +kernel) rfl rfl (Nat.le_of_ble_eq_true rfl) dX6_memoryAt_17 (fun H locs hP hD hS => ?_)
    have hP : va_P g.1 vwCl [(hO, .inr (4, [.int 1, .int xB, .int xC, .ref qP, .int xP, .ref qN, .int xS, .ref qY, .ref qD, .int xA, .ref qR, .ref qM, .ref qT, .int xw, .int xa, .int xb, .int xc])), (qM, .inl (g.2.1.1, 4096, .inl gm))] H := hP
    have hD : va_D A [(hO, .inr (4, [.int 1, .int xB, .int xC, .ref qP, .int xP, .ref qN, .int xS, .ref qY, .ref qD, .int xA, .ref qR, .ref qM, .ref qT, .int xw, .int xa, .int xb, .int xc])), (qM, .inl (g.2.1.1, 4096, .inl gm))] := hD
    refine lv_aload_n hx hb dX6_memoryAt_20 rfl (lv_at hl 0 rfl) ?_
    refine va_get (D := g.1) (ci := 4) (v := .int 1) (C := RX6) (T := TX6) (N := 17) hx hb hts iX6 hown hK hP 0 rfl rfl 0 (by decide) (hts (.fieldLink RX6 35 "FaultIsolationModel" "thrown" "I") (by decide +kernel)) (fun _ h9 => h9) rfl dX6_memoryAt_21 ?_
    refine lv_if_le (tgt := 31) hx hb dX6_memoryAt_24 (by decide) (fun c_1 => absurd c_1 (by decide)) (fun _ => ?_)
    refine lv_iconst (v := 0) hx hb dX6_memoryAt_27 (by decide) ?_
    refine lv_goto (tgt := 37) hx hb dX6_memoryAt_28 (by decide) ?_
    exact k_iret hx hb hr hlocks ⟨hK, hP, hD, hS, hA, hE, hN⟩ rfl dX6_memoryAt_37 (Nat.le_of_ble_eq_true rfl) (Nat.le_of_ble_eq_true rfl) ⟨(by simp only [sp_X6_memoryAt, sp_X6_memoryAt_thrown, if_pos c_0]), (by simp only [sp_X6_memoryAt, sp_X6_memoryAt_thrown, if_pos c_0])⟩
  · skip
    refine lv_iload_n hx hb dX6_memoryAt_5 rfl (lv_at hl 1 rfl) ?_
    refine lv_sipush (v := 4095) hx hb dX6_memoryAt_6 (by decide) ?_
    refine lv_icmp_le (tgt := 16) hx hb dX6_memoryAt_9 (by decide) (fun c_2 => ?_) (fun c_2 => ?_)
    · skip
      refine lv_iconst (v := 0) hx hb dX6_memoryAt_16 (by decide) ?_
      refine va_put (D := g.1) (ci := 4) (v := .int 0) (ty := .int) (C := RX6) (T := TX6) (N := 17) hx hb hts iX6 tyX6 tyX6_ok nmX6 hown hK hP hD hS 0 rfl rfl 0 (by decide) (hts (.fieldLink RX6 35 "FaultIsolationModel" "thrown" "I") (by decide +kernel)) (fun _ h9 => h9) rfl (by decide +kernel) rfl rfl (Nat.le_of_ble_eq_true rfl) dX6_memoryAt_17 (fun H locs hP hD hS => ?_)
      have hP : va_P g.1 vwCl [(hO, .inr (4, [.int 0, .int xB, .int xC, .ref qP, .int xP, .ref qN, .int xS, .ref qY, .ref qD, .int xA, .ref qR, .ref qM, .ref qT, .int xw, .int xa, .int xb, .int xc])), (qM, .inl (g.2.1.1, 4096, .inl gm))] H := hP
      have hD : va_D A [(hO, .inr (4, [.int 0, .int xB, .int xC, .ref qP, .int xP, .ref qN, .int xS, .ref qY, .ref qD, .int xA, .ref qR, .ref qM, .ref qT, .int xw, .int xa, .int xb, .int xc])), (qM, .inl (g.2.1.1, 4096, .inl gm))] := hD
      refine lv_aload_n hx hb dX6_memoryAt_20 rfl (lv_at hl 0 rfl) ?_
      refine va_get (D := g.1) (ci := 4) (v := .int 0) (C := RX6) (T := TX6) (N := 17) hx hb hts iX6 hown hK hP 0 rfl rfl 0 (by decide) (hts (.fieldLink RX6 35 "FaultIsolationModel" "thrown" "I") (by decide +kernel)) (fun _ h9 => h9) rfl dX6_memoryAt_21 ?_
      refine lv_if_le (tgt := 31) hx hb dX6_memoryAt_24 (by decide) (fun _ => ?_) (fun c_3 => absurd c_3 (by decide))
      refine lv_aload_n hx hb dX6_memoryAt_31 rfl (lv_at hl 0 rfl) ?_
      refine va_get (D := g.1) (ci := 4) (v := .ref qM) (C := RX6) (T := TX6) (N := 17) hx hb hts iX6 hown hK hP 0 rfl rfl 11 (by decide) (hts (.fieldLink RX6 25 "FaultIsolationModel" "memory" "[I") (by decide +kernel)) (fun _ h9 => h9) rfl dX6_memoryAt_32 ?_
      refine lv_iload_n hx hb dX6_memoryAt_35 rfl (lv_at hl 1 rfl) ?_
      have zq_4 := k_clle (m := 4095) c_0 c_2 (by omega)
      refine lv_topi (fun y9 e9 => ?_)
      rw [show (p0 : Int32) = nI (p0.toNatClampNeg) from k_cl1 c_0] at e9
      subst e9
      refine va_iald hx hb hK hP 1 0 rfl rfl (vp_in_nI (by omega) (by decide)) dX6_memoryAt_36 ?_
      refine lv_topi (fun y9 e9 => ?_)
      rw [show (gm (nI (p0.toNatClampNeg)).toNatClampNeg : Int32) = gm p0.toNatClampNeg from congrArg gm (nI_clamp (by omega))] at e9
      subst e9
      exact k_iret hx hb hr hlocks ⟨hK, hP, hD, hS, hA, hE, hN⟩ rfl dX6_memoryAt_37 (Nat.le_of_ble_eq_true rfl) (Nat.le_of_ble_eq_true rfl) ⟨(by simp only [sp_X6_memoryAt, sp_X6_memoryAt_thrown, if_neg c_0, if_pos c_2]), (by simp only [sp_X6_memoryAt, sp_X6_memoryAt_thrown, if_neg c_0, if_pos c_2])⟩
    · skip
      refine lv_iconst (v := 1) hx hb dX6_memoryAt_12 (by decide) ?_
      refine lv_goto (tgt := 17) hx hb dX6_memoryAt_13 (by decide) ?_
      refine va_put (D := g.1) (ci := 4) (v := .int 1) (ty := .int) (C := RX6) (T := TX6) (N := 17) hx hb hts iX6 tyX6 tyX6_ok nmX6 hown hK hP hD hS 0 rfl rfl 0 (by decide) (hts (.fieldLink RX6 35 "FaultIsolationModel" "thrown" "I") (by decide +kernel)) (fun _ h9 => h9) rfl (by decide +kernel) rfl rfl (Nat.le_of_ble_eq_true rfl) dX6_memoryAt_17 (fun H locs hP hD hS => ?_)
      have hP : va_P g.1 vwCl [(hO, .inr (4, [.int 1, .int xB, .int xC, .ref qP, .int xP, .ref qN, .int xS, .ref qY, .ref qD, .int xA, .ref qR, .ref qM, .ref qT, .int xw, .int xa, .int xb, .int xc])), (qM, .inl (g.2.1.1, 4096, .inl gm))] H := hP
      have hD : va_D A [(hO, .inr (4, [.int 1, .int xB, .int xC, .ref qP, .int xP, .ref qN, .int xS, .ref qY, .ref qD, .int xA, .ref qR, .ref qM, .ref qT, .int xw, .int xa, .int xb, .int xc])), (qM, .inl (g.2.1.1, 4096, .inl gm))] := hD
      refine lv_aload_n hx hb dX6_memoryAt_20 rfl (lv_at hl 0 rfl) ?_
      refine va_get (D := g.1) (ci := 4) (v := .int 1) (C := RX6) (T := TX6) (N := 17) hx hb hts iX6 hown hK hP 0 rfl rfl 0 (by decide) (hts (.fieldLink RX6 35 "FaultIsolationModel" "thrown" "I") (by decide +kernel)) (fun _ h9 => h9) rfl dX6_memoryAt_21 ?_
      refine lv_if_le (tgt := 31) hx hb dX6_memoryAt_24 (by decide) (fun c_5 => absurd c_5 (by decide)) (fun _ => ?_)
      refine lv_iconst (v := 0) hx hb dX6_memoryAt_27 (by decide) ?_
      refine lv_goto (tgt := 37) hx hb dX6_memoryAt_28 (by decide) ?_
      exact k_iret hx hb hr hlocks ⟨hK, hP, hD, hS, hA, hE, hN⟩ rfl dX6_memoryAt_37 (Nat.le_of_ble_eq_true rfl) (Nat.le_of_ble_eq_true rfl) ⟨(by simp only [sp_X6_memoryAt, sp_X6_memoryAt_thrown, if_neg c_0, if_neg c_2]), (by simp only [sp_X6_memoryAt, sp_X6_memoryAt_thrown, if_neg c_0, if_neg c_2])⟩
