def fun_fw (gp : Nat → Int32) (n : Nat) : Int32 := if n = 0 then 0 else fu (fun x => sp_X6_isSound gp n x) n 0
set_option maxHeartbeats 4000000 in
set_option maxRecDepth 100000 in
theorem c_X6_firstWrong (l : Launch) (g : KG) (hO : Nat) (qP : Nat) (qN : Nat) (qY : Nat) (qD : Nat) (qR : Nat) (qM : Nat) (qT : Nat) (gp : Nat → Int32) (xT : Int32) (xB : Int32) (n : Nat) (xP : Int32) (xS : Int32) (xA : Int32) (xw : Int32) (xa : Int32) (xb : Int32) (xc : Int32) (hn : n ≤ 60) : Ci l g yX6_firstWrong wsX6_firstWrong ({ frames := 3, cells := 0, slots := 0, locals := 62 }) [.ref hO] [(hO, .inr (4, [.int xT, .int xB, .int (nI n), .ref qP, .int xP, .ref qN, .int xS, .ref qY, .ref qD, .int xA, .ref qR, .ref qM, .ref qT, .int xw, .int xa, .int xb, .int xc])), (qP, .inl (g.2.1.1, 240, .inl gp))] (fun r u => r = fun_fw gp n ∧ ∃ (y0_13 : Int32) (y0_14 : Int32) (y0_15 : Int32) (y0_16 : Int32), u = [(hO, .inr (4, [.int xT, .int xB, .int (nI n), .ref qP, .int xP, .ref qN, .int xS, .ref qY, .ref qD, .int xA, .ref qR, .ref qM, .ref qT, .int y0_13, .int y0_14, .int y0_15, .int y0_16])), (qP, .inl (g.2.1.1, 240, .inl gp))]) 0 0 := by
  intro sz
  refine Met.ofW (cc := cX6_firstWrong) (maxL := 2) (ret := (some .int)) (by decide) rfl ?_
  intro p e s m args below meth c s₁ B hml hv
  obtain ⟨rfl, hsz, hP, hK, hD0, hE, hN⟩ := hv
  have hx := B.exec
  have hb := B.bytes
  have hr := B.returns
  have hts := atoms_spec (ws := wsX6_firstWrong) B.pre
  have hown : s.vm.findClass RX6 = some m.cls := findClass_of_methodNamed B.named
  have hlocks := B.notSynchronized
  have iX6 : ∀ w ∈ u_ws RX6 TX6 17, w ∈ wsX6_firstWrong := by decide +kernel
  subst hsz
  have hD := hD0.self (sz := s.heap.size)
  generalize hAe : va_A [(hO, .inr (4, [.int xT, .int xB, .int (nI n), .ref qP, .int xP, .ref qN, .int xS, .ref qY, .ref qD, .int xA, .ref qR, .ref qM, .ref qT, .int xw, .int xa, .int xb, .int xc])), (qP, .inl (g.2.1.1, 240, .inl gp))] s.heap.size = A at hD hE ⊢
  have hA : ∀ q : Nat, s.heap.size ≤ q → A q := fun q h => by rw [← hAe]; exact Or.inr h
  have hS : va_S A s.heap s.heap [] := va_S.rf
  have hl := lv_entry ([.ref hO]) (n := 2) (Nat.le_of_ble_eq_true rfl)
  rw [lg_entry_eq]
  generalize (lg_sl ([.ref hO]) ++ List.replicate (2 - (lg_sl ([.ref hO])).length) Slot.unset).toArray = ls at hl ⊢
  have hl : lv_has ls 2 [(0, .ref hO)] := hl
  refine lv_iconst (v := 0) hx hb dX6_firstWrong_0 (by decide) ?_
  refine lv_istore_n (lv' := [(1, .int 0), (0, .ref hO)]) hx hb dX6_firstWrong_1 rfl hl (by decide) rfl (fun ls hl => ?_)
  have loop_2 : ∀ (K : Nat) (j : Nat) (yw : Int32) (ya : Int32) (yb : Int32) (yc : Int32) (h2 : j ≤ n) (hq : fun_fw gp n = if n = 0 then 0 else fu (fun x => sp_X6_isSound gp n x) (n - j) j), n - j < K → ∀ (H : Heap) (locs : List Loc) (ls : Array Slot), va_P g.1 vwCl [(hO, .inr (4, [.int xT, .int xB, .int (nI n), .ref qP, .int xP, .ref qN, .int xS, .ref qY, .ref qD, .int xA, .ref qR, .ref qM, .ref qT, .int yw, .int ya, .int yb, .int yc])), (qP, .inl (g.2.1.1, 240, .inl gp))] H → va_D A [(hO, .inr (4, [.int xT, .int xB, .int (nI n), .ref qP, .int xP, .ref qN, .int xS, .ref qY, .ref qD, .int xA, .ref qR, .ref qM, .ref qT, .int yw, .int ya, .int yb, .int yc])), (qP, .inl (g.2.1.1, 240, .inl gp))] → va_S A s.heap H locs → lv_has ls 2 [(0, .ref hO), (1, .int (nI j))] → W p l e (headSpec wsX6_firstWrong ({ frames := 3, cells := 0, slots := 0, locals := 62 })).room s m ([.ref hO] : List Value).toArray below meth c H locs 0 0 (MQ below (va_Qi (fun r u => r = fun_fw gp n ∧ ∃ (y0_13 : Int32) (y0_14 : Int32) (y0_15 : Int32) (y0_16 : Int32), u = [(hO, .inr (4, [.int xT, .int xB, .int (nI n), .ref qP, .int xP, .ref qN, .int xS, .ref qY, .ref qD, .int xA, .ref qR, .ref qM, .ref qT, .int y0_13, .int y0_14, .int y0_15, .int y0_16])), (qP, .inl (g.2.1.1, 240, .inl gp))]) (SB g A) A) ([.ref hO] : List Value).toArray s 0 0 A) (F0 m 2 ls []) := by
    intro K
    induction K with
    | zero => intro j yw ya yb yc h2 hq hm; exact absurd hm (Nat.not_lt_zero _)
    | succ K ih =>
      intro j yw ya yb yc h2 hq hm H locs ls hP hD hS hl
      refine lv_iload_n hx hb dX6_firstWrong_2 rfl (lv_at hl 1 rfl) ?_
      refine lv_aload_n hx hb dX6_firstWrong_3 rfl (lv_at hl 0 rfl) ?_
      refine va_get (D := g.1) (ci := 4) (v := .int (nI n)) (C := RX6) (T := TX6) (N := 17) hx hb hts iX6 hown hK hP 0 rfl rfl 2 (by decide) (hts (.fieldLink RX6 46 "FaultIsolationModel" "count" "I") (by decide +kernel)) (fun _ h9 => h9) rfl dX6_firstWrong_4 ?_
      refine lv_icmp_ge (tgt := 26) hx hb dX6_firstWrong_7 (by decide) (fun c_0 => ?_) (fun c_0 => ?_)
      · skip
        have z_0 := k_leT (a := n) (b := j) c_0 (by omega) (by omega)
        refine lv_aload_n hx hb dX6_firstWrong_26 rfl (lv_at hl 0 rfl) ?_
        refine va_get (D := g.1) (ci := 4) (v := .int (nI n)) (C := RX6) (T := TX6) (N := 17) hx hb hts iX6 hown hK hP 0 rfl rfl 2 (by decide) (hts (.fieldLink RX6 46 "FaultIsolationModel" "count" "I") (by decide +kernel)) (fun _ h9 => h9) rfl dX6_firstWrong_27 ?_
        refine lv_if_ne (tgt := 37) hx hb dX6_firstWrong_30 (by decide) (fun c_1 => ?_) (fun c_1 => ?_)
        · skip
          have z_1 := k_eqF (a := n) (b := 0) c_1 (by omega) (by omega)
          refine lv_iconst (v := (-1)) hx hb dX6_firstWrong_37 (by decide) ?_
          exact k_iret hx hb hr hlocks ⟨hK, hP, hD, hS, hA, hE, hN⟩ rfl dX6_firstWrong_38 (Nat.le_of_ble_eq_true rfl) (Nat.le_of_ble_eq_true rfl) ⟨by rw [hq, if_neg (by omega), show n - j = 0 by omega]; rfl, (yw), (ya), (yb), (yc), rfl⟩
        · skip
          have z_1 := k_eqT (a := n) (b := 0) c_1 (by omega) (by omega)
          refine lv_iconst (v := 0) hx hb dX6_firstWrong_33 (by decide) ?_
          refine lv_goto (tgt := 38) hx hb dX6_firstWrong_34 (by decide) ?_
          exact k_iret hx hb hr hlocks ⟨hK, hP, hD, hS, hA, hE, hN⟩ rfl dX6_firstWrong_38 (Nat.le_of_ble_eq_true rfl) (Nat.le_of_ble_eq_true rfl) ⟨by rw [hq, if_pos (by omega)], (yw), (ya), (yb), (yc), rfl⟩
      · skip
        have z_0 := k_leF (a := n) (b := j) c_0 (by omega) (by omega)
        refine lv_aload_n hx hb dX6_firstWrong_10 rfl (lv_at hl 0 rfl) ?_
        refine lv_iload_n hx hb dX6_firstWrong_11 rfl (lv_at hl 1 rfl) ?_
        refine kiV (As := [.int (nI j)]) (rest := []) (wc := [(hO, .inr (4, [.int xT, .int xB, .int (nI n), .ref qP, .int xP, .ref qN, .int xS, .ref qY, .ref qD, .int xA, .ref qR, .ref qM, .ref qT, .int yw, .int ya, .int yb, .int yc])), (qP, .inl (g.2.1.1, 240, .inl gp))]) (wr := []) ⟨hx, hb, hml, hown, hts⟩ (c_X6_isSound l g hO qP qN qY qD qR qM qT gp xT xB n xP xS xA yw ya yb yc j hn (by omega)) (cwV 1 hts gX6_firstWrong_X6_isSound rfl rfl rfl (by decide +kernel) ⟨Nat.le_of_ble_eq_true rfl, Nat.le_of_ble_eq_true rfl⟩) ⟨hK, hP, hD, hS, hA, hE, hN⟩ [0, 1] [] ⟨rfl, rfl, by decide⟩ (q0 := 0) (ci := 4) rfl rfl rfl rfl hl.1 (Nat.le_of_ble_eq_true rfl) dX6_firstWrong_12 ⟨Nat.le_of_ble_eq_true rfl, Nat.le_of_ble_eq_true rfl⟩ rfl (fun r u H locs hw hP hD hS => ?_)
        obtain ⟨hq, y0_13_2, y0_14_2, y0_15_2, y0_16_2, hw⟩ := hw
        subst r
        subst hw
        have hP := hP.sub (ws' := [(hO, .inr (4, [.int xT, .int xB, .int (nI n), .ref qP, .int xP, .ref qN, .int xS, .ref qY, .ref qD, .int xA, .ref qR, .ref qM, .ref qT, .int y0_13_2, .int y0_14_2, .int y0_15_2, .int y0_16_2])), (qP, .inl (g.2.1.1, 240, .inl gp))]) [0, 1] rfl
        have hD := hD.sub (ws' := [(hO, .inr (4, [.int xT, .int xB, .int (nI n), .ref qP, .int xP, .ref qN, .int xS, .ref qY, .ref qD, .int xA, .ref qR, .ref qM, .ref qT, .int y0_13_2, .int y0_14_2, .int y0_15_2, .int y0_16_2])), (qP, .inl (g.2.1.1, 240, .inl gp))]) [0, 1] (by decide) rfl
        refine lv_if_ne (tgt := 20) hx hb dX6_firstWrong_15 (by decide) (fun c_3 => ?_) (fun c_3 => ?_)
        · skip
          refine lv_iinc (v := (nI (j + 1))) (lv' := [(1, .int (nI (j + 1))), (0, .ref hO)]) hx hb dX6_firstWrong_20 hl (k := 1) rfl (nI_add _ _) (by decide) rfl (fun ls hl => ?_)
          refine lv_goto (tgt := 2) hx hb dX6_firstWrong_23 (by decide) ?_
          exact ih (j + 1) y0_13_2 y0_14_2 y0_15_2 y0_16_2 (by omega) (by rw [hq, if_neg (by omega), if_neg (by omega), fu_s (by omega), if_neg c_3]) (by omega) _ _ _ hP hD hS (lv_sub hl [1, 0] rfl)
        · skip
          refine lv_iload_n hx hb dX6_firstWrong_18 rfl (lv_at hl 1 rfl) ?_
          exact k_iret hx hb hr hlocks ⟨hK, hP, hD, hS, hA, hE, hN⟩ rfl dX6_firstWrong_19 (Nat.le_of_ble_eq_true rfl) (Nat.le_of_ble_eq_true rfl) ⟨by rw [hq, if_neg (by omega), fu_s (by omega), if_pos c_3], (y0_13_2), (y0_14_2), (y0_15_2), (y0_16_2), rfl⟩
  exact loop_2 (n - 0 + 1) 0 xw xa xb xc (Nat.zero_le _) rfl (Nat.lt_succ_self _) _ _ _ hP hD hS (lv_sub hl [1, 0] rfl)
def sp_X6_wrong (gp : Nat → Int32) (n : Nat) : Int32 := fun_fw gp n
def sp_X6_wrong_thrown  : Int32 := 0
set_option maxHeartbeats 4000000 in
set_option maxRecDepth 100000 in
theorem c_X6_wrong (l : Launch) (g : KG) (hO : Nat) (qP : Nat) (qN : Nat) (qY : Nat) (qD : Nat) (qR : Nat) (qM : Nat) (qT : Nat) (gp : Nat → Int32) (xT : Int32) (xB : Int32) (n : Nat) (xP : Int32) (xS : Int32) (xA : Int32) (xw : Int32) (xa : Int32) (xb : Int32) (xc : Int32) (hn : n ≤ 60) : Ci l g yX6_wrong wsX6_wrong ({ frames := 4, cells := 0, slots := 0, locals := 83 }) [.ref hO] [(hO, .inr (4, [.int xT, .int xB, .int (nI n), .ref qP, .int xP, .ref qN, .int xS, .ref qY, .ref qD, .int xA, .ref qR, .ref qM, .ref qT, .int xw, .int xa, .int xb, .int xc])), (qP, .inl (g.2.1.1, 240, .inl gp))] (fun r u => r = sp_X6_wrong gp n ∧ ∃ (y0_13 : Int32) (y0_14 : Int32) (y0_15 : Int32) (y0_16 : Int32), u = [(hO, .inr (4, [.int sp_X6_wrong_thrown, .int xB, .int (nI n), .ref qP, .int xP, .ref qN, .int xS, .ref qY, .ref qD, .int xA, .ref qR, .ref qM, .ref qT, .int y0_13, .int y0_14, .int y0_15, .int y0_16])), (qP, .inl (g.2.1.1, 240, .inl gp))]) 0 0 := by
  intro sz
  refine Met.ofW (cc := cX6_wrong) (maxL := 1) (ret := (some .int)) (by decide) rfl ?_
  intro p e s m args below meth c s₁ B hml hv
  obtain ⟨rfl, hsz, hP, hK, hD0, hE, hN⟩ := hv
  have hx := B.exec
  have hb := B.bytes
  have hr := B.returns
  have hts := atoms_spec (ws := wsX6_wrong) B.pre
  have hown : s.vm.findClass RX6 = some m.cls := findClass_of_methodNamed B.named
  have hlocks := B.notSynchronized
  have iX6 : ∀ w ∈ u_ws RX6 TX6 17, w ∈ wsX6_wrong := by decide +kernel
  subst hsz
  have hD := hD0.self (sz := s.heap.size)
  generalize hAe : va_A [(hO, .inr (4, [.int xT, .int xB, .int (nI n), .ref qP, .int xP, .ref qN, .int xS, .ref qY, .ref qD, .int xA, .ref qR, .ref qM, .ref qT, .int xw, .int xa, .int xb, .int xc])), (qP, .inl (g.2.1.1, 240, .inl gp))] s.heap.size = A at hD hE ⊢
  have hA : ∀ q : Nat, s.heap.size ≤ q → A q := fun q h => by rw [← hAe]; exact Or.inr h
  have hS : va_S A s.heap s.heap [] := va_S.rf
  have hl := lv_entry ([.ref hO]) (n := 1) (Nat.le_of_ble_eq_true rfl)
  rw [lg_entry_eq]
  generalize (lg_sl ([.ref hO]) ++ List.replicate (1 - (lg_sl ([.ref hO])).length) Slot.unset).toArray = ls at hl ⊢
  have hl : lv_has ls 1 [(0, .ref hO)] := hl
  refine lv_aload_n hx hb dX6_wrong_0 rfl (lv_at hl 0 rfl) ?_
  refine lv_iconst (v := 0) hx hb dX6_wrong_1 (by decide) ?_
  refine va_put (D := g.1) (ci := 4) (v := .int 0) (ty := .int) (C := RX6) (T := TX6) (N := 17) hx hb hts iX6 tyX6 tyX6_ok nmX6 hown hK hP hD hS 0 rfl rfl 0 (by decide) (hts (.fieldLink RX6 35 "FaultIsolationModel" "thrown" "I") (by decide +kernel)) (fun _ h9 => h9) rfl (by decide +kernel) rfl rfl (Nat.le_of_ble_eq_true rfl) dX6_wrong_2 (fun H locs hP hD hS => ?_)
  have hP : va_P g.1 vwCl [(hO, .inr (4, [.int 0, .int xB, .int (nI n), .ref qP, .int xP, .ref qN, .int xS, .ref qY, .ref qD, .int xA, .ref qR, .ref qM, .ref qT, .int xw, .int xa, .int xb, .int xc])), (qP, .inl (g.2.1.1, 240, .inl gp))] H := hP
  have hD : va_D A [(hO, .inr (4, [.int 0, .int xB, .int (nI n), .ref qP, .int xP, .ref qN, .int xS, .ref qY, .ref qD, .int xA, .ref qR, .ref qM, .ref qT, .int xw, .int xa, .int xb, .int xc])), (qP, .inl (g.2.1.1, 240, .inl gp))] := hD
  refine lv_aload_n hx hb dX6_wrong_5 rfl (lv_at hl 0 rfl) ?_
  refine kiV (As := []) (rest := []) (wc := [(hO, .inr (4, [.int 0, .int xB, .int (nI n), .ref qP, .int xP, .ref qN, .int xS, .ref qY, .ref qD, .int xA, .ref qR, .ref qM, .ref qT, .int xw, .int xa, .int xb, .int xc])), (qP, .inl (g.2.1.1, 240, .inl gp))]) (wr := []) ⟨hx, hb, hml, hown, hts⟩ (c_X6_firstWrong l g hO qP qN qY qD qR qM qT gp 0 xB n xP xS xA xw xa xb xc hn) (cwV 0 hts gX6_wrong_X6_firstWrong rfl rfl rfl (by decide +kernel) ⟨Nat.le_of_ble_eq_true rfl, Nat.le_of_ble_eq_true rfl⟩) ⟨hK, hP, hD, hS, hA, hE, hN⟩ [0, 1] [] ⟨rfl, rfl, by decide⟩ (q0 := 0) (ci := 4) rfl rfl rfl rfl hl.1 (Nat.le_of_ble_eq_true rfl) dX6_wrong_6 ⟨Nat.le_of_ble_eq_true rfl, Nat.le_of_ble_eq_true rfl⟩ rfl (fun r u H locs hw hP hD hS => ?_)
  obtain ⟨hq, y0_13_0, y0_14_0, y0_15_0, y0_16_0, hw⟩ := hw
  subst r
  subst hw
  have hP := hP.sub (ws' := [(hO, .inr (4, [.int 0, .int xB, .int (nI n), .ref qP, .int xP, .ref qN, .int xS, .ref qY, .ref qD, .int xA, .ref qR, .ref qM, .ref qT, .int y0_13_0, .int y0_14_0, .int y0_15_0, .int y0_16_0])), (qP, .inl (g.2.1.1, 240, .inl gp))]) [0, 1] rfl
  have hD := hD.sub (ws' := [(hO, .inr (4, [.int 0, .int xB, .int (nI n), .ref qP, .int xP, .ref qN, .int xS, .ref qY, .ref qD, .int xA, .ref qR, .ref qM, .ref qT, .int y0_13_0, .int y0_14_0, .int y0_15_0, .int y0_16_0])), (qP, .inl (g.2.1.1, 240, .inl gp))]) [0, 1] (by decide) rfl
  exact k_iret hx hb hr hlocks ⟨hK, hP, hD, hS, hA, hE, hN⟩ rfl dX6_wrong_9 (Nat.le_of_ble_eq_true rfl) (Nat.le_of_ble_eq_true rfl) ⟨rfl, (y0_13_0), (y0_14_0), (y0_15_0), (y0_16_0), rfl⟩
