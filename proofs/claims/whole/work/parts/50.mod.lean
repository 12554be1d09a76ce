def ldS (gp : Nat → Int32) (pl : Int32) (j : Nat) (v : Int32) : Int32 := if v = 0 then (if sp_X6_isPlace (gp (4 * j)) = 0 then 0 else (if 256 * gp (4 * j + 2) + gp (4 * j + 3) = pl then 1 else 0)) else 1
def led6 (gp : Nat → Int32) (pl : Int32) : Nat → Int32
  | 0 => 0
  | j + 1 => ldS gp pl j (led6 gp pl j)
theorem led6_b (gp : Nat → Int32) (pl : Int32) : ∀ j, led6 gp pl j = 0 ∨ led6 gp pl j = 1
  | 0 => Or.inl rfl
  | j + 1 => by
    show ldS gp pl j (led6 gp pl j) = 0 ∨ ldS gp pl j (led6 gp pl j) = 1
    unfold ldS
    exact k_if01 (k_if01 (Or.inl rfl) (k_if01 (Or.inr rfl) (Or.inl rfl))) (Or.inr rfl)
def fl6 (e0 : Nat) : Nat → (Nat → Int32) → Nat → Int32
  | 0, gd => gd
  | t + 1, gd => sp_X6_write_draft (fl6 e0 t gd) (e0 + 4 * t) 6 0 0 0
theorem k_ff {e0 k t pl : Nat} (h2 : t ≤ k) (hp : (e0 + 4 * k) % 16 = pl) (hz : (e0 + 4 * t) % 16 ≠ pl) : t + 1 ≤ k := by
  rcases Nat.lt_or_ge t k with q | q
  · exact q
  · have e : t = k := Nat.le_antisymm h2 q
    subst e
    exact absurd hp hz
theorem k_fe {e0 k t pl : Nat} (h2 : t ≤ k) (hall : ∀ t, t < k → (e0 + 4 * t) % 16 ≠ pl) (hz : (e0 + 4 * t) % 16 = pl) : t = k := by
  rcases Nat.lt_or_ge t k with q | q
  · exact absurd hz (hall t q)
  · exact Nat.le_antisymm h2 q

set_option maxHeartbeats 4000000 in
set_option maxRecDepth 100000 in
theorem c_X6_isLedTo (l : Launch) (g : KG) (hO : Nat) (qP : Nat) (qN : Nat) (qY : Nat) (qD : Nat) (qR : Nat) (qM : Nat) (qT : Nat) (gp : Nat → Int32) (xT : Int32) (xB : Int32) (n : Nat) (xP : Int32) (xS : Int32) (xA : Int32) (xw : Int32) (xa : Int32) (xb : Int32) (xc : Int32) (pl : Int32) (hn : n ≤ 60) : Ci l g yX6_isLedTo wsX6_isLedTo ({ frames := 1, cells := 0, slots := 0, locals := 20 }) [.ref hO, .int pl] [(hO, .inr (4, [.int xT, .int xB, .int (nI n), .ref qP, .int xP, .ref qN, .int xS, .ref qY, .ref qD, .int xA, .ref qR, .ref qM, .ref qT, .int xw, .int xa, .int xb, .int xc])), (qP, .inl (g.2.1.1, 240, .inl gp))] (fun r u => r = led6 gp pl n ∧ u = [(hO, .inr (4, [.int xT, .int xB, .int (nI n), .ref qP, .int xP, .ref qN, .int xS, .ref qY, .ref qD, .int xA, .ref qR, .ref qM, .ref qT, .int xw, .int xa, .int xb, .int xc])), (qP, .inl (g.2.1.1, 240, .inl gp))]) 0 0 := by
  intro sz
  refine Met.ofW (cc := cX6_isLedTo) (maxL := 5) (ret := (some .boolean)) (by decide) rfl ?_
  intro p e s m args below meth c s₁ B hml hv
  obtain ⟨rfl, hsz, hP, hK, hD0, hE, hN⟩ := hv
  have hx := B.exec
  have hb := B.bytes
  have hr := B.returns
  have hts := atoms_spec (ws := wsX6_isLedTo) B.pre
  have hown : s.vm.findClass RX6 = some m.cls := findClass_of_methodNamed B.named
  have hlocks := B.notSynchronized
  have iX6 : ∀ w ∈ u_ws RX6 TX6 17, w ∈ wsX6_isLedTo := by decide +kernel
  subst hsz
  have hD := hD0.self (sz := s.heap.size)
  generalize hAe : va_A [(hO, .inr (4, [.int xT, .int xB, .int (nI n), .ref qP, .int xP, .ref qN, .int xS, .ref qY, .ref qD, .int xA, .ref qR, .ref qM, .ref qT, .int xw, .int xa, .int xb, .int xc])), (qP, .inl (g.2.1.1, 240, .inl gp))] s.heap.size = A at hD hE ⊢
  have hA : ∀ q : Nat, s.heap.size ≤ q → A q := fun q h => by rw [← hAe]; exact Or.inr h
  have hS : va_S A s.heap s.heap [] := va_S.rf
  have hl := lv_entry ([.ref hO, .int pl]) (n := 5) (Nat.le_of_ble_eq_true rfl)
  rw [lg_entry_eq]
  generalize (lg_sl ([.ref hO, .int pl]) ++ List.replicate (5 - (lg_sl ([.ref hO, .int pl])).length) Slot.unset).toArray = ls at hl ⊢
  have hl : lv_has ls 5 [(0, .ref hO), (1, .int pl)] := hl
  refine lv_iconst (v := 0) hx hb dX6_isLedTo_0 (by decide) ?_
  refine lv_istore_n (lv' := [(2, .int 0), (0, .ref hO), (1, .int pl)]) hx hb dX6_isLedTo_1 rfl hl (by decide) rfl (fun ls hl => ?_)
  refine lv_iconst (v := 0) hx hb dX6_isLedTo_2 (by decide) ?_
  refine lv_istore_n (lv' := [(3, .int 0), (2, .int 0), (0, .ref hO), (1, .int pl)]) hx hb dX6_isLedTo_3 rfl hl (by decide) rfl (fun ls hl => ?_)
  have loop_4 : ∀ (K : Nat) (j : Nat) (h2 : j ≤ n), n - j < K → ∀ (H : Heap) (locs : List Loc) (ls : Array Slot), va_P g.1 vwCl [(hO, .inr (4, [.int xT, .int xB, .int (nI n), .ref qP, .int xP, .ref qN, .int xS, .ref qY, .ref qD, .int xA, .ref qR, .ref qM, .ref qT, .int xw, .int xa, .int xb, .int xc])), (qP, .inl (g.2.1.1, 240, .inl gp))] H → va_D A [(hO, .inr (4, [.int xT, .int xB, .int (nI n), .ref qP, .int xP, .ref qN, .int xS, .ref qY, .ref qD, .int xA, .ref qR, .ref qM, .ref qT, .int xw, .int xa, .int xb, .int xc])), (qP, .inl (g.2.1.1, 240, .inl gp))] → va_S A s.heap H locs → lv_has ls 5 [(0, .ref hO), (1, .int pl), (2, .int (led6 gp pl j)), (3, .int (nI j))] → W p l e (headSpec wsX6_isLedTo ({ frames := 1, cells := 0, slots := 0, locals := 20 })).room s m ([.ref hO, .int pl] : List Value).toArray below meth c H locs 0 0 (MQ below (va_Qi (fun r u => r = led6 gp pl n ∧ u = [(hO, .inr (4, [.int xT, .int xB, .int (nI n), .ref qP, .int xP, .ref qN, .int xS, .ref qY, .ref qD, .int xA, .ref qR, .ref qM, .ref qT, .int xw, .int xa, .int xb, .int xc])), (qP, .inl (g.2.1.1, 240, .inl gp))]) (SB g A) A) ([.ref hO, .int pl] : List Value).toArray s 0 0 A) (F0 m 4 ls []) := by
    intro K
    induction K with
    | zero => intro j h2 hm; exact absurd hm (Nat.not_lt_zero _)
    | succ K ih =>
      intro j h2 hm H locs ls hP hD hS hl
      refine lv_iload_n hx hb dX6_isLedTo_4 rfl (lv_at hl 3 rfl) ?_
      refine lv_aload_n hx hb dX6_isLedTo_5 rfl (lv_at hl 0 rfl) ?_
      refine va_get (D := g.1) (ci := 4) (v := .int (nI n)) (C := RX6) (T := TX6) (N := 17) hx hb hts iX6 hown hK hP 0 rfl rfl 2 (by decide) (hts (.fieldLink RX6 46 "FaultIsolationModel" "count" "I") (by decide +kernel)) (fun _ h9 => h9) rfl dX6_isLedTo_6 ?_
      refine lv_icmp_ge (tgt := 83) hx hb dX6_isLedTo_9 (by decide) (fun c_0 => ?_) (fun c_0 => ?_)
      · skip
        have z_0 := k_leT (a := n) (b := j) c_0 (by omega) (by omega)
        refine lv_iload_n hx hb dX6_isLedTo_83 rfl (lv_at hl 2 rfl) ?_
        exact k_iret hx hb hr hlocks ⟨hK, hP, hD, hS, hA, hE, hN⟩ (kz_b (led6_b _ _ _)) dX6_isLedTo_84 (Nat.le_of_ble_eq_true rfl) (Nat.le_of_ble_eq_true rfl) (by have e : j = n := (by omega); subst e; exact ⟨rfl, rfl⟩)
      · skip
        have z_0 := k_leF (a := n) (b := j) c_0 (by omega) (by omega)
        refine lv_aload_n hx hb dX6_isLedTo_12 rfl (lv_at hl 0 rfl) ?_
        refine va_get (D := g.1) (ci := 4) (v := .ref qP) (C := RX6) (T := TX6) (N := 17) hx hb hts iX6 hown hK hP 0 rfl rfl 3 (by decide) (hts (.fieldLink RX6 7 "FaultIsolationModel" "program" "[I") (by decide +kernel)) (fun _ h9 => h9) rfl dX6_isLedTo_13 ?_
        refine lv_iconst (v := 4) hx hb dX6_isLedTo_16 (by decide) ?_
        refine lv_iload_n hx hb dX6_isLedTo_17 rfl (lv_at hl 3 rfl) ?_
        refine lv_imul hx hb dX6_isLedTo_18 ?_
        refine lv_topi (fun y9 e9 => ?_)
        rw [show (4 * (nI j) : Int32) = nI (4 * j) from pk_mul _ _] at e9
        subst e9
        refine va_iald hx hb hK hP 1 0 rfl rfl (vp_in_nI (by omega) (by decide)) dX6_isLedTo_19 ?_
        refine lv_topi (fun y9 e9 => ?_)
        rw [show (gp (nI (4 * j)).toNatClampNeg : Int32) = gp (4 * j) from congrArg gp (nI_clamp (by omega))] at e9
        subst e9
        refine kiS (As := [.int (gp (4 * j))]) (rest := []) (wc := []) (wr := [(hO, .inr (4, [.int xT, .int xB, .int (nI n), .ref qP, .int xP, .ref qN, .int xS, .ref qY, .ref qD, .int xA, .ref qR, .ref qM, .ref qT, .int xw, .int xa, .int xb, .int xc])), (qP, .inl (g.2.1.1, 240, .inl gp))]) ⟨hx, hb, hml, hown, hts⟩ (c_X6_isPlace l g (gp (4 * j))) (va_cwS 1 hts gX6_isLedTo_X6_isPlace rfl rfl rfl (by decide +kernel) ⟨Nat.le_of_ble_eq_true rfl, Nat.le_of_ble_eq_true rfl⟩) ⟨hK, hP, hD, hS, hA, hE, hN⟩ [] [0, 1] ⟨rfl, rfl, by decide⟩ rfl hl.1 (Nat.le_of_ble_eq_true rfl) dX6_isLedTo_20 ⟨Nat.le_of_ble_eq_true rfl, Nat.le_of_ble_eq_true rfl⟩ rfl (fun r u H locs hw hP hD hS => ?_)
        obtain ⟨hq, hw⟩ := hw
        subst r
        subst hw
        have hP := hP.sub (ws' := [(hO, .inr (4, [.int xT, .int xB, .int (nI n), .ref qP, .int xP, .ref qN, .int xS, .ref qY, .ref qD, .int xA, .ref qR, .ref qM, .ref qT, .int xw, .int xa, .int xb, .int xc])), (qP, .inl (g.2.1.1, 240, .inl gp))]) [0, 1] rfl
        have hD := hD.sub (ws' := [(hO, .inr (4, [.int xT, .int xB, .int (nI n), .ref qP, .int xP, .ref qN, .int xS, .ref qY, .ref qD, .int xA, .ref qR, .ref qM, .ref qT, .int xw, .int xa, .int xb, .int xc])), (qP, .inl (g.2.1.1, 240, .inl gp))]) [0, 1] (by decide) rfl
        refine lv_if_eq (tgt := 59) hx hb dX6_isLedTo_23 (by decide) (fun c_1 => ?_) (fun c_1 => ?_)
        · skip
          refine lv_iconst (v := 0) hx hb dX6_isLedTo_59 (by decide) ?_
          refine lv_istore (lv' := [(4, .int 0), (0, .ref hO), (1, .int pl), (2, .int (led6 gp pl j)), (3, .int (nI j))]) hx hb dX6_isLedTo_60 hl (by decide) rfl (fun ls hl => ?_)
          refine lv_iload_n hx hb dX6_isLedTo_62 rfl (lv_at hl 3 rfl) ?_
          refine lv_if_ne (tgt := 71) hx hb dX6_isLedTo_63 (by decide) (fun c_2 => ?_) (fun c_2 => ?_)
          · skip
            refine lv_iconst (v := 1) hx hb dX6_isLedTo_71 (by decide) ?_
            refine lv_goto (tgt := 76) hx hb dX6_isLedTo_72 (by decide) ?_
            refine lv_istore_n (lv' := [(2, .int 1), (4, .int 0), (0, .ref hO), (1, .int pl), (3, .int (nI j))]) hx hb dX6_isLedTo_76 rfl hl (by decide) rfl (fun ls hl => ?_)
            refine lv_iinc (v := (nI (j + 1))) (lv' := [(3, .int (nI (j + 1))), (2, .int 1), (4, .int 0), (0, .ref hO), (1, .int pl)]) hx hb dX6_isLedTo_77 hl (k := 4) rfl (nI_add _ _) (by decide) rfl (fun ls hl => ?_)
            refine lv_goto (tgt := 4) hx hb dX6_isLedTo_80 (by decide) ?_
            rw [show (1 : Int32) = led6 gp pl (j + 1) from (by simp only [led6, ldS, if_neg c_0, if_pos c_1, if_neg c_2])] at hl
            exact ih (j + 1) (by omega) (by omega) _ _ _ hP hD hS (lv_sub hl [3, 4, 1, 0] rfl)
          · skip
            refine lv_iload hx hb dX6_isLedTo_66 (lv_at hl 0 rfl) ?_
            refine lv_if_eq (tgt := 75) hx hb dX6_isLedTo_68 (by decide) (fun _ => ?_) (fun c_3 => absurd c_3 (by decide))
            refine lv_iconst (v := 0) hx hb dX6_isLedTo_75 (by decide) ?_
            refine lv_istore_n (lv' := [(2, .int 0), (4, .int 0), (0, .ref hO), (1, .int pl), (3, .int (nI j))]) hx hb dX6_isLedTo_76 rfl hl (by decide) rfl (fun ls hl => ?_)
            refine lv_iinc (v := (nI (j + 1))) (lv' := [(3, .int (nI (j + 1))), (2, .int 0), (4, .int 0), (0, .ref hO), (1, .int pl)]) hx hb dX6_isLedTo_77 hl (k := 4) rfl (nI_add _ _) (by decide) rfl (fun ls hl => ?_)
            refine lv_goto (tgt := 4) hx hb dX6_isLedTo_80 (by decide) ?_
            rw [show (0 : Int32) = led6 gp pl (j + 1) from (by simp only [led6, ldS, if_neg c_0, if_pos c_1, if_pos c_2])] at hl
            exact ih (j + 1) (by omega) (by omega) _ _ _ hP hD hS (lv_sub hl [3, 4, 1, 0] rfl)
        · skip
          refine lv_sipush (v := 256) hx hb dX6_isLedTo_26 (by decide) ?_
          refine lv_aload_n hx hb dX6_isLedTo_29 rfl (lv_at hl 0 rfl) ?_
          refine va_get (D := g.1) (ci := 4) (v := .ref qP) (C := RX6) (T := TX6) (N := 17) hx hb hts iX6 hown hK hP 0 rfl rfl 3 (by decide) (hts (.fieldLink RX6 7 "FaultIsolationModel" "program" "[I") (by decide +kernel)) (fun _ h9 => h9) rfl dX6_isLedTo_30 ?_
          refine lv_iconst (v := 4) hx hb dX6_isLedTo_33 (by decide) ?_
          refine lv_iload_n hx hb dX6_isLedTo_34 rfl (lv_at hl 3 rfl) ?_
          refine lv_imul hx hb dX6_isLedTo_35 ?_
          refine lv_topi (fun y9 e9 => ?_)
          rw [show (4 * (nI j) : Int32) = nI (4 * j) from pk_mul _ _] at e9
          subst e9
          refine lv_iconst (v := 2) hx hb dX6_isLedTo_36 (by decide) ?_
          refine lv_iadd hx hb dX6_isLedTo_37 ?_
          refine lv_topi (fun y9 e9 => ?_)
          rw [show ((nI (4 * j)) + 2 : Int32) = nI ((4 * j) + 2) from nI_add _ _] at e9
          subst e9
          refine va_iald hx hb hK hP 1 0 rfl rfl (vp_in_nI (by omega) (by decide)) dX6_isLedTo_38 ?_
          refine lv_topi (fun y9 e9 => ?_)
          rw [show (gp (nI ((4 * j) + 2)).toNatClampNeg : Int32) = gp ((4 * j) + 2) from congrArg gp (nI_clamp (by omega))] at e9
          subst e9
          refine lv_imul hx hb dX6_isLedTo_39 ?_
          refine lv_aload_n hx hb dX6_isLedTo_40 rfl (lv_at hl 0 rfl) ?_
          refine va_get (D := g.1) (ci := 4) (v := .ref qP) (C := RX6) (T := TX6) (N := 17) hx hb hts iX6 hown hK hP 0 rfl rfl 3 (by decide) (hts (.fieldLink RX6 7 "FaultIsolationModel" "program" "[I") (by decide +kernel)) (fun _ h9 => h9) rfl dX6_isLedTo_41 ?_
          refine lv_iconst (v := 4) hx hb dX6_isLedTo_44 (by decide) ?_
          refine lv_iload_n hx hb dX6_isLedTo_45 rfl (lv_at hl 3 rfl) ?_
          refine lv_imul hx hb dX6_isLedTo_46 ?_
          refine lv_topi (fun y9 e9 => ?_)
          rw [show (4 * (nI j) : Int32) = nI (4 * j) from pk_mul _ _] at e9
          subst e9
          refine lv_iconst (v := 3) hx hb dX6_isLedTo_47 (by decide) ?_
          refine lv_iadd hx hb dX6_isLedTo_48 ?_
          refine lv_topi (fun y9 e9 => ?_)
          rw [show ((nI (4 * j)) + 3 : Int32) = nI ((4 * j) + 3) from nI_add _ _] at e9
          subst e9
          refine va_iald hx hb hK hP 1 0 rfl rfl (vp_in_nI (by omega) (by decide)) dX6_isLedTo_49 ?_
          refine lv_topi (fun y9 e9 => ?_)
          rw [show (gp (nI ((4 * j) + 3)).toNatClampNeg : Int32) = gp ((4 * j) + 3) from congrArg gp (nI_clamp (by omega))] at e9
          subst e9
          refine lv_iadd hx hb dX6_isLedTo_50 ?_
          refine lv_iload_n hx hb dX6_isLedTo_51 rfl (lv_at hl 1 rfl) ?_
          refine lv_icmp_ne (tgt := 59) hx hb dX6_isLedTo_52 (by decide) (fun c_4 => ?_) (fun c_4 => ?_)
          · skip
            refine lv_iconst (v := 0) hx hb dX6_isLedTo_59 (by decide) ?_
            refine lv_istore (lv' := [(4, .int 0), (0, .ref hO), (1, .int pl), (2, .int (led6 gp pl j)), (3, .int (nI j))]) hx hb dX6_isLedTo_60 hl (by decide) rfl (fun ls hl => ?_)
            refine lv_iload_n hx hb dX6_isLedTo_62 rfl (lv_at hl 3 rfl) ?_
            refine lv_if_ne (tgt := 71) hx hb dX6_isLedTo_63 (by decide) (fun c_5 => ?_) (fun c_5 => ?_)
            · skip
              refine lv_iconst (v := 1) hx hb dX6_isLedTo_71 (by decide) ?_
              refine lv_goto (tgt := 76) hx hb dX6_isLedTo_72 (by decide) ?_
              refine lv_istore_n (lv' := [(2, .int 1), (4, .int 0), (0, .ref hO), (1, .int pl), (3, .int (nI j))]) hx hb dX6_isLedTo_76 rfl hl (by decide) rfl (fun ls hl => ?_)
              refine lv_iinc (v := (nI (j + 1))) (lv' := [(3, .int (nI (j + 1))), (2, .int 1), (4, .int 0), (0, .ref hO), (1, .int pl)]) hx hb dX6_isLedTo_77 hl (k := 4) rfl (nI_add _ _) (by decide) rfl (fun ls hl => ?_)
              refine lv_goto (tgt := 4) hx hb dX6_isLedTo_80 (by decide) ?_
              rw [show (1 : Int32) = led6 gp pl (j + 1) from (by simp only [led6, ldS, if_neg c_0, if_neg c_1, if_neg c_4, if_neg c_5])] at hl
              exact ih (j + 1) (by omega) (by omega) _ _ _ hP hD hS (lv_sub hl [3, 4, 1, 0] rfl)
            · skip
              refine lv_iload hx hb dX6_isLedTo_66 (lv_at hl 0 rfl) ?_
              refine lv_if_eq (tgt := 75) hx hb dX6_isLedTo_68 (by decide) (fun _ => ?_) (fun c_6 => absurd c_6 (by decide))
              refine lv_iconst (v := 0) hx hb dX6_isLedTo_75 (by decide) ?_
              refine lv_istore_n (lv' := [(2, .int 0), (4, .int 0), (0, .ref hO), (1, .int pl), (3, .int (nI j))]) hx hb dX6_isLedTo_76 rfl hl (by decide) rfl (fun ls hl => ?_)
              refine lv_iinc (v := (nI (j + 1))) (lv' := [(3, .int (nI (j + 1))), (2, .int 0), (4, .int 0), (0, .ref hO), (1, .int pl)]) hx hb dX6_isLedTo_77 hl (k := 4) rfl (nI_add _ _) (by decide) rfl (fun ls hl => ?_)
              refine lv_goto (tgt := 4) hx hb dX6_isLedTo_80 (by decide) ?_
              rw [show (0 : Int32) = led6 gp pl (j + 1) from (by simp only [led6, ldS, if_neg c_0, if_neg c_1, if_neg c_4, if_pos c_5])] at hl
              exact ih (j + 1) (by omega) (by omega) _ _ _ hP hD hS (lv_sub hl [3, 4, 1, 0] rfl)
          · skip
            refine lv_iconst (v := 1) hx hb dX6_isLedTo_55 (by decide) ?_
            refine lv_goto (tgt := 60) hx hb dX6_isLedTo_56 (by decide) ?_
            refine lv_istore (lv' := [(4, .int 1), (0, .ref hO), (1, .int pl), (2, .int (led6 gp pl j)), (3, .int (nI j))]) hx hb dX6_isLedTo_60 hl (by decide) rfl (fun ls hl => ?_)
            refine lv_iload_n hx hb dX6_isLedTo_62 rfl (lv_at hl 3 rfl) ?_
            refine lv_if_ne (tgt := 71) hx hb dX6_isLedTo_63 (by decide) (fun c_7 => ?_) (fun c_7 => ?_)
            · skip
              refine lv_iconst (v := 1) hx hb dX6_isLedTo_71 (by decide) ?_
              refine lv_goto (tgt := 76) hx hb dX6_isLedTo_72 (by decide) ?_
              refine lv_istore_n (lv' := [(2, .int 1), (4, .int 1), (0, .ref hO), (1, .int pl), (3, .int (nI j))]) hx hb dX6_isLedTo_76 rfl hl (by decide) rfl (fun ls hl => ?_)
              refine lv_iinc (v := (nI (j + 1))) (lv' := [(3, .int (nI (j + 1))), (2, .int 1), (4, .int 1), (0, .ref hO), (1, .int pl)]) hx hb dX6_isLedTo_77 hl (k := 4) rfl (nI_add _ _) (by decide) rfl (fun ls hl => ?_)
              refine lv_goto (tgt := 4) hx hb dX6_isLedTo_80 (by decide) ?_
              rw [show (1 : Int32) = led6 gp pl (j + 1) from (by simp only [led6, ldS, if_neg c_0, if_neg c_1, if_pos c_4, if_neg c_7])] at hl
              exact ih (j + 1) (by omega) (by omega) _ _ _ hP hD hS (lv_sub hl [3, 4, 1, 0] rfl)
            · skip
              refine lv_iload hx hb dX6_isLedTo_66 (lv_at hl 0 rfl) ?_
              refine lv_if_eq (tgt := 75) hx hb dX6_isLedTo_68 (by decide) (fun c_8 => absurd c_8 (by decide)) (fun _ => ?_)
              refine lv_iconst (v := 1) hx hb dX6_isLedTo_71 (by decide) ?_
              refine lv_goto (tgt := 76) hx hb dX6_isLedTo_72 (by decide) ?_
              refine lv_istore_n (lv' := [(2, .int 1), (4, .int 1), (0, .ref hO), (1, .int pl), (3, .int (nI j))]) hx hb dX6_isLedTo_76 rfl hl (by decide) rfl (fun ls hl => ?_)
              refine lv_iinc (v := (nI (j + 1))) (lv' := [(3, .int (nI (j + 1))), (2, .int 1), (4, .int 1), (0, .ref hO), (1, .int pl)]) hx hb dX6_isLedTo_77 hl (k := 4) rfl (nI_add _ _) (by decide) rfl (fun ls hl => ?_)
              refine lv_goto (tgt := 4) hx hb dX6_isLedTo_80 (by decide) ?_
              rw [show (1 : Int32) = led6 gp pl (j + 1) from (by simp only [led6, ldS, if_neg c_0, if_neg c_1, if_pos c_4, if_pos c_7])] at hl
              exact ih (j + 1) (by omega) (by omega) _ _ _ hP hD hS (lv_sub hl [3, 4, 1, 0] rfl)
  exact loop_4 (n - 0 + 1) 0 (Nat.zero_le _) (Nat.lt_succ_self _) _ _ _ hP hD hS (lv_sub hl [2, 3, 1, 0] rfl)

set_option maxHeartbeats 4000000 in
set_option maxRecDepth 100000 in
theorem c_X6_fillTo (l : Launch) (g : KG) (hO : Nat) (qP : Nat) (qN : Nat) (qY : Nat) (qD : Nat) (qR : Nat) (qM : Nat) (qT : Nat) (gd : Nat → Int32) (xT : Int32) (xB : Int32) (xC : Int32) (xP : Int32) (xS : Int32) (e0 : Nat) (xw : Int32) (xa : Int32) (xb : Int32) (xc : Int32) (k : Nat) (pl : Nat) (he : e0 + 4 * k + 3 < 4096) (hp : (e0 + 4 * k) % 16 = pl) (hall : ∀ t, t < k → (e0 + 4 * t) % 16 ≠ pl) : Cv l g yX6_fillTo wsX6_fillTo ({ frames := 1, cells := 0, slots := 0, locals := 24 }) [.ref hO, .int (nI pl)] [(hO, .inr (4, [.int xT, .int xB, .int xC, .ref qP, .int xP, .ref qN, .int xS, .ref qY, .ref qD, .int (nI e0), .ref qR, .ref qM, .ref qT, .int xw, .int xa, .int xb, .int xc])), (qD, .inl (g.2.1.1, 4096, .inl gd))] (fun u => u = [(hO, .inr (4, [.int xT, .int xB, .int xC, .ref qP, .int xP, .ref qN, .int xS, .ref qY, .ref qD, .int (nI (e0 + 4 * k)), .ref qR, .ref qM, .ref qT, .int xw, .int xa, .int xb, .int xc])), (qD, .inl (g.2.1.1, 4096, .inl (fl6 e0 k gd)))]) 0 0 := by
  intro sz
  refine Met.ofW (cc := cX6_fillTo) (maxL := 2) (ret := none) (by decide) rfl ?_
  intro p e s m args below meth c s₁ B hml hv
  obtain ⟨rfl, hsz, hP, hK, hD0, hE, hN⟩ := hv
  have hx := B.exec
  have hb := B.bytes
  have hr := B.returns
  have hts := atoms_spec (ws := wsX6_fillTo) B.pre
  have hown : s.vm.findClass RX6 = some m.cls := findClass_of_methodNamed B.named
  have hlocks := B.notSynchronized
  have iX6 : ∀ w ∈ u_ws RX6 TX6 17, w ∈ wsX6_fillTo := by decide +kernel
  subst hsz
  have hD := hD0.self (sz := s.heap.size)
  generalize hAe : va_A [(hO, .inr (4, [.int xT, .int xB, .int xC, .ref qP, .int xP, .ref qN, .int xS, .ref qY, .ref qD, .int (nI e0), .ref qR, .ref qM, .ref qT, .int xw, .int xa, .int xb, .int xc])), (qD, .inl (g.2.1.1, 4096, .inl gd))] s.heap.size = A at hD hE ⊢
  have hA : ∀ q : Nat, s.heap.size ≤ q → A q := fun q h => by rw [← hAe]; exact Or.inr h
  have hS : va_S A s.heap s.heap [] := va_S.rf
  have hl := lv_entry ([.ref hO, .int (nI pl)]) (n := 2) (Nat.le_of_ble_eq_true rfl)
  rw [lg_entry_eq]
  generalize (lg_sl ([.ref hO, .int (nI pl)]) ++ List.replicate (2 - (lg_sl ([.ref hO, .int (nI pl)])).length) Slot.unset).toArray = ls at hl ⊢
  have hl : lv_has ls 2 [(0, .ref hO), (1, .int (nI pl))] := hl
  have loop_0 : ∀ (K : Nat) (t : Nat) (h2 : t ≤ k), k - t < K → ∀ (H : Heap) (locs : List Loc) (ls : Array Slot), va_P g.1 vwCl [(hO, .inr (4, [.int xT, .int xB, .int xC, .ref qP, .int xP, .ref qN, .int xS, .ref qY, .ref qD, .int (nI (e0 + 4 * t)), .ref qR, .ref qM, .ref qT, .int xw, .int xa, .int xb, .int xc])), (qD, .inl (g.2.1.1, 4096, .inl (fl6 e0 t gd)))] H → va_D A [(hO, .inr (4, [.int xT, .int xB, .int xC, .ref qP, .int xP, .ref qN, .int xS, .ref qY, .ref qD, .int (nI (e0 + 4 * t)), .ref qR, .ref qM, .ref qT, .int xw, .int xa, .int xb, .int xc])), (qD, .inl (g.2.1.1, 4096, .inl (fl6 e0 t gd)))] → va_S A s.heap H locs → lv_has ls 2 [(0, .ref hO), (1, .int (nI pl))] → W p l e (headSpec wsX6_fillTo ({ frames := 1, cells := 0, slots := 0, locals := 24 })).room s m ([.ref hO, .int (nI pl)] : List Value).toArray below meth c H locs 0 0 (MQ below (va_Qv (fun u => u = [(hO, .inr (4, [.int xT, .int xB, .int xC, .ref qP, .int xP, .ref qN, .int xS, .ref qY, .ref qD, .int (nI (e0 + 4 * k)), .ref qR, .ref qM, .ref qT, .int xw, .int xa, .int xb, .int xc])), (qD, .inl (g.2.1.1, 4096, .inl (fl6 e0 k gd)))]) (SB g A) A) ([.ref hO, .int (nI pl)] : List Value).toArray s 0 0 A) (F0 m 0 ls []) := by
    intro K
    induction K with
    | zero => intro t h2 hm; exact absurd hm (Nat.not_lt_zero _)
    | succ K ih =>
      intro t h2 hm H locs ls hP hD hS hl
      refine lv_aload_n hx hb dX6_fillTo_0 rfl (lv_at hl 0 rfl) ?_
      refine va_get (D := g.1) (ci := 4) (v := .int (nI (e0 + 4 * t))) (C := RX6) (T := TX6) (N := 17) hx hb hts iX6 hown hK hP 0 rfl rfl 9 (by decide) (hts (.fieldLink RX6 92 "FaultIsolationModel" "at" "I") (by decide +kernel)) (fun _ h9 => h9) rfl dX6_fillTo_1 ?_
      refine lv_bipush (v := 16) hx hb dX6_fillTo_4 (by decide) ?_
      refine lv_irem hx hb dX6_fillTo_6 (by decide) ?_
      refine lv_topi (fun y9 e9 => ?_)
      rw [show ((nI (e0 + 4 * t)) - (nI (e0 + 4 * t)) / 16 * 16 : Int32) = nI ((e0 + 4 * t) % 16) from pk_rem (a := e0 + 4 * t) (d := 16) (by omega) (by decide) (by decide)] at e9
      subst e9
      refine lv_iload_n hx hb dX6_fillTo_7 rfl (lv_at hl 1 rfl) ?_
      refine lv_icmp_eq (tgt := 23) hx hb dX6_fillTo_8 (by decide) (fun c_0 => ?_) (fun c_0 => ?_)
      · skip
        have z_0 := k_eqT (a := (e0 + 4 * t) % 16) (b := pl) c_0 (by omega) (by omega)
        exact k_vret hx hb hr hlocks ⟨hK, hP, hD, hS, hA, hE, hN⟩ dX6_fillTo_23 (Nat.le_of_ble_eq_true rfl) (Nat.le_of_ble_eq_true rfl) (by have e : t = k := k_fe h2 hall z_0; subst e; rfl)
      · skip
        have z_0 := k_eqF (a := (e0 + 4 * t) % 16) (b := pl) c_0 (by omega) (by omega)
        refine lv_aload_n hx hb dX6_fillTo_11 rfl (lv_at hl 0 rfl) ?_
        refine lv_bipush (v := 6) hx hb dX6_fillTo_12 (by decide) ?_
        refine lv_iconst (v := 0) hx hb dX6_fillTo_14 (by decide) ?_
        refine lv_iconst (v := 0) hx hb dX6_fillTo_15 (by decide) ?_
        refine lv_iconst (v := 0) hx hb dX6_fillTo_16 (by decide) ?_
        refine kvV (As := [.int 6, .int 0, .int 0, .int 0]) (rest := []) (wc := [(hO, .inr (4, [.int xT, .int xB, .int xC, .ref qP, .int xP, .ref qN, .int xS, .ref qY, .ref qD, .int (nI (e0 + 4 * t)), .ref qR, .ref qM, .ref qT, .int xw, .int xa, .int xb, .int xc])), (qD, .inl (g.2.1.1, 4096, .inl (fl6 e0 t gd)))]) (wr := []) ⟨hx, hb, hml, hown, hts⟩ (c_X6_write l g hO qP qN qY qD qR qM qT (fl6 e0 t gd) xT xB xC xP xS (e0 + 4 * t) xw xa xb xc 6 0 0 0 (by omega)) (cwV 4 hts gX6_fillTo_X6_write rfl rfl rfl (by decide +kernel) ⟨Nat.le_of_ble_eq_true rfl, Nat.le_of_ble_eq_true rfl⟩) ⟨hK, hP, hD, hS, hA, hE, hN⟩ [0, 1] [] ⟨rfl, rfl, by decide⟩ (q0 := 0) (ci := 4) rfl rfl rfl rfl hl.1 (Nat.le_of_ble_eq_true rfl) dX6_fillTo_17 ⟨Nat.le_of_ble_eq_true rfl, Nat.le_of_ble_eq_true rfl⟩ rfl (fun u H locs hw hP hD hS => ?_)
        subst hw
        have hP := hP.sub (ws' := [(hO, .inr (4, [.int xT, .int xB, .int xC, .ref qP, .int xP, .ref qN, .int xS, .ref qY, .ref qD, .int (nI ((e0 + 4 * t) + 4)), .ref qR, .ref qM, .ref qT, .int xw, .int xa, .int xb, .int xc])), (qD, .inl (g.2.1.1, 4096, .inl (sp_X6_write_draft (fl6 e0 t gd) (e0 + 4 * t) 6 0 0 0)))]) [0, 1] rfl
        have hD := hD.sub (ws' := [(hO, .inr (4, [.int xT, .int xB, .int xC, .ref qP, .int xP, .ref qN, .int xS, .ref qY, .ref qD, .int (nI ((e0 + 4 * t) + 4)), .ref qR, .ref qM, .ref qT, .int xw, .int xa, .int xb, .int xc])), (qD, .inl (g.2.1.1, 4096, .inl (sp_X6_write_draft (fl6 e0 t gd) (e0 + 4 * t) 6 0 0 0)))]) [0, 1] (by decide) rfl
        refine lv_goto (tgt := 0) hx hb dX6_fillTo_20 (by decide) ?_
        rw [show (nI ((e0 + 4 * t) + 4) : Int32) = nI (e0 + 4 * (t + 1)) from (congrArg nI (by omega))] at hP hD
        exact ih (t + 1) (k_ff h2 hp z_0) (by have := k_ff h2 hp z_0; omega) _ _ _ hP hD hS (lv_sub hl [0, 1] rfl)
  exact loop_0 (k - 0 + 1) 0 (Nat.zero_le _) (Nat.lt_succ_self _) _ _ _ hP hD hS (lv_sub hl [0, 1] rfl)
