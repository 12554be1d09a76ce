abbrev M6 : Type := (Nat → Int32) × (Nat → Int32) × (Nat → Int32)
def m6_next (P Q : Nat → Nat) (xB : Int32) (n b : Nat) (pr : Int32) (x : M6) : M6 := (sp_X6_step_registers P Q x.1 x.2.1 x.2.2 n b pr, sp_X6_step_memory P Q x.1 x.2.1 x.2.2 n b pr, sp_X6_step_told P Q x.1 x.2.2 xB n b pr)
def m6_ret (P Q : Nat → Nat) (n b : Nat) (pr : Int32) (x : M6) : Int32 := sp_X6_step P Q x.1 x.2.2 n b pr
def m6_run (P Q : Nat → Nat) (xB : Int32) (n b : Nat) (pr : Int32) : Nat → M6 → Int32 × M6
  | 0, x => (0, x)
  | k + 1, x => if m6_ret P Q n b pr x = 0 then m6_run P Q xB n b pr k (m6_next P Q xB n b pr x) else (m6_ret P Q n b pr x, m6_next P Q xB n b pr x)
theorem m6_run_s {P Q : Nat → Nat} {xB : Int32} {n b : Nat} {pr : Int32} {x : M6} {t j : Nat} (h : j < t) : m6_run P Q xB n b pr (t - j) x = if m6_ret P Q n b pr x = 0 then m6_run P Q xB n b pr (t - (j + 1)) (m6_next P Q xB n b pr x) else (m6_ret P Q n b pr x, m6_next P Q xB n b pr x) := by
  rw [show t - j = (t - (j + 1)) + 1 by omega]
  rfl
theorem m6_end {P Q : Nat → Nat} {xB : Int32} {n b : Nat} {pr : Int32} {x : M6} {t j : Nat} {en : Int32} (h : t ≤ j) : (if en = 0 then m6_run P Q xB n b pr (t - j) x else (en, x)) = (en, x) := by
  rw [show t - j = 0 by omega]
  by_cases z : en = 0
  · rw [if_pos z, z]
    rfl
  · rw [if_neg z]
def rn_x (st sa : Int32) : Int32 := if st < 1 then 1 else (if 1000 < st then 1 else (if 0 ≤ sa then 0 else 1))
def rn_t (gt : Nat → Int32) (sa : Int32) : Nat → Int32 := upd (upd (upd (upd (upd (upd gt 1 0) 2 0) 3 0) 4 0) 0 sa) 5 (-1)

set_option maxHeartbeats 4000000 in
set_option maxRecDepth 100000 in
theorem c_X6_run (l : Launch) (g : KG) (hO : Nat) (qP : Nat) (qN : Nat) (qY : Nat) (qD : Nat) (qR : Nat) (qM : Nat) (qT : Nat) (P : Nat → Nat) (Q : Nat → Nat) (gr : Nat → Int32) (gm : Nat → Int32) (gt : Nat → Int32) (xT : Int32) (xB : Int32) (n : Nat) (xP : Int32) (b : Nat) (xA : Int32) (xw : Int32) (xa : Int32) (xb : Int32) (xc : Int32) (pr : Int32) (sa : Int32) (st : Int32) (hn : n ≤ 60) (hbb : b ≤ 64) (hPb : ∀ x, P x < 256) (hQb : ∀ x, Q x < 256) : Ci l g yX6_run wsX6_run ({ frames := 3, cells := 0, slots := 0, locals := 69 }) [.ref hO, .int pr, .int sa, .int st] [(hO, .inr (4, [.int xT, .int xB, .int (nI n), .ref qP, .int xP, .ref qN, .int (nI (16 * b)), .ref qY, .ref qD, .int xA, .ref qR, .ref qM, .ref qT, .int xw, .int xa, .int xb, .int xc])), (qP, .inl (g.2.1.1, 240, .inl (kf P))), (qY, .inl (g.2.1.1, 1024, .inl (kf Q))), (qR, .inl (g.2.1.1, 8, .inl gr)), (qM, .inl (g.2.1.1, 4096, .inl gm)), (qT, .inl (g.2.1.1, 6, .inl gt))] (fun r u => r = (if rn_x st sa = 0 then (m6_run P Q xB n b pr st.toNatClampNeg (gr, gm, rn_t gt sa)).1 else 0) ∧ ∃ (y0_13 : Int32) (y0_14 : Int32) (y0_15 : Int32) (y0_16 : Int32), u = [(hO, .inr (4, [.int (rn_x st sa), .int xB, .int (nI n), .ref qP, .int xP, .ref qN, .int (nI (16 * b)), .ref qY, .ref qD, .int xA, .ref qR, .ref qM, .ref qT, .int y0_13, .int y0_14, .int y0_15, .int y0_16])), (qP, .inl (g.2.1.1, 240, .inl (kf P))), (qY, .inl (g.2.1.1, 1024, .inl (kf Q))), (qR, .inl (g.2.1.1, 8, .inl (if rn_x st sa = 0 then (m6_run P Q xB n b pr st.toNatClampNeg (gr, gm, rn_t gt sa)).2.1 else gr))), (qM, .inl (g.2.1.1, 4096, .inl (if rn_x st sa = 0 then (m6_run P Q xB n b pr st.toNatClampNeg (gr, gm, rn_t gt sa)).2.2.1 else gm))), (qT, .inl (g.2.1.1, 6, .inl (if rn_x st sa = 0 then (m6_run P Q xB n b pr st.toNatClampNeg (gr, gm, rn_t gt sa)).2.2.2 else gt)))]) 0 0 := by
  intro sz
  refine Met.ofW (cc := cX6_run) (maxL := 6) (ret := (some .int)) (by decide) rfl ?_
  intro p e s m args below meth c s₁ B hml hv
  obtain ⟨rfl, hsz, hP, hK, hD0, hE, hN⟩ := hv
  have hx := B.exec
  have hb := B.bytes
  have hr := B.returns
  have hts := atoms_spec (ws := wsX6_run) B.pre
  have hown : s.vm.findClass RX6 = some m.cls := findClass_of_methodNamed B.named
  have hlocks := B.notSynchronized
  have iX6 : ∀ w ∈ u_ws RX6 TX6 17, w ∈ wsX6_run := by decide +kernel
  subst hsz
  have hD := hD0.self (sz := s.heap.size)
  generalize hAe : va_A [(hO, .inr (4, [.int xT, .int xB, .int (nI n), .ref qP, .int xP, .ref qN, .int (nI (16 * b)), .ref qY, .ref qD, .int xA, .ref qR, .ref qM, .ref qT, .int xw, .int xa, .int xb, .int xc])), (qP, .inl (g.2.1.1, 240, .inl (kf P))), (qY, .inl (g.2.1.1, 1024, .inl (kf Q))), (qR, .inl (g.2.1.1, 8, .inl gr)), (qM, .inl (g.2.1.1, 4096, .inl gm)), (qT, .inl (g.2.1.1, 6, .inl gt))] s.heap.size = A at hD hE ⊢
  have hA : ∀ q : Nat, s.heap.size ≤ q → A q := fun q h => by rw [← hAe]; exact Or.inr h
  have hS : va_S A s.heap s.heap [] := va_S.rf
  have hl := lv_entry ([.ref hO, .int pr, .int sa, .int st]) (n := 6) (Nat.le_of_ble_eq_true rfl)
  rw [lg_entry_eq]
  generalize (lg_sl ([.ref hO, .int pr, .int sa, .int st]) ++ List.replicate (6 - (lg_sl ([.ref hO, .int pr, .int sa, .int st])).length) Slot.unset).toArray = ls at hl ⊢
  have hl : lv_has ls 6 [(0, .ref hO), (1, .int pr), (2, .int sa), (3, .int st)] := hl
  refine lv_aload_n hx hb dX6_run_0 rfl (lv_at hl 0 rfl) ?_
  refine lv_iload_n hx hb dX6_run_1 rfl (lv_at hl 3 rfl) ?_
  refine lv_iconst (v := 1) hx hb dX6_run_2 (by decide) ?_
  refine lv_icmp_lt (tgt := 17) hx hb dX6_run_3 (by decide) (fun c_0 => ?_) (fun c_0 => ?_)
  · skip
    refine lv_iconst (v := 1) hx hb dX6_run_17 (by decide) ?_
    refine lv_goto (tgt := 22) hx hb dX6_run_18 (by decide) ?_
    refine va_put (D := g.1) (ci := 4) (v := .int 1) (ty := .int) (C := RX6) (T := TX6) (N := 17) hx hb hts iX6 tyX6 tyX6_ok nmX6 hown hK hP hD hS 0 rfl rfl 0 (by decide) (hts (.fieldLink RX6 35 "FaultIsolationModel" "thrown" "I") (by decide +kernel)) (fun _ h9 => h9) rfl (by decide +kernel) rfl rfl (Nat.le_of_ble_eq_true rfl) dX6_run_22 (fun H locs hP hD hS => ?_)
    have hP : va_P g.1 vwCl [(hO, .inr (4, [.int 1, .int xB, .int (nI n), .ref qP, .int xP, .ref qN, .int (nI (16 * b)), .ref qY, .ref qD, .int xA, .ref qR, .ref qM, .ref qT, .int xw, .int xa, .int xb, .int xc])), (qP, .inl (g.2.1.1, 240, .inl (kf P))), (qY, .inl (g.2.1.1, 1024, .inl (kf Q))), (qR, .inl (g.2.1.1, 8, .inl gr)), (qM, .inl (g.2.1.1, 4096, .inl gm)), (qT, .inl (g.2.1.1, 6, .inl gt))] H := hP
    have hD : va_D A [(hO, .inr (4, [.int 1, .int xB, .int (nI n), .ref qP, .int xP, .ref qN, .int (nI (16 * b)), .ref qY, .ref qD, .int xA, .ref qR, .ref qM, .ref qT, .int xw, .int xa, .int xb, .int xc])), (qP, .inl (g.2.1.1, 240, .inl (kf P))), (qY, .inl (g.2.1.1, 1024, .inl (kf Q))), (qR, .inl (g.2.1.1, 8, .inl gr)), (qM, .inl (g.2.1.1, 4096, .inl gm)), (qT, .inl (g.2.1.1, 6, .inl gt))] := hD
    refine lv_aload_n hx hb dX6_run_25 rfl (lv_at hl 0 rfl) ?_
    refine va_get (D := g.1) (ci := 4) (v := .int 1) (C := RX6) (T := TX6) (N := 17) hx hb hts iX6 hown hK hP 0 rfl rfl 0 (by decide) (hts (.fieldLink RX6 35 "FaultIsolationModel" "thrown" "I") (by decide +kernel)) (fun _ h9 => h9) rfl dX6_run_26 ?_
    refine lv_if_le (tgt := 34) hx hb dX6_run_29 (by decide) (fun c_1 => absurd c_1 (by decide)) (fun _ => ?_)
    refine lv_iconst (v := 0) hx hb dX6_run_32 (by decide) ?_
    exact k_iret hx hb hr hlocks ⟨hK, hP, hD, hS, hA, hE, hN⟩ rfl dX6_run_33 (Nat.le_of_ble_eq_true rfl) (Nat.le_of_ble_eq_true rfl) ⟨by simp only [rn_x, if_pos c_0]; rfl, (xw), (xa), (xb), (xc), by simp only [rn_x, if_pos c_0]; rfl⟩
  · skip
    refine lv_iload_n hx hb dX6_run_6 rfl (lv_at hl 3 rfl) ?_
    refine lv_sipush (v := 1000) hx hb dX6_run_7 (by decide) ?_
    refine lv_icmp_gt (tgt := 17) hx hb dX6_run_10 (by decide) (fun c_2 => ?_) (fun c_2 => ?_)
    · skip
      refine lv_iconst (v := 1) hx hb dX6_run_17 (by decide) ?_
      refine lv_goto (tgt := 22) hx hb dX6_run_18 (by decide) ?_
      refine va_put (D := g.1) (ci := 4) (v := .int 1) (ty := .int) (C := RX6) (T := TX6) (N := 17) hx hb hts iX6 tyX6 tyX6_ok nmX6 hown hK hP hD hS 0 rfl rfl 0 (by decide) (hts (.fieldLink RX6 35 "FaultIsolationModel" "thrown" "I") (by decide +kernel)) (fun _ h9 => h9) rfl (by decide +kernel) rfl rfl (Nat.le_of_ble_eq_true rfl) dX6_run_22 (fun H locs hP hD hS => ?_)
      have hP : va_P g.1 vwCl [(hO, .inr (4, [.int 1, .int xB, .int (nI n), .ref qP, .int xP, .ref qN, .int (nI (16 * b)), .ref qY, .ref qD, .int xA, .ref qR, .ref qM, .ref qT, .int xw, .int xa, .int xb, .int xc])), (qP, .inl (g.2.1.1, 240, .inl (kf P))), (qY, .inl (g.2.1.1, 1024, .inl (kf Q))), (qR, .inl (g.2.1.1, 8, .inl gr)), (qM, .inl (g.2.1.1, 4096, .inl gm)), (qT, .inl (g.2.1.1, 6, .inl gt))] H := hP
      have hD : va_D A [(hO, .inr (4, [.int 1, .int xB, .int (nI n), .ref qP, .int xP, .ref qN, .int (nI (16 * b)), .ref qY, .ref qD, .int xA, .ref qR, .ref qM, .ref qT, .int xw, .int xa, .int xb, .int xc])), (qP, .inl (g.2.1.1, 240, .inl (kf P))), (qY, .inl (g.2.1.1, 1024, .inl (kf Q))), (qR, .inl (g.2.1.1, 8, .inl gr)), (qM, .inl (g.2.1.1, 4096, .inl gm)), (qT, .inl (g.2.1.1, 6, .inl gt))] := hD
      refine lv_aload_n hx hb dX6_run_25 rfl (lv_at hl 0 rfl) ?_
      refine va_get (D := g.1) (ci := 4) (v := .int 1) (C := RX6) (T := TX6) (N := 17) hx hb hts iX6 hown hK hP 0 rfl rfl 0 (by decide) (hts (.fieldLink RX6 35 "FaultIsolationModel" "thrown" "I") (by decide +kernel)) (fun _ h9 => h9) rfl dX6_run_26 ?_
      refine lv_if_le (tgt := 34) hx hb dX6_run_29 (by decide) (fun c_3 => absurd c_3 (by decide)) (fun _ => ?_)
      refine lv_iconst (v := 0) hx hb dX6_run_32 (by decide) ?_
      exact k_iret hx hb hr hlocks ⟨hK, hP, hD, hS, hA, hE, hN⟩ rfl dX6_run_33 (Nat.le_of_ble_eq_true rfl) (Nat.le_of_ble_eq_true rfl) ⟨by simp only [rn_x, if_neg c_0, if_pos c_2]; rfl, (xw), (xa), (xb), (xc), by simp only [rn_x, if_neg c_0, if_pos c_2]; rfl⟩
    · skip
      refine lv_iload_n hx hb dX6_run_13 rfl (lv_at hl 2 rfl) ?_
      refine lv_if_ge (tgt := 21) hx hb dX6_run_14 (by decide) (fun c_4 => ?_) (fun c_4 => ?_)
      · skip
        refine lv_iconst (v := 0) hx hb dX6_run_21 (by decide) ?_
        refine va_put (D := g.1) (ci := 4) (v := .int 0) (ty := .int) (C := RX6) (T := TX6) (N := 17) hx hb hts iX6 tyX6 tyX6_ok nmX6 hown hK hP hD hS 0 rfl rfl 0 (by decide) (hts (.fieldLink RX6 35 "FaultIsolationModel" "thrown" "I") (by decide +kernel)) (fun _ h9 => h9) rfl (by decide +kernel) rfl rfl (Nat.le_of_ble_eq_true rfl) dX6_run_22 (fun H locs hP hD hS => ?_)
        have hP : va_P g.1 vwCl [(hO, .inr (4, [.int 0, .int xB, .int (nI n), .ref qP, .int xP, .ref qN, .int (nI (16 * b)), .ref qY, .ref qD, .int xA, .ref qR, .ref qM, .ref qT, .int xw, .int xa, .int xb, .int xc])), (qP, .inl (g.2.1.1, 240, .inl (kf P))), (qY, .inl (g.2.1.1, 1024, .inl (kf Q))), (qR, .inl (g.2.1.1, 8, .inl gr)), (qM, .inl (g.2.1.1, 4096, .inl gm)), (qT, .inl (g.2.1.1, 6, .inl gt))] H := hP
        have hD : va_D A [(hO, .inr (4, [.int 0, .int xB, .int (nI n), .ref qP, .int xP, .ref qN, .int (nI (16 * b)), .ref qY, .ref qD, .int xA, .ref qR, .ref qM, .ref qT, .int xw, .int xa, .int xb, .int xc])), (qP, .inl (g.2.1.1, 240, .inl (kf P))), (qY, .inl (g.2.1.1, 1024, .inl (kf Q))), (qR, .inl (g.2.1.1, 8, .inl gr)), (qM, .inl (g.2.1.1, 4096, .inl gm)), (qT, .inl (g.2.1.1, 6, .inl gt))] := hD
        refine lv_aload_n hx hb dX6_run_25 rfl (lv_at hl 0 rfl) ?_
        refine va_get (D := g.1) (ci := 4) (v := .int 0) (C := RX6) (T := TX6) (N := 17) hx hb hts iX6 hown hK hP 0 rfl rfl 0 (by decide) (hts (.fieldLink RX6 35 "FaultIsolationModel" "thrown" "I") (by decide +kernel)) (fun _ h9 => h9) rfl dX6_run_26 ?_
        refine lv_if_le (tgt := 34) hx hb dX6_run_29 (by decide) (fun _ => ?_) (fun c_5 => absurd c_5 (by decide))
        have zst := k_clgt (m := 1000) (k_n1 c_0) c_2 (by decide)
        rw [k_cl1 (k_n1 c_0)] at hl
        refine lv_iconst (v := 1) hx hb dX6_run_34 (by decide) ?_
        refine lv_istore (lv' := [(4, .int 1), (0, .ref hO), (1, .int pr), (2, .int sa), (3, .int (nI (st.toNatClampNeg)))]) hx hb dX6_run_35 hl (by decide) rfl (fun ls hl => ?_)
        refine lv_iload hx hb dX6_run_37 (lv_at hl 0 rfl) ?_
        refine lv_iconst (v := 5) hx hb dX6_run_39 (by decide) ?_
        refine lv_icmp_ge (tgt := 57) hx hb dX6_run_40 (by decide) (fun c_6 => absurd c_6 (by decide)) (fun _ => ?_)
        refine lv_aload_n hx hb dX6_run_43 rfl (lv_at hl 1 rfl) ?_
        refine va_get (D := g.1) (ci := 4) (v := .ref qT) (C := RX6) (T := TX6) (N := 17) hx hb hts iX6 hown hK hP 0 rfl rfl 12 (by decide) (hts (.fieldLink RX6 28 "FaultIsolationModel" "told" "[I") (by decide +kernel)) (fun _ h9 => h9) rfl dX6_run_44 ?_
        refine lv_iload hx hb dX6_run_47 (lv_at hl 0 rfl) ?_
        refine lv_iconst (v := 0) hx hb dX6_run_49 (by decide) ?_
        refine va_iast hx hb hK hP hD hS 5 0 rfl rfl (by rw [vp_in_iff]; decide) dX6_run_50 (fun H locs hP hD hS => ?_)
        have hP : va_P g.1 vwCl [(hO, .inr (4, [.int 0, .int xB, .int (nI n), .ref qP, .int xP, .ref qN, .int (nI (16 * b)), .ref qY, .ref qD, .int xA, .ref qR, .ref qM, .ref qT, .int xw, .int xa, .int xb, .int xc])), (qP, .inl (g.2.1.1, 240, .inl (kf P))), (qY, .inl (g.2.1.1, 1024, .inl (kf Q))), (qR, .inl (g.2.1.1, 8, .inl gr)), (qM, .inl (g.2.1.1, 4096, .inl gm)), (qT, .inl (g.2.1.1, 6, .inl (upd gt 1 0)))] H := hP
        have hD : va_D A [(hO, .inr (4, [.int 0, .int xB, .int (nI n), .ref qP, .int xP, .ref qN, .int (nI (16 * b)), .ref qY, .ref qD, .int xA, .ref qR, .ref qM, .ref qT, .int xw, .int xa, .int xb, .int xc])), (qP, .inl (g.2.1.1, 240, .inl (kf P))), (qY, .inl (g.2.1.1, 1024, .inl (kf Q))), (qR, .inl (g.2.1.1, 8, .inl gr)), (qM, .inl (g.2.1.1, 4096, .inl gm)), (qT, .inl (g.2.1.1, 6, .inl (upd gt 1 0)))] := hD
        refine lv_iinc (v := 2) (lv' := [(4, .int 2), (0, .ref hO), (1, .int pr), (2, .int sa), (3, .int (nI (st.toNatClampNeg)))]) hx hb dX6_run_51 hl (k := 0) rfl rfl (by decide) rfl (fun ls hl => ?_)
        refine lv_goto (tgt := 37) hx hb dX6_run_54 (by decide) ?_
        refine lv_iload hx hb dX6_run_37 (lv_at hl 0 rfl) ?_
        refine lv_iconst (v := 5) hx hb dX6_run_39 (by decide) ?_
        refine lv_icmp_ge (tgt := 57) hx hb dX6_run_40 (by decide) (fun c_7 => absurd c_7 (by decide)) (fun _ => ?_)
        refine lv_aload_n hx hb dX6_run_43 rfl (lv_at hl 1 rfl) ?_
        refine va_get (D := g.1) (ci := 4) (v := .ref qT) (C := RX6) (T := TX6) (N := 17) hx hb hts iX6 hown hK hP 0 rfl rfl 12 (by decide) (hts (.fieldLink RX6 28 "FaultIsolationModel" "told" "[I") (by decide +kernel)) (fun _ h9 => h9) rfl dX6_run_44 ?_
        refine lv_iload hx hb dX6_run_47 (lv_at hl 0 rfl) ?_
        refine lv_iconst (v := 0) hx hb dX6_run_49 (by decide) ?_
        refine va_iast hx hb hK hP hD hS 5 0 rfl rfl (by rw [vp_in_iff]; decide) dX6_run_50 (fun H locs hP hD hS => ?_)
        have hP : va_P g.1 vwCl [(hO, .inr (4, [.int 0, .int xB, .int (nI n), .ref qP, .int xP, .ref qN, .int (nI (16 * b)), .ref qY, .ref qD, .int xA, .ref qR, .ref qM, .ref qT, .int xw, .int xa, .int xb, .int xc])), (qP, .inl (g.2.1.1, 240, .inl (kf P))), (qY, .inl (g.2.1.1, 1024, .inl (kf Q))), (qR, .inl (g.2.1.1, 8, .inl gr)), (qM, .inl (g.2.1.1, 4096, .inl gm)), (qT, .inl (g.2.1.1, 6, .inl (upd (upd gt 1 0) 2 0)))] H := hP
        have hD : va_D A [(hO, .inr (4, [.int 0, .int xB, .int (nI n), .ref qP, .int xP, .ref qN, .int (nI (16 * b)), .ref qY, .ref qD, .int xA, .ref qR, .ref qM, .ref qT, .int xw, .int xa, .int xb, .int xc])), (qP, .inl (g.2.1.1, 240, .inl (kf P))), (qY, .inl (g.2.1.1, 1024, .inl (kf Q))), (qR, .inl (g.2.1.1, 8, .inl gr)), (qM, .inl (g.2.1.1, 4096, .inl gm)), (qT, .inl (g.2.1.1, 6, .inl (upd (upd gt 1 0) 2 0)))] := hD
        refine lv_iinc (v := 3) (lv' := [(4, .int 3), (0, .ref hO), (1, .int pr), (2, .int sa), (3, .int (nI (st.toNatClampNeg)))]) hx hb dX6_run_51 hl (k := 0) rfl rfl (by decide) rfl (fun ls hl => ?_)
        refine lv_goto (tgt := 37) hx hb dX6_run_54 (by decide) ?_
        refine lv_iload hx hb dX6_run_37 (lv_at hl 0 rfl) ?_
        refine lv_iconst (v := 5) hx hb dX6_run_39 (by decide) ?_
        refine lv_icmp_ge (tgt := 57) hx hb dX6_run_40 (by decide) (fun c_8 => absurd c_8 (by decide)) (fun _ => ?_)
        refine lv_aload_n hx hb dX6_run_43 rfl (lv_at hl 1 rfl) ?_
        refine va_get (D := g.1) (ci := 4) (v := .ref qT) (C := RX6) (T := TX6) (N := 17) hx hb hts iX6 hown hK hP 0 rfl rfl 12 (by decide) (hts (.fieldLink RX6 28 "FaultIsolationModel" "told" "[I") (by decide +kernel)) (fun _ h9 => h9) rfl dX6_run_44 ?_
        refine lv_iload hx hb dX6_run_47 (lv_at hl 0 rfl) ?_
        refine lv_iconst (v := 0) hx hb dX6_run_49 (by decide) ?_
        refine va_iast hx hb hK hP hD hS 5 0 rfl rfl (by rw [vp_in_iff]; decide) dX6_run_50 (fun H locs hP hD hS => ?_)
        have hP : va_P g.1 vwCl [(hO, .inr (4, [.int 0, .int xB, .int (nI n), .ref qP, .int xP, .ref qN, .int (nI (16 * b)), .ref qY, .ref qD, .int xA, .ref qR, .ref qM, .ref qT, .int xw, .int xa, .int xb, .int xc])), (qP, .inl (g.2.1.1, 240, .inl (kf P))), (qY, .inl (g.2.1.1, 1024, .inl (kf Q))), (qR, .inl (g.2.1.1, 8, .inl gr)), (qM, .inl (g.2.1.1, 4096, .inl gm)), (qT, .inl (g.2.1.1, 6, .inl (upd (upd (upd gt 1 0) 2 0) 3 0)))] H := hP
        have hD : va_D A [(hO, .inr (4, [.int 0, .int xB, .int (nI n), .ref qP, .int xP, .ref qN, .int (nI (16 * b)), .ref qY, .ref qD, .int xA, .ref qR, .ref qM, .ref qT, .int xw, .int xa, .int xb, .int xc])), (qP, .inl (g.2.1.1, 240, .inl (kf P))), (qY, .inl (g.2.1.1, 1024, .inl (kf Q))), (qR, .inl (g.2.1.1, 8, .inl gr)), (qM, .inl (g.2.1.1, 4096, .inl gm)), (qT, .inl (g.2.1.1, 6, .inl (upd (upd (upd gt 1 0) 2 0) 3 0)))] := hD
        refine lv_iinc (v := 4) (lv' := [(4, .int 4), (0, .ref hO), (1, .int pr), (2, .int sa), (3, .int (nI (st.toNatClampNeg)))]) hx hb dX6_run_51 hl (k := 0) rfl rfl (by decide) rfl (fun ls hl => ?_)
        refine lv_goto (tgt := 37) hx hb dX6_run_54 (by decide) ?_
        refine lv_iload hx hb dX6_run_37 (lv_at hl 0 rfl) ?_
        refine lv_iconst (v := 5) hx hb dX6_run_39 (by decide) ?_
        refine lv_icmp_ge (tgt := 57) hx hb dX6_run_40 (by decide) (fun c_9 => absurd c_9 (by decide)) (fun _ => ?_)
        refine lv_aload_n hx hb dX6_run_43 rfl (lv_at hl 1 rfl) ?_
        refine va_get (D := g.1) (ci := 4) (v := .ref qT) (C := RX6) (T := TX6) (N := 17) hx hb hts iX6 hown hK hP 0 rfl rfl 12 (by decide) (hts (.fieldLink RX6 28 "FaultIsolationModel" "told" "[I") (by decide +kernel)) (fun _ h9 => h9) rfl dX6_run_44 ?_
        refine lv_iload hx hb dX6_run_47 (lv_at hl 0 rfl) ?_
        refine lv_iconst (v := 0) hx hb dX6_run_49 (by decide) ?_
        refine va_iast hx hb hK hP hD hS 5 0 rfl rfl (by rw [vp_in_iff]; decide) dX6_run_50 (fun H locs hP hD hS => ?_)
        have hP : va_P g.1 vwCl [(hO, .inr (4, [.int 0, .int xB, .int (nI n), .ref qP, .int xP, .ref qN, .int (nI (16 * b)), .ref qY, .ref qD, .int xA, .ref qR, .ref qM, .ref qT, .int xw, .int xa, .int xb, .int xc])), (qP, .inl (g.2.1.1, 240, .inl (kf P))), (qY, .inl (g.2.1.1, 1024, .inl (kf Q))), (qR, .inl (g.2.1.1, 8, .inl gr)), (qM, .inl (g.2.1.1, 4096, .inl gm)), (qT, .inl (g.2.1.1, 6, .inl (upd (upd (upd (upd gt 1 0) 2 0) 3 0) 4 0)))] H := hP
        have hD : va_D A [(hO, .inr (4, [.int 0, .int xB, .int (nI n), .ref qP, .int xP, .ref qN, .int (nI (16 * b)), .ref qY, .ref qD, .int xA, .ref qR, .ref qM, .ref qT, .int xw, .int xa, .int xb, .int xc])), (qP, .inl (g.2.1.1, 240, .inl (kf P))), (qY, .inl (g.2.1.1, 1024, .inl (kf Q))), (qR, .inl (g.2.1.1, 8, .inl gr)), (qM, .inl (g.2.1.1, 4096, .inl gm)), (qT, .inl (g.2.1.1, 6, .inl (upd (upd (upd (upd gt 1 0) 2 0) 3 0) 4 0)))] := hD
        refine lv_iinc (v := 5) (lv' := [(4, .int 5), (0, .ref hO), (1, .int pr), (2, .int sa), (3, .int (nI (st.toNatClampNeg)))]) hx hb dX6_run_51 hl (k := 0) rfl rfl (by decide) rfl (fun ls hl => ?_)
        refine lv_goto (tgt := 37) hx hb dX6_run_54 (by decide) ?_
        refine lv_iload hx hb dX6_run_37 (lv_at hl 0 rfl) ?_
        refine lv_iconst (v := 5) hx hb dX6_run_39 (by decide) ?_
        refine lv_icmp_ge (tgt := 57) hx hb dX6_run_40 (by decide) (fun _ => ?_) (fun c_10 => absurd c_10 (by decide))
        refine lv_aload_n hx hb dX6_run_57 rfl (lv_at hl 1 rfl) ?_
        refine va_get (D := g.1) (ci := 4) (v := .ref qT) (C := RX6) (T := TX6) (N := 17) hx hb hts iX6 hown hK hP 0 rfl rfl 12 (by decide) (hts (.fieldLink RX6 28 "FaultIsolationModel" "told" "[I") (by decide +kernel)) (fun _ h9 => h9) rfl dX6_run_58 ?_
        refine lv_iconst (v := 0) hx hb dX6_run_61 (by decide) ?_
        refine lv_iload_n hx hb dX6_run_62 rfl (lv_at hl 3 rfl) ?_
        refine va_iast hx hb hK hP hD hS 5 0 rfl rfl (by rw [vp_in_iff]; decide) dX6_run_63 (fun H locs hP hD hS => ?_)
        have hP : va_P g.1 vwCl [(hO, .inr (4, [.int 0, .int xB, .int (nI n), .ref qP, .int xP, .ref qN, .int (nI (16 * b)), .ref qY, .ref qD, .int xA, .ref qR, .ref qM, .ref qT, .int xw, .int xa, .int xb, .int xc])), (qP, .inl (g.2.1.1, 240, .inl (kf P))), (qY, .inl (g.2.1.1, 1024, .inl (kf Q))), (qR, .inl (g.2.1.1, 8, .inl gr)), (qM, .inl (g.2.1.1, 4096, .inl gm)), (qT, .inl (g.2.1.1, 6, .inl (upd (upd (upd (upd (upd gt 1 0) 2 0) 3 0) 4 0) 0 sa)))] H := hP
        have hD : va_D A [(hO, .inr (4, [.int 0, .int xB, .int (nI n), .ref qP, .int xP, .ref qN, .int (nI (16 * b)), .ref qY, .ref qD, .int xA, .ref qR, .ref qM, .ref qT, .int xw, .int xa, .int xb, .int xc])), (qP, .inl (g.2.1.1, 240, .inl (kf P))), (qY, .inl (g.2.1.1, 1024, .inl (kf Q))), (qR, .inl (g.2.1.1, 8, .inl gr)), (qM, .inl (g.2.1.1, 4096, .inl gm)), (qT, .inl (g.2.1.1, 6, .inl (upd (upd (upd (upd (upd gt 1 0) 2 0) 3 0) 4 0) 0 sa)))] := hD
        refine lv_aload_n hx hb dX6_run_64 rfl (lv_at hl 1 rfl) ?_
        refine va_get (D := g.1) (ci := 4) (v := .ref qT) (C := RX6) (T := TX6) (N := 17) hx hb hts iX6 hown hK hP 0 rfl rfl 12 (by decide) (hts (.fieldLink RX6 28 "FaultIsolationModel" "told" "[I") (by decide +kernel)) (fun _ h9 => h9) rfl dX6_run_65 ?_
        refine lv_iconst (v := 5) hx hb dX6_run_68 (by decide) ?_
        refine lv_iconst (v := (-1)) hx hb dX6_run_69 (by decide) ?_
        refine va_iast hx hb hK hP hD hS 5 0 rfl rfl (by rw [vp_in_iff]; decide) dX6_run_70 (fun H locs hP hD hS => ?_)
        have hP : va_P g.1 vwCl [(hO, .inr (4, [.int 0, .int xB, .int (nI n), .ref qP, .int xP, .ref qN, .int (nI (16 * b)), .ref qY, .ref qD, .int xA, .ref qR, .ref qM, .ref qT, .int xw, .int xa, .int xb, .int xc])), (qP, .inl (g.2.1.1, 240, .inl (kf P))), (qY, .inl (g.2.1.1, 1024, .inl (kf Q))), (qR, .inl (g.2.1.1, 8, .inl gr)), (qM, .inl (g.2.1.1, 4096, .inl gm)), (qT, .inl (g.2.1.1, 6, .inl (upd (upd (upd (upd (upd (upd gt 1 0) 2 0) 3 0) 4 0) 0 sa) 5 (-1))))] H := hP
        have hD : va_D A [(hO, .inr (4, [.int 0, .int xB, .int (nI n), .ref qP, .int xP, .ref qN, .int (nI (16 * b)), .ref qY, .ref qD, .int xA, .ref qR, .ref qM, .ref qT, .int xw, .int xa, .int xb, .int xc])), (qP, .inl (g.2.1.1, 240, .inl (kf P))), (qY, .inl (g.2.1.1, 1024, .inl (kf Q))), (qR, .inl (g.2.1.1, 8, .inl gr)), (qM, .inl (g.2.1.1, 4096, .inl gm)), (qT, .inl (g.2.1.1, 6, .inl (upd (upd (upd (upd (upd (upd gt 1 0) 2 0) 3 0) 4 0) 0 sa) 5 (-1))))] := hD
        refine lv_iconst (v := 0) hx hb dX6_run_71 (by decide) ?_
        refine lv_istore (lv' := [(4, .int 0), (0, .ref hO), (1, .int pr), (2, .int sa), (3, .int (nI (st.toNatClampNeg)))]) hx hb dX6_run_72 hl (by decide) rfl (fun ls hl => ?_)
        refine lv_iconst (v := 0) hx hb dX6_run_74 (by decide) ?_
        refine lv_istore (lv' := [(5, .int 0), (4, .int 0), (0, .ref hO), (1, .int pr), (2, .int sa), (3, .int (nI (st.toNatClampNeg)))]) hx hb dX6_run_75 hl (by decide) rfl (fun ls hl => ?_)
        have loop_77 : ∀ (K : Nat) (j : Nat) (en : Int32) (x : M6) (yw : Int32) (ya : Int32) (yb : Int32) (yc : Int32) (h2 : j ≤ st.toNatClampNeg) (hq : m6_run P Q xB n b pr st.toNatClampNeg (gr, gm, rn_t gt sa) = if en = 0 then m6_run P Q xB n b pr (st.toNatClampNeg - j) x else (en, x)), st.toNatClampNeg - j < K → ∀ (H : Heap) (locs : List Loc) (ls : Array Slot), va_P g.1 vwCl [(hO, .inr (4, [.int 0, .int xB, .int (nI n), .ref qP, .int xP, .ref qN, .int (nI (16 * b)), .ref qY, .ref qD, .int xA, .ref qR, .ref qM, .ref qT, .int yw, .int ya, .int yb, .int yc])), (qP, .inl (g.2.1.1, 240, .inl (kf P))), (qY, .inl (g.2.1.1, 1024, .inl (kf Q))), (qR, .inl (g.2.1.1, 8, .inl x.1)), (qM, .inl (g.2.1.1, 4096, .inl x.2.1)), (qT, .inl (g.2.1.1, 6, .inl x.2.2))] H → va_D A [(hO, .inr (4, [.int 0, .int xB, .int (nI n), .ref qP, .int xP, .ref qN, .int (nI (16 * b)), .ref qY, .ref qD, .int xA, .ref qR, .ref qM, .ref qT, .int yw, .int ya, .int yb, .int yc])), (qP, .inl (g.2.1.1, 240, .inl (kf P))), (qY, .inl (g.2.1.1, 1024, .inl (kf Q))), (qR, .inl (g.2.1.1, 8, .inl x.1)), (qM, .inl (g.2.1.1, 4096, .inl x.2.1)), (qT, .inl (g.2.1.1, 6, .inl x.2.2))] → va_S A s.heap H locs → lv_has ls 6 [(0, .ref hO), (1, .int pr), (2, .int sa), (3, .int (nI (st.toNatClampNeg))), (4, .int en), (5, .int (nI j))] → W p l e (headSpec wsX6_run ({ frames := 3, cells := 0, slots := 0, locals := 69 })).room s m ([.ref hO, .int pr, .int sa, .int st] : List Value).toArray below meth c H locs 0 0 (MQ below (va_Qi (fun r u => r = (if rn_x st sa = 0 then (m6_run P Q xB n b pr st.toNatClampNeg (gr, gm, rn_t gt sa)).1 else 0) ∧ ∃ (y0_13 : Int32) (y0_14 : Int32) (y0_15 : Int32) (y0_16 : Int32), u = [(hO, .inr (4, [.int (rn_x st sa), .int xB, .int (nI n), .ref qP, .int xP, .ref qN, .int (nI (16 * b)), .ref qY, .ref qD, .int xA, .ref qR, .ref qM, .ref qT, .int y0_13, .int y0_14, .int y0_15, .int y0_16])), (qP, .inl (g.2.1.1, 240, .inl (kf P))), (qY, .inl (g.2.1.1, 1024, .inl (kf Q))), (qR, .inl (g.2.1.1, 8, .inl (if rn_x st sa = 0 then (m6_run P Q xB n b pr st.toNatClampNeg (gr, gm, rn_t gt sa)).2.1 else gr))), (qM, .inl (g.2.1.1, 4096, .inl (if rn_x st sa = 0 then (m6_run P Q xB n b pr st.toNatClampNeg (gr, gm, rn_t gt sa)).2.2.1 else gm))), (qT, .inl (g.2.1.1, 6, .inl (if rn_x st sa = 0 then (m6_run P Q xB n b pr st.toNatClampNeg (gr, gm, rn_t gt sa)).2.2.2 else gt)))]) (SB g A) A) ([.ref hO, .int pr, .int sa, .int st] : List Value).toArray s 0 0 A) (F0 m 77 ls []) := by
          intro K
          induction K with
          | zero => intro j en x yw ya yb yc h2 hq hm; exact absurd hm (Nat.not_lt_zero _)
          | succ K ih =>
            intro j en x yw ya yb yc h2 hq hm H locs ls hP hD hS hl
            refine lv_iload hx hb dX6_run_77 (lv_at hl 5 rfl) ?_
            refine lv_iload_n hx hb dX6_run_79 rfl (lv_at hl 3 rfl) ?_
            refine lv_icmp_ge (tgt := 101) hx hb dX6_run_80 (by decide) (fun c_11 => ?_) (fun c_11 => ?_)
            · skip
              have z_11 := k_leT (a := st.toNatClampNeg) (b := j) c_11 (by omega) (by omega)
              refine lv_iload hx hb dX6_run_101 (lv_at hl 4 rfl) ?_
              exact k_iret hx hb hr hlocks ⟨hK, hP, hD, hS, hA, hE, hN⟩ rfl dX6_run_103 (Nat.le_of_ble_eq_true rfl) (Nat.le_of_ble_eq_true rfl) (by have hz : m6_run P Q xB n b pr st.toNatClampNeg (gr, gm, rn_t gt sa) = (en, x) := (by rw [hq]; exact m6_end (by omega)); have hx0 : rn_x st sa = 0 := (by simp only [rn_x, if_neg c_0, if_neg c_2, if_pos c_4]); exact ⟨by rw [hx0, hz]; rfl, (yw), (ya), (yb), (yc), by rw [hx0, hz]; rfl⟩)
            · skip
              have z_11 := k_leF (a := st.toNatClampNeg) (b := j) c_11 (by omega) (by omega)
              refine lv_iload hx hb dX6_run_83 (lv_at hl 4 rfl) ?_
              refine lv_if_ne (tgt := 101) hx hb dX6_run_85 (by decide) (fun c_12 => ?_) (fun c_12 => ?_)
              · skip
                refine lv_iload hx hb dX6_run_101 (lv_at hl 4 rfl) ?_
                exact k_iret hx hb hr hlocks ⟨hK, hP, hD, hS, hA, hE, hN⟩ rfl dX6_run_103 (Nat.le_of_ble_eq_true rfl) (Nat.le_of_ble_eq_true rfl) (by have hz : m6_run P Q xB n b pr st.toNatClampNeg (gr, gm, rn_t gt sa) = (en, x) := (by rw [hq, if_neg c_12]); have hx0 : rn_x st sa = 0 := (by simp only [rn_x, if_neg c_0, if_neg c_2, if_pos c_4]); exact ⟨by rw [hx0, hz]; rfl, (yw), (ya), (yb), (yc), by rw [hx0, hz]; rfl⟩)
              · skip
                refine lv_aload_n hx hb dX6_run_88 rfl (lv_at hl 0 rfl) ?_
                refine lv_iload_n hx hb dX6_run_89 rfl (lv_at hl 1 rfl) ?_
                refine kiV (As := [.int pr]) (rest := []) (wc := [(hO, .inr (4, [.int 0, .int xB, .int (nI n), .ref qP, .int xP, .ref qN, .int (nI (16 * b)), .ref qY, .ref qD, .int xA, .ref qR, .ref qM, .ref qT, .int yw, .int ya, .int yb, .int yc])), (qP, .inl (g.2.1.1, 240, .inl (kf P))), (qY, .inl (g.2.1.1, 1024, .inl (kf Q))), (qR, .inl (g.2.1.1, 8, .inl x.1)), (qM, .inl (g.2.1.1, 4096, .inl x.2.1)), (qT, .inl (g.2.1.1, 6, .inl x.2.2))]) (wr := []) ⟨hx, hb, hml, hown, hts⟩ (c_X6_step l g hO qP qN qY qD qR qM qT P Q x.1 x.2.1 x.2.2 0 xB n xP b xA yw ya yb yc pr hn hbb hPb hQb) (cwV 1 hts gX6_run_X6_step rfl rfl rfl (by decide +kernel) ⟨Nat.le_of_ble_eq_true rfl, Nat.le_of_ble_eq_true rfl⟩) ⟨hK, hP, hD, hS, hA, hE, hN⟩ [0, 1, 2, 3, 4, 5] [] ⟨rfl, rfl, by decide⟩ (q0 := 0) (ci := 4) rfl rfl rfl rfl hl.1 (Nat.le_of_ble_eq_true rfl) dX6_run_90 ⟨Nat.le_of_ble_eq_true rfl, Nat.le_of_ble_eq_true rfl⟩ rfl (fun r u H locs hw hP hD hS => ?_)
                obtain ⟨hq, y0_13_13, y0_14_13, y0_15_13, y0_16_13, hw⟩ := hw
                subst r
                subst hw
                have hP := hP.sub (ws' := [(hO, .inr (4, [.int 0, .int xB, .int (nI n), .ref qP, .int xP, .ref qN, .int (nI (16 * b)), .ref qY, .ref qD, .int xA, .ref qR, .ref qM, .ref qT, .int y0_13_13, .int y0_14_13, .int y0_15_13, .int y0_16_13])), (qP, .inl (g.2.1.1, 240, .inl (kf P))), (qY, .inl (g.2.1.1, 1024, .inl (kf Q))), (qR, .inl (g.2.1.1, 8, .inl (sp_X6_step_registers P Q x.1 x.2.1 x.2.2 n b pr))), (qM, .inl (g.2.1.1, 4096, .inl (sp_X6_step_memory P Q x.1 x.2.1 x.2.2 n b pr))), (qT, .inl (g.2.1.1, 6, .inl (sp_X6_step_told P Q x.1 x.2.2 xB n b pr)))]) [0, 1, 2, 3, 4, 5] rfl
                have hD := hD.sub (ws' := [(hO, .inr (4, [.int 0, .int xB, .int (nI n), .ref qP, .int xP, .ref qN, .int (nI (16 * b)), .ref qY, .ref qD, .int xA, .ref qR, .ref qM, .ref qT, .int y0_13_13, .int y0_14_13, .int y0_15_13, .int y0_16_13])), (qP, .inl (g.2.1.1, 240, .inl (kf P))), (qY, .inl (g.2.1.1, 1024, .inl (kf Q))), (qR, .inl (g.2.1.1, 8, .inl (sp_X6_step_registers P Q x.1 x.2.1 x.2.2 n b pr))), (qM, .inl (g.2.1.1, 4096, .inl (sp_X6_step_memory P Q x.1 x.2.1 x.2.2 n b pr))), (qT, .inl (g.2.1.1, 6, .inl (sp_X6_step_told P Q x.1 x.2.2 xB n b pr)))]) [0, 1, 2, 3, 4, 5] (by decide) rfl
                refine lv_istore (lv' := [(4, .int (sp_X6_step P Q x.1 x.2.2 n b pr)), (0, .ref hO), (1, .int pr), (2, .int sa), (3, .int (nI (st.toNatClampNeg))), (5, .int (nI j))]) hx hb dX6_run_93 hl (by decide) rfl (fun ls hl => ?_)
                refine lv_iinc (v := (nI (j + 1))) (lv' := [(5, .int (nI (j + 1))), (4, .int (sp_X6_step P Q x.1 x.2.2 n b pr)), (0, .ref hO), (1, .int pr), (2, .int sa), (3, .int (nI (st.toNatClampNeg)))]) hx hb dX6_run_95 hl (k := 5) rfl (nI_add _ _) (by decide) rfl (fun ls hl => ?_)
                refine lv_goto (tgt := 77) hx hb dX6_run_98 (by decide) ?_
                exact ih (j + 1) (m6_ret P Q n b pr x) (m6_next P Q xB n b pr x) y0_13_13 y0_14_13 y0_15_13 y0_16_13 (by omega) (by rw [hq, if_pos c_12, m6_run_s (by omega)]) (by omega) _ _ _ hP hD hS (lv_sub hl [2, 3, 4, 5, 1, 0] rfl)
        exact loop_77 (st.toNatClampNeg - 0 + 1) 0 0 (gr, gm, rn_t gt sa) xw xa xb xc (Nat.zero_le _) (by rw [if_pos rfl]; rfl) (Nat.lt_succ_self _) _ _ _ hP hD hS (lv_sub hl [2, 3, 4, 5, 1, 0] rfl)
      · skip
        refine lv_iconst (v := 1) hx hb dX6_run_17 (by decide) ?_
        refine lv_goto (tgt := 22) hx hb dX6_run_18 (by decide) ?_
        refine va_put (D := g.1) (ci := 4) (v := .int 1) (ty := .int) (C := RX6) (T := TX6) (N := 17) hx hb hts iX6 tyX6 tyX6_ok nmX6 hown hK hP hD hS 0 rfl rfl 0 (by decide) (hts (.fieldLink RX6 35 "FaultIsolationModel" "thrown" "I") (by decide +kernel)) (fun _ h9 => h9) rfl (by decide +kernel) rfl rfl (Nat.le_of_ble_eq_true rfl) dX6_run_22 (fun H locs hP hD hS => ?_)
        have hP : va_P g.1 vwCl [(hO, .inr (4, [.int 1, .int xB, .int (nI n), .ref qP, .int xP, .ref qN, .int (nI (16 * b)), .ref qY, .ref qD, .int xA, .ref qR, .ref qM, .ref qT, .int xw, .int xa, .int xb, .int xc])), (qP, .inl (g.2.1.1, 240, .inl (kf P))), (qY, .inl (g.2.1.1, 1024, .inl (kf Q))), (qR, .inl (g.2.1.1, 8, .inl gr)), (qM, .inl (g.2.1.1, 4096, .inl gm)), (qT, .inl (g.2.1.1, 6, .inl gt))] H := hP
        have hD : va_D A [(hO, .inr (4, [.int 1, .int xB, .int (nI n), .ref qP, .int xP, .ref qN, .int (nI (16 * b)), .ref qY, .ref qD, .int xA, .ref qR, .ref qM, .ref qT, .int xw, .int xa, .int xb, .int xc])), (qP, .inl (g.2.1.1, 240, .inl (kf P))), (qY, .inl (g.2.1.1, 1024, .inl (kf Q))), (qR, .inl (g.2.1.1, 8, .inl gr)), (qM, .inl (g.2.1.1, 4096, .inl gm)), (qT, .inl (g.2.1.1, 6, .inl gt))] := hD
        refine lv_aload_n hx hb dX6_run_25 rfl (lv_at hl 0 rfl) ?_
        refine va_get (D := g.1) (ci := 4) (v := .int 1) (C := RX6) (T := TX6) (N := 17) hx hb hts iX6 hown hK hP 0 rfl rfl 0 (by decide) (hts (.fieldLink RX6 35 "FaultIsolationModel" "thrown" "I") (by decide +kernel)) (fun _ h9 => h9) rfl dX6_run_26 ?_
        refine lv_if_le (tgt := 34) hx hb dX6_run_29 (by decide) (fun c_14 => absurd c_14 (by decide)) (fun _ => ?_)
        refine lv_iconst (v := 0) hx hb dX6_run_32 (by decide) ?_
        exact k_iret hx hb hr hlocks ⟨hK, hP, hD, hS, hA, hE, hN⟩ rfl dX6_run_33 (Nat.le_of_ble_eq_true rfl) (Nat.le_of_ble_eq_true rfl) ⟨by simp only [rn_x, if_neg c_0, if_neg c_2, if_neg c_4]; rfl, (xw), (xa), (xb), (xc), by simp only [rn_x, if_neg c_0, if_neg c_2, if_neg c_4]; rfl⟩
