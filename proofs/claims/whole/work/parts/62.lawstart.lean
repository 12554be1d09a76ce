/-! MY LAW ROWS 3: what holds at the entry; the loop; the start -/
theorem k_arr {args : Array Value} {s : State} {ty : FieldType} (hp : ∀ C, ty ≠ .object C) (h : (Cond.arrayClass ty).before args s = true) : ∃ cA : ClassId, ArrOfT s cA ty ∧ va_RA s cA ty := by
  obtain ⟨c, k, comp, h1, h2, h3⟩ := Cond.arrayClass_spec h
  refine ⟨c, fun n z => ⟨fun k h => (by cases h), k, h2, comp, h3⟩, ?_⟩
  cases ty with
  | object C => exact absurd rfl (hp C)
  | _ => exact h1
set_option maxRecDepth 100000 in
theorem n_el : ∀ j : Fin 19, Cond.eq (.elem (.static RX5 "REGISTERS_OF_WORD" "[I") (.int (Int32.ofNat j.val))) (.int (kT j.val)) ∈ flatC (Jvm.Cond.and given_1 narrow_1) := by decide +kernel
set_option maxRecDepth 100000 in
theorem n_st : ∀ q ∈ kSt, Cond.exactly (.string RX5 q.1) "java/lang/String" ∈ flatC (Jvm.Cond.and given_1 narrow_1) := by decide +kernel
set_option maxRecDepth 100000 in
theorem t_st : ∀ q ∈ kSt, Cond.stringRef RX5 q.1 q.2 ∈ lw_tbl := by decide +kernel
set_option maxRecDepth 100000 in
theorem t_nm : ∀ q ∈ kNm, Cond.methodLinkNest q.1 q.2.1 q.2.2 RX5 ∈ lw_tbl := by decide +kernel
set_option maxRecDepth 100000 in
theorem t_nf : ∀ q ∈ kNf, Cond.fieldLinkNest RX5 q.1 RX1 q.2 "I" RX5 ∈ lw_tbl := by decide +kernel
set_option maxRecDepth 100000 in
theorem t_cs : ∀ q ∈ kCs, Cond.castable q q ∈ lw_tbl := by decide +kernel
set_option maxRecDepth 100000 in
theorem t_ds : ∀ q ∈ kDs, Cond.declares q ∈ lw_tbl := by decide +kernel
set_option maxRecDepth 100000 in
theorem law_env {p : Program} {s : State} {m : MethodId} {meth : Method} {c : Code} {bS L : Nat} {xs : Nat → Int32} (C0 : lw_At p s m meth c bS L xs) : ∃ g : KG, va_K g.1 vwCl (k_tys g) s ∧ kE g (fun q : Nat => s.heap.size ≤ q) s s.heap ∧ kN s := by
  obtain ⟨hx, hb, hr, hml, hown, hts, hX0, hbl, hlocks, hgv⟩ := C0
  have hs := flat_of_before _ hgv
  have hnA : ∀ a : Nat, a < s.heap.size → ¬ (fun q : Nat => s.heap.size ≤ q) a := fun a h => Nat.not_le.mpr h
  obtain ⟨c0, i0, k0⟩ := u_known (C := RX0) (T := TX0) (N := 2) (n := 2) hts inX0 (hts (.instantiable RX0 2) (by decide +kernel))
  obtain ⟨c1, i1, k1⟩ := u_known (C := RX1) (T := TX1) (N := 9) (n := 9) hts inX1 (hts (.instantiable RX1 9) (by decide +kernel))
  obtain ⟨c2, i2, k2⟩ := u_known (C := RX2) (T := TX2) (N := 6) (n := 6) hts inX2 (hts (.instantiable RX2 6) (by decide +kernel))
  obtain ⟨c5, i5, k5⟩ := u_known (C := RX5) (T := TX5) (N := 5) (n := 5) hts inX5 (hts (.instantiable RX5 5) (by decide +kernel))
  obtain ⟨c6, i6, k6⟩ := u_known (C := RX6) (T := TX6) (N := 17) (n := 17) hts inX6 (hts (.instantiable RX6 17) (by decide +kernel))
  obtain ⟨cI, aI, rI⟩ := k_arr (ty := .int) (fun _ h => by cases h) (hts (.arrayClass .int) (by decide +kernel))
  obtain ⟨cZ, aZ, rZ⟩ := k_arr (ty := .boolean) (fun _ h => by cases h) (hts (.arrayClass .boolean) (by decide +kernel))
  obtain ⟨cL, aL, rL⟩ := k_arr (ty := .long) (fun _ h => by cases h) (hts (.arrayClass .long) (by decide +kernel))
  obtain ⟨t0, ht0, hT0⟩ := va_Tof (tm := .static RX5 "REGISTERS_OF_WORD" "[I") (ty := .int) (N := 19) (f := fun j => .int (kT j)) (A := (fun q : Nat => s.heap.size ≤ q)) (by decide) (hs (.arrayOf (.static RX5 "REGISTERS_OF_WORD" "[I") .int) (by decide +kernel)) (va_eqt (hs (.eq (.length (.static RX5 "REGISTERS_OF_WORD" "[I")) (.int (Int32.ofNat 19))) (by decide +kernel))) (fun j hj => va_eqt (hs _ (n_el ⟨j, hj⟩))) hnA
  have hZ := va_Zof (hts (.laysStatic RX5 "REGISTERS_OF_WORD" "[I") (by decide +kernel)) (hts (.initialized RX5) (by decide +kernel)) ht0 hnA
  have hQ1 := vx_Zqof (hts (.laysStatic Bundle.tN "UNASSIGNED_STACK" Bundle.steD) (by decide +kernel)) (hts (.initialized Bundle.tN) (by decide +kernel)) (hs (.isRef (.static Bundle.tN "UNASSIGNED_STACK" Bundle.steD)) (by decide +kernel)) hnA
  have hQ2 := vx_Zqof (hts (.laysStatic Bundle.tN "SUPPRESSED_SENTINEL" Bundle.listD) (by decide +kernel)) (hts (.initialized Bundle.tN) (by decide +kernel)) (hs (.isRef (.static Bundle.tN "SUPPRESSED_SENTINEL" Bundle.listD)) (by decide +kernel)) hnA
  refine ⟨((fun k => if k = 0 then c0 else if k = 1 then c1 else if k = 2 then c2 else if k = 3 then c5 else c6, fun k => if k = 0 then i0 else if k = 1 then i1 else if k = 2 then i2 else if k = 3 then i5 else i6), (cI, cZ, cL), t0), ⟨?_, ?_⟩, ⟨hZ, hT0, hQ1, hQ2⟩, ?_⟩
  · intro k q hq
    match k, hq with
    | 0, hq => cases hq; exact k0
    | 1, hq => cases hq; exact k1
    | 2, hq => cases hq; exact k2
    | 3, hq => cases hq; exact k5
    | 4, hq => cases hq; exact k6
    | k + 5, hq => simp [vwCl] at hq
  · intro k q hq
    match k, hq with
    | 0, hq => cases hq; exact ⟨aI, rI⟩
    | 1, hq => cases hq; exact ⟨aZ, rZ⟩
    | 2, hq => cases hq; exact ⟨aL, rL⟩
    | k + 3, hq => simp [k_tys] at hq
  · refine ⟨fun q hq => va_Nw.of rfl (hts _ (t_nm q hq)), fun q hq => va_Nw.of rfl (hts _ (t_nf q hq)), fun q hq => ?_, fun q hq => va_Nw.of rfl (hts _ (t_cs q hq)), va_Nc.of (hs (.not (.castable kIS kIA)) (by decide +kernel)), fun q hq => va_Nw.of rfl (hts _ (t_ds q hq))⟩
    obtain ⟨a, c9, cA, kA, q1, -⟩ := Cond.exactly_spec (hs _ (n_st q hq))
    exact ⟨a, vk_R.of (hts _ (t_st q hq)) q1⟩
/-- the law's own reading of the script's first int -/
def cv0 (L : Nat) (xs : Nat → Int32) : Int32 := if 0 < L then xs 0 else 0
set_option maxHeartbeats 4000000 in
set_option maxRecDepth 100000 in
theorem c_L_cell (l : Launch) (bS L : Nat) (xs : Nat → Int32) (hL : L ≤ 3073) (sz : Nat) : Met l yL_cell wsL_cell ({ frames := 0, cells := 0, slots := 0, locals := 0 }) (va_Pc [.ref bS, .int 0] (fun U => U.heap.size = sz ∧ bS < sz ∧ va_X bS L xs U U.heap)) (va_Qi (fun r (_ : Unit) => r = cv0 L xs) (fun _ _ => True) (fun q : Nat => sz ≤ q)) 0 0 (fun q : Nat => sz ≤ q) := by
  refine Met.ofW (cc := cL_cell) (maxL := 2) (ret := (some .int)) (by decide) rfl ?_
  intro p e s m args below meth c s₁ B hml hv
  obtain ⟨rfl, hsz, hbl, hX0⟩ := hv
  have hx := B.exec
  have hb := B.bytes
  have hr := B.returns
  have hlocks := B.notSynchronized
  subst hsz
  have hS : va_S (fun q : Nat => s.heap.size ≤ q) s.heap s.heap [] := va_S.rf
  have hbA : ¬ (fun q : Nat => s.heap.size ≤ q) bS := Nat.not_le.mpr hbl
  have hl := lv_entry ([.ref bS, .int 0]) (n := 2) (Nat.le_of_ble_eq_true rfl)
  rw [lg_entry_eq]
  generalize (lg_sl ([.ref bS, .int 0]) ++ List.replicate (2 - (lg_sl ([.ref bS, .int 0])).length) Slot.unset).toArray = ls at hl ⊢
  have hl : lv_has ls 2 [(0, .ref bS), (1, .int 0)] := hl
  refine lv_iload_n hx hb dL_cell_0 rfl (lv_at hl 1 rfl) ?_
  refine lv_aload_n hx hb dL_cell_1 rfl (lv_at hl 0 rfl) ?_
  refine va_slen hx hb hX0 hbl hbA hS dL_cell_2 ?_
  refine lv_icmp_ge (tgt := 12) hx hb dL_cell_3 (by decide) (fun c_0 => ?_) (fun c_0 => ?_)
  · have h0 : ¬ 0 < L := fun q => absurd ((nI_leI (a := L) (b := 0) (by omega) (by decide)).mp c_0) (by omega)
    refine lv_iconst (v := 0) hx hb dL_cell_12 (by decide) ?_
    exact W.zret (v := 0) hx hb hr rfl (fun t ht hW => ⟨⟨0, (), rfl, by unfold cv0; rw [if_neg h0], trivial⟩, hS.F ht⟩) hS.2.2 dL_cell_13 hlocks
  · have h0 : 0 < L := Nat.pos_of_ne_zero (fun q => c_0 (by rw [q]; exact Int32.le_refl _))
    refine lv_aload_n hx hb dL_cell_6 rfl (lv_at hl 0 rfl) ?_
    refine lv_iload_n hx hb dL_cell_7 rfl (lv_at hl 1 rfl) ?_
    refine va_sld hx hb hX0 hbl hbA hS (pk_in 0 L h0) dL_cell_8 ?_
    refine lv_goto (tgt := 13) hx hb dL_cell_9 (by decide) ?_
    exact W.zret (v := xs 0) hx hb hr rfl (fun t ht hW => ⟨⟨xs 0, (), rfl, by unfold cv0; rw [if_pos h0], trivial⟩, hS.F ht⟩) hS.2.2 dL_cell_13 hlocks
section KCell
variable {p : Program} {l : Launch} {e : Env} {s : State} {m : MethodId} {args : Array Value} {below : List Frame} {meth : Method} {c : Code} {H : Heap} {locs : List Loc} {cells slots : Nat} {Q : State → Prop} {pc : Nat} {ls : Array Slot} {rest : List Value} {bS L : Nat} {xs : Nat → Int32}
set_option maxHeartbeats 4000000 in
set_option maxRecDepth 100000 in
theorem k_cell (S : CallFix p m c cL_law 7 s args wsL_law RL) (hL : L ≤ 3073) (hX0 : va_X bS L xs s s.heap) (hbl : bS < s.heap.size) (hS : va_S (fun q : Nat => s.heap.size ≤ q) s.heap H locs) (hsize : ls.size = 7) (hWr : (rest.map fun v => v.category).sum ≤ 8) (hdg : decode cL_law pc = .ok (.invokestatic 62, 3)) (hf : cells + 0 ≤ room_1.cells ∧ slots + 0 ≤ room_1.slots)
    (kk : ∀ (H1 : Heap) (locs1 : List Loc), (∀ q : Nat, q < H.size → H1[q]? = H[q]?) → va_S (fun q : Nat => s.heap.size ≤ q) s.heap H1 locs1 → W p l e room_1 s m args below meth c H1 locs1 (cells + 0) (slots + 0) Q (F0 m (pc + 3) ls (.int (cv0 L xs) :: rest))) : W p l e room_1 s m args below meth c H locs cells slots Q (F0 m pc ls (.int 0 :: .ref bS :: rest)) := by
  have hz : s.heap.size ≤ H.size := hS.1
  have hq0 : H[bS]? = s.heap[bS]? := hS.2.1 bS hbl (Nat.not_le.mpr hbl)
  refine va_calli (va_runS (As := [.ref bS, .int 0]) (rest := rest) S (c_L_cell l bS L xs hL H.size) (va_cwS 2 S.2.2.2.2 gL_law_L_cell rfl rfl rfl (by decide +kernel) ⟨Nat.le_of_ble_eq_true rfl, Nat.le_of_ble_eq_true rfl⟩) ⟨fun a U f mk q => ⟨q.1, q.2.1, q.2.2.1, va_X.moved (u := U) (U := U.calling f mk a) (Vm.Alike.refl U.vm) q.2.2.2⟩, fun U hU hW => ⟨rfl, by rw [hU], Nat.lt_of_lt_of_le hbl hz, by rw [hU]; exact va_X.moved hW.alike (hX0.kept hq0)⟩⟩ rfl rfl hsize rfl (lv_room hWr) hdg hf) hS (fun q h1 h2 => absurd h1 (Nat.not_lt.mpr h2)) (fun q h => Nat.le_trans hz h) (fun r u t H1 locs1 ht hvm hw hB hz1 hk1 hS1 => ?_)
  rw [hw]
  exact kk H1 locs1 (fun q h => hk1 q h (Nat.not_le.mpr h)) hS1
end KCell
set_option maxHeartbeats 4000000 in
set_option maxRecDepth 100000 in
/-- THE LAW'S LOOP: before call t the two states agree -/
theorem law_loop {p : Program} {l : Launch} {e : Env} {s : State} {m : MethodId} {below : List Frame} {meth : Method} {c : Code} {g : KG} {bS L : Nat} {xs : Nat → Int32} {qo hX h q hB qB hR ql qp qa hM qr qm hO qP qN qY qD qR qM qT : Nat} (C0 : LC l g p s m meth c bS L xs) :
    ∀ (nn t cells slots : Nat) (ws : va_W) (H : Heap) (locs : List Loc) (ls : Array Slot), t + nn = 513 → 6 * t ≤ L → cells = 21 + 2 * t → slots = 15120 + 66 * t → LI g qo hX h q hB qB hR ql qp qa hM qr qm hO qP qN qY qD qR qM qT ws → va_P g.1 vwCl ws H → va_D (fun q : Nat => s.heap.size ≤ q) ws → va_S (fun q : Nat => s.heap.size ≤ q) s.heap H locs → lv_has ls 7 [(4, .int (nI (6 * t + 1))), (3, .ref qo), (2, .ref hO), (1, .ref hX), (0, .ref bS)] → W p l e room_1 s m #[Value.ref bS] below meth c H locs cells slots (lw_Z below #[Value.ref bS] s) (F0 m 33 ls []) := by
  intro nn
  induction nn with
  | zero =>
    intro t cells slots ws H locs ls h1 h2
    exact absurd C0.2.1 (by omega)
  | succ nn ih =>
    intro t cells slots ws H locs ls h1 h2 hce hsl hI hP hD hS hl
    obtain ⟨hx, hb, hr, hml, hown, hts0, hX0, hbl, hlocks, hgv⟩ := C0.1
    have hL : L ≤ 3073 := C0.2.1
    have hbA : ¬ (fun q : Nat => s.heap.size ≤ q) bS := Nat.not_le.mpr hbl
    refine lv_iload hx hb dL_law_33 (lv_at hl 0 rfl) ?_
    refine lv_aload_n hx hb dL_law_35 rfl (lv_at hl 4 rfl) ?_
    refine va_slen hx hb hX0 hbl hbA hS dL_law_36 ?_
    refine lv_bipush (v := 6) hx hb dL_law_37 (by decide) ?_
    refine lv_isub hx hb dL_law_39 ?_
    refine lv_icmp_gt (tgt := 1084) hx hb dL_law_40 (by decide) (fun c_0 => ?_) (fun c_0 => ?_)
    · refine lv_iconst (v := 1) hx hb dL_law_1084 (by decide) ?_
      refine va_forget (fun q hq => hS.2.2 q hq) ?_
      refine W.widen (k := 601024) (n := 7293000) (by omega) (by omega) ?_
      exact lw_ret hx hb hr hlocks dL_law_1085
    · have hlt6 : 6 * t + 1 + 6 ≤ L := by
        by_cases h6 : L < 6
        · exact absurd (Int32.lt_of_lt_of_le (pk_sneg (a := L) (b := 6) (by decide) h6) (nI_pos' (n := 6 * t + 1) (by omega))) c_0
        · have e1 : Int32.ofNat L - 6 = nI (L - 6) := pk_sub (a := L) (b := 6) (by omega)
          rw [e1] at c_0
          exact Decidable.byContradiction (fun z => c_0 ((nI_ltI (by omega) (by omega)).mpr (by omega)))
      refine lv_aload_n hx hb dL_law_43 rfl (lv_at hl 4 rfl) ?_
      refine lv_iload hx hb dL_law_44 (lv_at hl 0 rfl) ?_
      refine va_sld hx hb hX0 hbl hbA hS (vp_in_nI (by omega) (by omega)) dL_law_46 ?_
      refine lv_bipush (v := 31) hx hb dL_law_47 (by decide) ?_
      refine lv_iand hx hb dL_law_49 ?_
      obtain ⟨j, hj, ej⟩ := pk_andE (xs (nI (6 * t + 1)).toNatClampNeg) (m := 31) 5 (by decide)
      rw [ej]
      have K : ∀ (ws : va_W) (H : Heap) (locs : List Loc) (ls : Array Slot), LI g qo hX h q hB qB hR ql qp qa hM qr qm hO qP qN qY qD qR qM qT ws → va_P g.1 vwCl ws H → va_D (fun q : Nat => s.heap.size ≤ q) ws → va_S (fun q : Nat => s.heap.size ≤ q) s.heap H locs → lv_has ls 7 [(4, .int (nI (6 * t + 1))), (3, .ref qo), (2, .ref hO), (1, .ref hX), (0, .ref bS)] → W p l e room_1 s m #[Value.ref bS] below meth c H locs (cells + 2) (slots + 66) (lw_Z below #[Value.ref bS] s) (F0 m 1078 ls []) := by
        intro ws H locs ls hI hP hD hS hl
        refine lv_iinc (v := nI (6 * (t + 1) + 1)) (lv' := [(4, .int (nI (6 * (t + 1) + 1))), (3, .ref qo), (2, .ref hO), (1, .ref hX), (0, .ref bS)]) hx hb dL_law_1078 hl (k := 0) rfl (show nI (6 * t + 1) + 6 = nI (6 * (t + 1) + 1) from nI_add (6 * t + 1) 6) (by decide) rfl (fun ls hl => ?_)
        refine lv_goto (tgt := 33) hx hb dL_law_1081 (by decide) ?_
        exact ih (t + 1) (cells + 2) (slots + 66) ws H locs ls (by omega) (by omega) (by omega) (by omega) hI hP hD hS hl
      by_cases hj18 : 18 ≤ j
      · refine lv_tableOut (tgt := 1078) hx hb dL_law_50 (Or.inr (by rw [nI_toInt (by omega)]; omega)) (by decide) ?_
        refine W.widen (k := cells + 2) (n := slots + 66) (by omega) (by omega) ?_
        exact K ws H locs ls hI hP hD hS hl
      obtain ⟨f, n, f2, b, fl, fp, fa, base, k, en, fr, fm, gp, gn, gb, gd, gt, xT, xA, xw, xa, xb, xc, fo, hR0, hws⟩ := hI
      subst hws
      have hc1 : cells + 2 ≤ room_1.cells := by show cells + 2 ≤ 601024; omega
      have hs1 : slots + 66 ≤ room_1.slots := by show slots + 66 ≤ 7293000; omega
      clear ej hce hsl
      rcases (show j = 0 ∨ j = 1 ∨ j = 2 ∨ j = 3 ∨ j = 4 ∨ j = 5 ∨ j = 6 ∨ j = 7 ∨ j = 8 ∨ j = 9 ∨ j = 10 ∨ j = 11 ∨ j = 12 ∨ j = 13 ∨ j = 14 ∨ j = 15 ∨ j = 16 ∨ j = 17 by omega) with rfl | rfl | rfl | rfl | rfl | rfl | rfl | rfl | rfl | rfl | rfl | rfl | rfl | rfl | rfl | rfl | rfl | rfl
      · refine lv_tableIn (off := 86) (tgt := 136) hx hb dL_law_50 (by decide) (by decide) (by decide) (by decide) ?_
        exact lc_add C0 hlt6 hc1 hs1 hR0 hP hD hS hl K
      · refine lv_tableIn (off := 178) (tgt := 228) hx hb dL_law_50 (by decide) (by decide) (by decide) (by decide) ?_
        exact lc_set C0 hlt6 hc1 hs1 hR0 hP hD hS hl K
      · refine lv_tableIn (off := 262) (tgt := 312) hx hb dL_law_50 (by decide) (by decide) (by decide) (by decide) ?_
        exact lc_cut C0 hlt6 hc1 hs1 hR0 hP hD hS hl K
      · refine lv_tableIn (off := 318) (tgt := 368) hx hb dL_law_50 (by decide) (by decide) (by decide) (by decide) ?_
        exact lc_wrong C0 hlt6 hc1 hs1 hR0 hP hD hS hl K
      · refine lv_tableIn (off := 331) (tgt := 381) hx hb dL_law_50 (by decide) (by decide) (by decide) (by decide) ?_
        exact lc_rewrite C0 hlt6 hc1 hs1 hR0 hP hD hS hl K
      · refine lv_tableIn (off := 375) (tgt := 425) hx hb dL_law_50 (by decide) (by decide) (by decide) (by decide) ?_
        exact lc_place C0 hlt6 hc1 hs1 hR0 hP hD hS hl K
      · refine lv_tableIn (off := 431) (tgt := 481) hx hb dL_law_50 (by decide) (by decide) (by decide) (by decide) ?_
        exact lc_bundles C0 hlt6 hc1 hs1 hR0 hP hD hS hl K
      · refine lv_tableIn (off := 467) (tgt := 517) hx hb dL_law_50 (by decide) (by decide) (by decide) (by decide) ?_
        exact lc_size C0 hlt6 hc1 hs1 hR0 hP hD hS hl K
      · refine lv_tableIn (off := 480) (tgt := 530) hx hb dL_law_50 (by decide) (by decide) (by decide) (by decide) ?_
        exact lc_byteAt C0 hlt6 hc1 hs1 hR0 hP hD hS hl K
      · refine lv_tableIn (off := 536) (tgt := 586) hx hb dL_law_50 (by decide) (by decide) (by decide) (by decide) ?_
        exact lc_poke C0 hlt6 hc1 hs1 hR0 hP hD hS hl K
      · refine lv_tableIn (off := 604) (tgt := 654) hx hb dL_law_50 (by decide) (by decide) (by decide) (by decide) ?_
        exact lc_verify C0 hlt6 hc1 hs1 hR0 hP hD hS hl K
      · refine lv_tableIn (off := 617) (tgt := 667) hx hb dL_law_50 (by decide) (by decide) (by decide) (by decide) ?_
        exact lc_register C0 hlt6 hc1 hs1 hR0 hP hD hS hl K
      · refine lv_tableIn (off := 685) (tgt := 735) hx hb dL_law_50 (by decide) (by decide) (by decide) (by decide) ?_
        exact lc_memory C0 hlt6 hc1 hs1 hR0 hP hD hS hl K
      · refine lv_tableIn (off := 753) (tgt := 803) hx hb dL_law_50 (by decide) (by decide) (by decide) (by decide) ?_
        exact lc_run C0 hlt6 hc1 hs1 hR0 hP hD hS hl K
      · refine lv_tableIn (off := 849) (tgt := 899) hx hb dL_law_50 (by decide) (by decide) (by decide) (by decide) ?_
        exact lc_told C0 hlt6 hc1 hs1 hR0 hP hD hS hl K
      · refine lv_tableIn (off := 905) (tgt := 955) hx hb dL_law_50 (by decide) (by decide) (by decide) (by decide) ?_
        exact lc_registerAt C0 hlt6 hc1 hs1 hR0 hP hD hS hl K
      · refine lv_tableIn (off := 961) (tgt := 1011) hx hb dL_law_50 (by decide) (by decide) (by decide) (by decide) ?_
        exact lc_memoryAt C0 hlt6 hc1 hs1 hR0 hP hD hS hl K
      · refine lv_tableIn (off := 1017) (tgt := 1067) hx hb dL_law_50 (by decide) (by decide) (by decide) (by decide) ?_
        exact lc_clear C0 hlt6 hc1 hs1 hR0 hP hD hS hl K
set_option maxHeartbeats 4000000 in
set_option maxRecDepth 100000 in
/-- THE LAW, from its entry -/
theorem whole_start {p : Program} {e : Env} {s : State} {m : MethodId} {below : List Frame} {meth : Method} {c : Code} (l : Launch) (hlt : l.stackTraces = false) {b L : Nat} {xs : Nat → Int32} (hL : L ≤ 3073) (C0 : lw_At p s m meth c b L xs) : W p l e room_1 s m #[Value.ref b] below meth c s.heap [] 0 0 (lw_Z below #[Value.ref b] s) (entryFrame m ([Value.ref b] : List Value).toArray 7) := by
  obtain ⟨g, hK, hE, hN⟩ := law_env C0
  obtain ⟨rg0, hrg⟩ : ∃ r : Int32, r = cv0 L xs := ⟨_, rfl⟩
  obtain ⟨hx, hb, hr, hml, hown, hts0, hX0, hbl, hlocks, hgv⟩ := id C0
  have hown : s.vm.findClass RL = some m.cls := hown
  have hts : ∀ w ∈ wsL_law, w.before #[Value.ref b] s = true := fun w h => hts0 w (wsL_law_in w h)
  have hA : ∀ q : Nat, s.heap.size ≤ q → (fun q : Nat => s.heap.size ≤ q) q := fun _ h => h
  have hS : va_S (fun q : Nat => s.heap.size ≤ q) s.heap s.heap [] := va_S.rf
  have hP : va_P g.1 vwCl [] s.heap := fun k q h => by simp at h
  have hD : va_D (fun q : Nat => s.heap.size ≤ q) [] := ⟨fun i j p q h => by simp at h, fun k q h => by simp at h⟩
  have hl := lv_entry ([.ref b]) (n := 7) (Nat.le_of_ble_eq_true rfl)
  rw [lg_entry_eq]
  generalize (lg_sl ([.ref b]) ++ List.replicate (7 - (lg_sl ([.ref b])).length) Slot.unset).toArray = ls at hl ⊢
  have hl : lv_has ls 7 [(0, .ref b)] := hl
  refine va_new (ci := 3) (fs := [.int 0, .null, .null, .null, .null]) (C := RX5) (T := TX5) (N := 5) hx hb hts0 inX5 tyX5 tyX5_ok hown (hts0 (.classLink RL 8 RX5) (by decide +kernel)) (hts0 (.instantiable RX5 5) (by decide +kernel)) (hts0 (.initialized RX5) (by decide +kernel)) hK hP hD hS hA rfl (fun j hj => by rcases (show j = 0 ∨ j = 1 ∨ j = 2 ∨ j = 3 ∨ j = 4 by omega) with rfl | rfl | rfl | rfl | rfl <;> rfl) (Nat.le_of_ble_eq_true rfl) (Nat.le_of_ble_eq_true rfl) dL_law_0 (fun hX H hP hD hS => ?_)
  have hP : va_P g.1 vwCl [(hX, .inr (3, [.int 0, .null, .null, .null, .null]))] H := hP
  have hD : va_D (fun q : Nat => s.heap.size ≤ q) [(hX, .inr (3, [.int 0, .null, .null, .null, .null]))] := hD
  refine lv_dup hx hb dL_law_3 rfl ?_
  refine lv_aload_n hx hb dL_law_4 rfl (lv_at hl 0 rfl) ?_
  refine lv_iconst (v := 0) hx hb dL_law_5 (by decide) ?_
  refine k_cell (rest := [.ref hX, .ref hX]) ⟨hx, hb, hml, hown, hts⟩ hL hX0 hbl hS hl.1 (Nat.le_of_ble_eq_true rfl) dL_law_6 ⟨Nat.le_of_ble_eq_true rfl, Nat.le_of_ble_eq_true rfl⟩ (fun H1 locs hk hS => ?_)
  have hP : va_P g.1 vwCl [(hX, .inr (3, [.int 0, .null, .null, .null, .null]))] H1 := hP.kept (fun k q hq => hk q.1 ((hP k q hq).lt))
  rw [← hrg]
  refine kvI (As := [.int rg0]) (rest := [.ref hX]) (wc := [(hX, .inr (3, [.int 0, .null, .null, .null, .null]))]) (wr := []) ⟨hx, hb, hml, hown, hts⟩ (c_X5_init l g hX rg0 0) (cwI 1 hts gL_law_X5_init rfl rfl rfl (hts0 (.initialized RX5) (by decide +kernel)) (hts0 (.methodLink RL 68 yX5_init) (by decide +kernel)) (hts0 (.instanceMethod yX5_init) (by decide +kernel)) rfl (by decide +kernel) ⟨Nat.le_of_ble_eq_true rfl, Nat.le_of_ble_eq_true rfl⟩) ⟨hK, hP, hD, hS, hA, hE, hN⟩ [0] [] ⟨rfl, rfl, by decide⟩ rfl hl.1 (Nat.le_of_ble_eq_true rfl) dL_law_9 ⟨Nat.le_of_ble_eq_true rfl, Nat.le_of_ble_eq_true rfl⟩ rfl (fun u H locs hw hP hD hS => ?_)
  obtain ⟨h, q, hB, qB, hR, ql, qp, qa, hM, qr, qm, hw⟩ := hw
  subst u
  refine lv_astore_n (lv' := [(1, .ref hX), (0, .ref b)]) hx hb dL_law_12 rfl hl (by decide) rfl (fun ls hl => ?_)
  refine va_new (ci := 4) (fs := [.int 0, .int 0, .int 0, .null, .int 0, .null, .int 0, .null, .null, .int 0, .null, .null, .null, .int 0, .int 0, .int 0, .int 0]) (C := RX6) (T := TX6) (N := 17) hx hb hts0 inX6 tyX6 tyX6_ok hown (hts0 (.classLink RL 70 RX6) (by decide +kernel)) (hts0 (.instantiable RX6 17) (by decide +kernel)) (hts0 (.initialized RX6) (by decide +kernel)) hK hP hD hS hA rfl (fun j hj => by rcases (show j = 0 ∨ j = 1 ∨ j = 2 ∨ j = 3 ∨ j = 4 ∨ j = 5 ∨ j = 6 ∨ j = 7 ∨ j = 8 ∨ j = 9 ∨ j = 10 ∨ j = 11 ∨ j = 12 ∨ j = 13 ∨ j = 14 ∨ j = 15 ∨ j = 16 by omega) with rfl | rfl | rfl | rfl | rfl | rfl | rfl | rfl | rfl | rfl | rfl | rfl | rfl | rfl | rfl | rfl | rfl <;> rfl) (Nat.le_of_ble_eq_true rfl) (Nat.le_of_ble_eq_true rfl) dL_law_13 (fun hO H hP hD hS => ?_)
  refine lv_dup hx hb dL_law_16 rfl ?_
  refine lv_aload_n hx hb dL_law_17 rfl (lv_at hl 1 rfl) ?_
  refine lv_iconst (v := 0) hx hb dL_law_18 (by decide) ?_
  refine k_cell (rest := [.ref hO, .ref hO]) ⟨hx, hb, hml, hown, hts⟩ hL hX0 hbl hS hl.1 (Nat.le_of_ble_eq_true rfl) dL_law_19 ⟨Nat.le_of_ble_eq_true rfl, Nat.le_of_ble_eq_true rfl⟩ (fun H1 locs hk hS => ?_)
  have hP := hP.kept (H1 := H1) (fun k q hq => hk q.1 ((hP k q hq).lt))
  rw [← hrg]
  have hP : va_P g.1 vwCl ([(hX, .inr (3, [.int (k_base rg0), .ref h, .ref hB, .ref hR, .ref hM])), (h, .inr (0, [.ref q, .int (nI (4 * 0))])), (q, .inl (g.2.1.1, 240, .inl (fun _ => (0 : Int32)))), (hB, .inr (0, [.ref qB, .int (nI (16 * 0))])), (qB, .inl (g.2.1.1, 1024, .inl (fun _ => (0 : Int32)))), (hR, .inr (2, [.int (k_base rg0), .ref ql, .ref qp, .ref qa, .int (nI 0), .int 0])), (ql, .inl (g.2.1.2.1, 60, .inl (fun _ => (0 : Int32)))), (qp, .inl (g.2.1.1, 60, .inl (fun _ => (0 : Int32)))), (qa, .inl (g.2.1.1, 60, .inl (fun _ => (0 : Int32)))), (hM, .inr (1, [.int (k_base rg0), .ref qr, .ref qm, .int ((upd (upd (upd (upd (upd (upd (fun _ => 0) 0 0) 1 0) 2 0) 3 0) 4 0) 5 (-1)) 0), .int ((upd (upd (upd (upd (upd (upd (fun _ => 0) 0 0) 1 0) 2 0) 3 0) 4 0) 5 (-1)) 1), .int ((upd (upd (upd (upd (upd (upd (fun _ => 0) 0 0) 1 0) 2 0) 3 0) 4 0) 5 (-1)) 2), .int ((upd (upd (upd (upd (upd (upd (fun _ => 0) 0 0) 1 0) 2 0) 3 0) 4 0) 5 (-1)) 3), .int ((upd (upd (upd (upd (upd (upd (fun _ => 0) 0 0) 1 0) 2 0) 3 0) 4 0) 5 (-1)) 4), .int ((upd (upd (upd (upd (upd (upd (fun _ => 0) 0 0) 1 0) 2 0) 3 0) 4 0) 5 (-1)) 5)])), (qr, .inl (g.2.1.1, 8, .inl (fun _ => (0 : Int32)))), (qm, .inl (g.2.1.1, 4096, .inl (fun _ => (0 : Int32))))] ++ [(hO, .inr (4, [.int 0, .int 0, .int 0, .null, .int 0, .null, .int 0, .null, .null, .int 0, .null, .null, .null, .int 0, .int 0, .int 0, .int 0]))]) H1 := hP
  have hD : va_D (fun q : Nat => s.heap.size ≤ q) ([(hX, .inr (3, [.int (k_base rg0), .ref h, .ref hB, .ref hR, .ref hM])), (h, .inr (0, [.ref q, .int (nI (4 * 0))])), (q, .inl (g.2.1.1, 240, .inl (fun _ => (0 : Int32)))), (hB, .inr (0, [.ref qB, .int (nI (16 * 0))])), (qB, .inl (g.2.1.1, 1024, .inl (fun _ => (0 : Int32)))), (hR, .inr (2, [.int (k_base rg0), .ref ql, .ref qp, .ref qa, .int (nI 0), .int 0])), (ql, .inl (g.2.1.2.1, 60, .inl (fun _ => (0 : Int32)))), (qp, .inl (g.2.1.1, 60, .inl (fun _ => (0 : Int32)))), (qa, .inl (g.2.1.1, 60, .inl (fun _ => (0 : Int32)))), (hM, .inr (1, [.int (k_base rg0), .ref qr, .ref qm, .int ((upd (upd (upd (upd (upd (upd (fun _ => 0) 0 0) 1 0) 2 0) 3 0) 4 0) 5 (-1)) 0), .int ((upd (upd (upd (upd (upd (upd (fun _ => 0) 0 0) 1 0) 2 0) 3 0) 4 0) 5 (-1)) 1), .int ((upd (upd (upd (upd (upd (upd (fun _ => 0) 0 0) 1 0) 2 0) 3 0) 4 0) 5 (-1)) 2), .int ((upd (upd (upd (upd (upd (upd (fun _ => 0) 0 0) 1 0) 2 0) 3 0) 4 0) 5 (-1)) 3), .int ((upd (upd (upd (upd (upd (upd (fun _ => 0) 0 0) 1 0) 2 0) 3 0) 4 0) 5 (-1)) 4), .int ((upd (upd (upd (upd (upd (upd (fun _ => 0) 0 0) 1 0) 2 0) 3 0) 4 0) 5 (-1)) 5)])), (qr, .inl (g.2.1.1, 8, .inl (fun _ => (0 : Int32)))), (qm, .inl (g.2.1.1, 4096, .inl (fun _ => (0 : Int32))))] ++ [(hO, .inr (4, [.int 0, .int 0, .int 0, .null, .int 0, .null, .int 0, .null, .null, .int 0, .null, .null, .null, .int 0, .int 0, .int 0, .int 0]))]) := hD
  refine kvI (As := [.int rg0]) (rest := [.ref hO]) (wc := [(hO, .inr (4, [.int 0, .int 0, .int 0, .null, .int 0, .null, .int 0, .null, .null, .int 0, .null, .null, .null, .int 0, .int 0, .int 0, .int 0]))]) (wr := [(hX, .inr (3, [.int (k_base rg0), .ref h, .ref hB, .ref hR, .ref hM])), (h, .inr (0, [.ref q, .int (nI (4 * 0))])), (q, .inl (g.2.1.1, 240, .inl (fun _ => (0 : Int32)))), (hB, .inr (0, [.ref qB, .int (nI (16 * 0))])), (qB, .inl (g.2.1.1, 1024, .inl (fun _ => (0 : Int32)))), (hR, .inr (2, [.int (k_base rg0), .ref ql, .ref qp, .ref qa, .int (nI 0), .int 0])), (ql, .inl (g.2.1.2.1, 60, .inl (fun _ => (0 : Int32)))), (qp, .inl (g.2.1.1, 60, .inl (fun _ => (0 : Int32)))), (qa, .inl (g.2.1.1, 60, .inl (fun _ => (0 : Int32)))), (hM, .inr (1, [.int (k_base rg0), .ref qr, .ref qm, .int ((upd (upd (upd (upd (upd (upd (fun _ => 0) 0 0) 1 0) 2 0) 3 0) 4 0) 5 (-1)) 0), .int ((upd (upd (upd (upd (upd (upd (fun _ => 0) 0 0) 1 0) 2 0) 3 0) 4 0) 5 (-1)) 1), .int ((upd (upd (upd (upd (upd (upd (fun _ => 0) 0 0) 1 0) 2 0) 3 0) 4 0) 5 (-1)) 2), .int ((upd (upd (upd (upd (upd (upd (fun _ => 0) 0 0) 1 0) 2 0) 3 0) 4 0) 5 (-1)) 3), .int ((upd (upd (upd (upd (upd (upd (fun _ => 0) 0 0) 1 0) 2 0) 3 0) 4 0) 5 (-1)) 4), .int ((upd (upd (upd (upd (upd (upd (fun _ => 0) 0 0) 1 0) 2 0) 3 0) 4 0) 5 (-1)) 5)])), (qr, .inl (g.2.1.1, 8, .inl (fun _ => (0 : Int32)))), (qm, .inl (g.2.1.1, 4096, .inl (fun _ => (0 : Int32))))]) ⟨hx, hb, hml, hown, hts⟩ (c_X6_init l g hO rg0 0 0 0 0 0 0 0 0 0 0) (cwI 1 hts gL_law_X6_init rfl rfl rfl (hts0 (.initialized RX6) (by decide +kernel)) (hts0 (.methodLink RL 72 yX6_init) (by decide +kernel)) (hts0 (.instanceMethod yX6_init) (by decide +kernel)) rfl (by decide +kernel) ⟨Nat.le_of_ble_eq_true rfl, Nat.le_of_ble_eq_true rfl⟩) ⟨hK, hP, hD, hS, hA, hE, hN⟩ [12] [0, 1, 2, 3, 4, 5, 6, 7, 8, 9, 10, 11] ⟨rfl, rfl, by decide⟩ rfl hl.1 (Nat.le_of_ble_eq_true rfl) dL_law_22 ⟨Nat.le_of_ble_eq_true rfl, Nat.le_of_ble_eq_true rfl⟩ rfl (fun u H locs hw hP hD hS => ?_)
  obtain ⟨qP, qN, qY, qD, qR, qM, qT, hw⟩ := hw
  subst u
  rw [← (M_base rg0).1] at hP hD
  refine lv_astore_n (lv' := [(2, .ref hO), (1, .ref hX), (0, .ref b)]) hx hb dL_law_25 rfl hl (by decide) rfl (fun ls hl => ?_)
  refine lv_iconst (v := 1) hx hb dL_law_26 (by decide) ?_
  refine k_newL hx hb (hts0 (.arrayClass .long) (by decide +kernel)) ⟨hK, hP, hD, hS, hA, hE, hN⟩ 1 rfl (by decide) (Nat.le_of_ble_eq_true rfl) (Nat.le_of_ble_eq_true rfl) dL_law_27 (fun qo H hP hD hS => ?_)
  refine lv_astore_n (lv' := [(3, .ref qo), (2, .ref hO), (1, .ref hX), (0, .ref b)]) hx hb dL_law_29 rfl hl (by decide) rfl (fun ls hl => ?_)
  refine lv_iconst (v := 1) hx hb dL_law_30 (by decide) ?_
  refine lv_istore (lv' := [(4, .int 1), (3, .ref qo), (2, .ref hO), (1, .ref hX), (0, .ref b)]) hx hb dL_law_31 hl (by decide) rfl (fun ls hl => ?_)
  have hP := hP.sub (ws' := [(qo, .inl (g.2.1.2.2, 1, .inr (.inl (fun _ => (0 : Int64))))), (hX, .inr (3, [.int (k_base rg0), .ref h, .ref hB, .ref hR, .ref hM])), (h, .inr (0, [.ref q, .int (nI (4 * 0))])), (q, .inl (g.2.1.1, 240, .inl (fun _ => (0 : Int32)))), (hB, .inr (0, [.ref qB, .int (nI (16 * 0))])), (qB, .inl (g.2.1.1, 1024, .inl (fun _ => (0 : Int32)))), (hR, .inr (2, [.int (k_base rg0), .ref ql, .ref qp, .ref qa, .int (nI 0), .int 0])), (ql, .inl (g.2.1.2.1, 60, .inl (fun _ => (0 : Int32)))), (qp, .inl (g.2.1.1, 60, .inl (fun _ => (0 : Int32)))), (qa, .inl (g.2.1.1, 60, .inl (fun _ => (0 : Int32)))), (hM, .inr (1, [.int (k_base rg0), .ref qr, .ref qm, .int ((upd (upd (upd (upd (upd (upd (fun _ => 0) 0 0) 1 0) 2 0) 3 0) 4 0) 5 (-1)) 0), .int ((upd (upd (upd (upd (upd (upd (fun _ => 0) 0 0) 1 0) 2 0) 3 0) 4 0) 5 (-1)) 1), .int ((upd (upd (upd (upd (upd (upd (fun _ => 0) 0 0) 1 0) 2 0) 3 0) 4 0) 5 (-1)) 2), .int ((upd (upd (upd (upd (upd (upd (fun _ => 0) 0 0) 1 0) 2 0) 3 0) 4 0) 5 (-1)) 3), .int ((upd (upd (upd (upd (upd (upd (fun _ => 0) 0 0) 1 0) 2 0) 3 0) 4 0) 5 (-1)) 4), .int ((upd (upd (upd (upd (upd (upd (fun _ => 0) 0 0) 1 0) 2 0) 3 0) 4 0) 5 (-1)) 5)])), (qr, .inl (g.2.1.1, 8, .inl (fun _ => (0 : Int32)))), (qm, .inl (g.2.1.1, 4096, .inl (fun _ => (0 : Int32)))), (hO, .inr (4, [.int 0, .int (k_base rg0), .int (nI 0), .ref qP, .int (nI 0), .ref qN, .int (nI (16 * 0)), .ref qY, .ref qD, .int 0, .ref qR, .ref qM, .ref qT, .int 0, .int 0, .int 0, .int 0])), (qP, .inl (g.2.1.1, 240, .inl (fun _ => (0 : Int32)))), (qN, .inl (g.2.1.1, 60, .inl (fun _ => (0 : Int32)))), (qY, .inl (g.2.1.1, 1024, .inl (fun _ => (0 : Int32)))), (qD, .inl (g.2.1.1, 4096, .inl (fun _ => (0 : Int32)))), (qR, .inl (g.2.1.1, 8, .inl (fun _ => (0 : Int32)))), (qM, .inl (g.2.1.1, 4096, .inl (fun _ => (0 : Int32)))), (qT, .inl (g.2.1.1, 6, .inl (upd (upd (upd (upd (upd (upd (fun _ => 0) 0 0) 1 0) 2 0) 3 0) 4 0) 5 (-1))))]) [20, 0, 1, 2, 3, 4, 5, 6, 7, 8, 9, 10, 11, 12, 13, 14, 15, 16, 17, 18, 19] rfl
  have hD := hD.sub (ws' := [(qo, .inl (g.2.1.2.2, 1, .inr (.inl (fun _ => (0 : Int64))))), (hX, .inr (3, [.int (k_base rg0), .ref h, .ref hB, .ref hR, .ref hM])), (h, .inr (0, [.ref q, .int (nI (4 * 0))])), (q, .inl (g.2.1.1, 240, .inl (fun _ => (0 : Int32)))), (hB, .inr (0, [.ref qB, .int (nI (16 * 0))])), (qB, .inl (g.2.1.1, 1024, .inl (fun _ => (0 : Int32)))), (hR, .inr (2, [.int (k_base rg0), .ref ql, .ref qp, .ref qa, .int (nI 0), .int 0])), (ql, .inl (g.2.1.2.1, 60, .inl (fun _ => (0 : Int32)))), (qp, .inl (g.2.1.1, 60, .inl (fun _ => (0 : Int32)))), (qa, .inl (g.2.1.1, 60, .inl (fun _ => (0 : Int32)))), (hM, .inr (1, [.int (k_base rg0), .ref qr, .ref qm, .int ((upd (upd (upd (upd (upd (upd (fun _ => 0) 0 0) 1 0) 2 0) 3 0) 4 0) 5 (-1)) 0), .int ((upd (upd (upd (upd (upd (upd (fun _ => 0) 0 0) 1 0) 2 0) 3 0) 4 0) 5 (-1)) 1), .int ((upd (upd (upd (upd (upd (upd (fun _ => 0) 0 0) 1 0) 2 0) 3 0) 4 0) 5 (-1)) 2), .int ((upd (upd (upd (upd (upd (upd (fun _ => 0) 0 0) 1 0) 2 0) 3 0) 4 0) 5 (-1)) 3), .int ((upd (upd (upd (upd (upd (upd (fun _ => 0) 0 0) 1 0) 2 0) 3 0) 4 0) 5 (-1)) 4), .int ((upd (upd (upd (upd (upd (upd (fun _ => 0) 0 0) 1 0) 2 0) 3 0) 4 0) 5 (-1)) 5)])), (qr, .inl (g.2.1.1, 8, .inl (fun _ => (0 : Int32)))), (qm, .inl (g.2.1.1, 4096, .inl (fun _ => (0 : Int32)))), (hO, .inr (4, [.int 0, .int (k_base rg0), .int (nI 0), .ref qP, .int (nI 0), .ref qN, .int (nI (16 * 0)), .ref qY, .ref qD, .int 0, .ref qR, .ref qM, .ref qT, .int 0, .int 0, .int 0, .int 0])), (qP, .inl (g.2.1.1, 240, .inl (fun _ => (0 : Int32)))), (qN, .inl (g.2.1.1, 60, .inl (fun _ => (0 : Int32)))), (qY, .inl (g.2.1.1, 1024, .inl (fun _ => (0 : Int32)))), (qD, .inl (g.2.1.1, 4096, .inl (fun _ => (0 : Int32)))), (qR, .inl (g.2.1.1, 8, .inl (fun _ => (0 : Int32)))), (qM, .inl (g.2.1.1, 4096, .inl (fun _ => (0 : Int32)))), (qT, .inl (g.2.1.1, 6, .inl (upd (upd (upd (upd (upd (upd (fun _ => 0) 0 0) 1 0) 2 0) 3 0) 4 0) 5 (-1))))]) [20, 0, 1, 2, 3, 4, 5, 6, 7, 8, 9, 10, 11, 12, 13, 14, 15, 16, 17, 18, 19] (by decide) rfl
  refine law_loop (g := g) (hX := hX) (hO := hO) (qo := qo) ⟨C0, hL, hlt, hK, hE, hN⟩ 513 0 _ _ _ H locs ls rfl (Nat.zero_le L) rfl rfl ⟨(fun _ => (0 : Int32)), 0, (fun _ => (0 : Int32)), 0, (fun _ => (0 : Int32)), (fun _ => (0 : Int32)), (fun _ => (0 : Int32)), k_base rg0, 0, 0, (fun _ => (0 : Int32)), (fun _ => (0 : Int32)), (fun _ => (0 : Int32)), (fun _ => (0 : Int32)), (fun _ => (0 : Int32)), (fun _ => (0 : Int32)), (upd (upd (upd (upd (upd (upd (fun _ => 0) 0 0) 1 0) 2 0) 3 0) 4 0) 5 (-1)), 0, 0, 0, 0, 0, 0, (fun _ => (0 : Int64)), ?_, rfl⟩ hP hD hS hl
  exact ⟨by decide, by decide, by decide, (M_base rg0).2, fun _ => ⟨0, by decide, rfl⟩, fun _ => ⟨0, by decide, rfl⟩, fun x hx => absurd hx (Nat.not_lt_zero x), fun x hx => absurd hx (Nat.not_lt_zero x), fun _ _ _ => rfl, fun x hx => absurd hx (Nat.not_lt_zero x)⟩
