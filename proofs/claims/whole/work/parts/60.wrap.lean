/-! MY LAW ROWS: the wrappers -/
set_option maxHeartbeats 4000000 in
set_option maxRecDepth 100000 in
theorem c_L_add (l : Launch) (g : KG) (hX qo : Nat) (p0 p1 p2 p3 : Int32) (fo : Nat → Int64) (fs : List Value) (z1 z2 z3 z4 z5 z6 z7 z8 z9 z10 z11 : Nat × va_E) (post : Int32 → va_W → Prop) (PE : String → Prop) (hM : CiX l g yX5_add wsX5_add ({ frames := 6, cells := 1, slots := 6, locals := 90 }) [.ref hX, .int p0, .int p1, .int p2, .int p3] [(hX, .inr (3, fs)), z1, z2, z3, z4, z5, z6, z7, z8, z9, z10, z11] post PE 1 6) (hPE : ∀ E, PE E → E = kIA ∨ E = kIS) : CiL l g yL_add wsL_add ({ frames := 7, cells := 1, slots := 6, locals := 115 }) [.ref hX, .int p0, .int p1, .int p2, .int p3, .ref qo] ((qo, .inl (g.2.1.2.2, 1, .inr (.inl fo))) :: [(hX, .inr (3, fs)), z1, z2, z3, z4, z5, z6, z7, z8, z9, z10, z11]) (fun k w => (k = 0 ∧ ∃ (r : Int32) (u : va_W), post r u ∧ w = (qo, .inl (g.2.1.2.2, 1, .inr (.inl (vp_updL fo 0 r.toInt64)))) :: u) ∨ (k = 1 ∧ PE kIA ∧ w = (qo, .inl (g.2.1.2.2, 1, .inr (.inl fo))) :: [(hX, .inr (3, fs)), z1, z2, z3, z4, z5, z6, z7, z8, z9, z10, z11]) ∨ (k = 2 ∧ PE kIS ∧ w = (qo, .inl (g.2.1.2.2, 1, .inr (.inl fo))) :: [(hX, .inr (3, fs)), z1, z2, z3, z4, z5, z6, z7, z8, z9, z10, z11])) 1 6 := by
  intro sz
  refine vx_ofWH (cc := cL_add) (maxL := 7) (ret := (some .int)) (by decide) rfl ?_
  intro p e s m args below meth c s₁ B hml hv
  obtain ⟨rfl, hsz, hP, hK, hD0, hE, hN⟩ := hv
  have hx := B.exec
  have hb := B.bytes
  have hr := B.returns
  have hts := atoms_spec (ws := wsL_add) B.pre
  have hown : s.vm.findClass RL = some m.cls := findClass_of_methodNamed B.named
  have hlocks := B.notSynchronized
  have htab := vx_table (x := yL_add) B (hts _ List.mem_cons_self)
  subst hsz
  have hD := hD0.self (sz := s.heap.size)
  generalize hAe : va_A ((qo, .inl (g.2.1.2.2, 1, .inr (.inl fo))) :: [(hX, .inr (3, fs)), z1, z2, z3, z4, z5, z6, z7, z8, z9, z10, z11]) s.heap.size = A at hD hE ⊢
  have hA : ∀ q : Nat, s.heap.size ≤ q → A q := fun q h => by rw [← hAe]; exact Or.inr h
  have hS : va_S A s.heap s.heap [] := va_S.rf
  have hl := lv_entry ([.ref hX, .int p0, .int p1, .int p2, .int p3, .ref qo]) (n := 7) (Nat.le_of_ble_eq_true rfl)
  rw [lg_entry_eq]
  generalize (lg_sl ([.ref hX, .int p0, .int p1, .int p2, .int p3, .ref qo]) ++ List.replicate (7 - (lg_sl ([.ref hX, .int p0, .int p1, .int p2, .int p3, .ref qo])).length) Slot.unset).toArray = ls at hl ⊢
  have hl : lv_has ls 7 [(0, .ref hX), (1, .int p0), (2, .int p1), (3, .int p2), (4, .int p3), (5, .ref qo)] := hl
  refine lv_aload hx hb dL_add_0 (lv_at hl 5 rfl) ?_
  refine lv_iconst (v := 0) hx hb dL_add_2 (by decide) ?_
  refine lv_aload_n hx hb dL_add_3 rfl (lv_at hl 0 rfl) ?_
  refine lv_iload_n hx hb dL_add_4 rfl (lv_at hl 1 rfl) ?_
  refine lv_iload_n hx hb dL_add_5 rfl (lv_at hl 2 rfl) ?_
  refine lv_iload_n hx hb dL_add_6 rfl (lv_at hl 3 rfl) ?_
  refine lv_iload hx hb dL_add_7 (lv_at hl 4 rfl) ?_
  refine kiVX (As := [.int p0, .int p1, .int p2, .int p3]) (rest := [.int 0, .ref qo]) (wc := [(hX, .inr (3, fs)), z1, z2, z3, z4, z5, z6, z7, z8, z9, z10, z11]) (wr := [(qo, .inl (g.2.1.2.2, 1, .inr (.inl fo)))]) ⟨hx, hb, hml, hown, hts⟩ hM (cwV 4 hts gL_add_X5_add rfl rfl rfl (by decide +kernel) ⟨Nat.le_of_ble_eq_true rfl, Nat.le_of_ble_eq_true rfl⟩) ⟨hK, hP, hD, hS, hA, hE, hN⟩ [1, 2, 3, 4, 5, 6, 7, 8, 9, 10, 11, 12] [0] ⟨rfl, rfl, rfl⟩ (q0 := 1) (ci := 3) rfl rfl rfl rfl hl.1 (Nat.le_of_ble_eq_true rfl) dL_add_9 ⟨Nat.le_of_ble_eq_true rfl, Nat.le_of_ble_eq_true rfl⟩ rfl (fun E ce q9 H locs hpe hP hD hS g1 g2 g3 => ?_) (fun r u H locs hw hP hD hS => ?_)
  · skip
    rcases hPE E hpe with hq | hq
    · subst hq
      refine vx_catch (name := kIA) hown [] ⟨0, 14, 17, 13⟩ [⟨0, 14, 21, 15⟩] (by rw [htab]; rfl) (fun z hz => absurd hz List.not_mem_nil) (by decide) (by decide) (hts (.classLink RL 13 kIA) (by decide +kernel)) (va_Nw.use rfl (hN.2.2.2.1 kIA (List.mem_of_getElem? (i := 0) rfl))) g1 g2 g3 ?_
      refine lv_astore (lv' := [(6, .ref q9), (0, .ref hX), (1, .int p0), (2, .int p1), (3, .int p2), (4, .int p3), (5, .ref qo)]) hx hb dL_add_17 hl (by decide) rfl (fun ls hl => ?_)
      refine lv_iconst (v := 1) hx hb dL_add_19 (by decide) ?_
      refine vx_ret ?_
      exact k_iret hx hb hr hlocks ⟨hK, hP, hD, hS, hA, hE, hN⟩ rfl dL_add_20 (Nat.le_of_ble_eq_true rfl) (Nat.le_of_ble_eq_true rfl) (Or.inr (Or.inl ⟨rfl, hpe, rfl⟩))
    · subst hq
      refine vx_catch (name := kIS) hown [⟨0, 14, 17, 13⟩] ⟨0, 14, 21, 15⟩ [] (by rw [htab]; rfl) (fun z hz => by rw [List.mem_singleton.mp hz]; exact Or.inr ⟨by decide, kIA, hts (.classLink RL 13 kIA) (by decide +kernel), hN.2.2.2.2.1⟩) (by decide) (by decide) (hts (.classLink RL 15 kIS) (by decide +kernel)) (va_Nw.use rfl (hN.2.2.2.1 kIS (List.mem_of_getElem? (i := 1) rfl))) g1 g2 g3 ?_
      refine lv_astore (lv' := [(6, .ref q9), (0, .ref hX), (1, .int p0), (2, .int p1), (3, .int p2), (4, .int p3), (5, .ref qo)]) hx hb dL_add_21 hl (by decide) rfl (fun ls hl => ?_)
      refine lv_iconst (v := 2) hx hb dL_add_23 (by decide) ?_
      refine vx_ret ?_
      exact k_iret hx hb hr hlocks ⟨hK, hP, hD, hS, hA, hE, hN⟩ rfl dL_add_24 (Nat.le_of_ble_eq_true rfl) (Nat.le_of_ble_eq_true rfl) (Or.inr (Or.inr ⟨rfl, hpe, rfl⟩))
  · skip
    refine lv_i2l (v := r.toInt64) hx hb dL_add_12 rfl ?_
    refine va_last hx hb hK hP hD hS 0 2 (cA := g.2.1.2.2) (n := 1) (f := fo) rfl rfl (pk_in 0 1 (by decide)) dL_add_13 (fun H locs hP hD hS => ?_)
    have hP : va_P g.1 vwCl ((qo, .inl (g.2.1.2.2, 1, .inr (.inl (vp_updL fo 0 r.toInt64)))) :: u) H := hP
    have hD : va_D A ((qo, .inl (g.2.1.2.2, 1, .inr (.inl (vp_updL fo 0 r.toInt64)))) :: u) := hD
    refine lv_goto (tgt := 25) hx hb dL_add_14 (by decide) ?_
    refine lv_iconst (v := 0) hx hb dL_add_25 (by decide) ?_
    refine vx_ret ?_
    exact k_iret hx hb hr hlocks ⟨hK, hP, hD, hS, hA, hE, hN⟩ rfl dL_add_26 (Nat.le_of_ble_eq_true rfl) (Nat.le_of_ble_eq_true rfl) (Or.inl ⟨rfl, r, u, hw, rfl⟩)
set_option maxHeartbeats 4000000 in
set_option maxRecDepth 100000 in
theorem c_L_set (l : Launch) (g : KG) (hX : Nat) (p0 p1 p2 p3 p4 : Int32) (fs : List Value) (z1 z2 z3 z4 z5 z6 z7 z8 z9 z10 z11 : Nat × va_E) (post : va_W → Prop) (PE : String → Prop) (hM : CvX l g yX5_set wsX5_set ({ frames := 6, cells := 1, slots := 6, locals := 90 }) [.ref hX, .int p0, .int p1, .int p2, .int p3, .int p4] [(hX, .inr (3, fs)), z1, z2, z3, z4, z5, z6, z7, z8, z9, z10, z11] post PE 1 6) (hPE : ∀ E, PE E → E = kIA) : CiL l g yL_set wsL_set ({ frames := 7, cells := 1, slots := 6, locals := 115 }) [.ref hX, .int p0, .int p1, .int p2, .int p3, .int p4] ([(hX, .inr (3, fs)), z1, z2, z3, z4, z5, z6, z7, z8, z9, z10, z11]) (fun k w => (k = 0 ∧ post w) ∨ (k = 1 ∧ PE kIA ∧ w = [(hX, .inr (3, fs)), z1, z2, z3, z4, z5, z6, z7, z8, z9, z10, z11])) 1 6 := by
  intro sz
  refine vx_ofWH (cc := cL_set) (maxL := 7) (ret := (some .int)) (by decide) rfl ?_
  intro p e s m args below meth c s₁ B hml hv
  obtain ⟨rfl, hsz, hP, hK, hD0, hE, hN⟩ := hv
  have hx := B.exec
  have hb := B.bytes
  have hr := B.returns
  have hts := atoms_spec (ws := wsL_set) B.pre
  have hown : s.vm.findClass RL = some m.cls := findClass_of_methodNamed B.named
  have hlocks := B.notSynchronized
  have htab := vx_table (x := yL_set) B (hts _ List.mem_cons_self)
  subst hsz
  have hD := hD0.self (sz := s.heap.size)
  generalize hAe : va_A ([(hX, .inr (3, fs)), z1, z2, z3, z4, z5, z6, z7, z8, z9, z10, z11]) s.heap.size = A at hD hE ⊢
  have hA : ∀ q : Nat, s.heap.size ≤ q → A q := fun q h => by rw [← hAe]; exact Or.inr h
  have hS : va_S A s.heap s.heap [] := va_S.rf
  have hl := lv_entry ([.ref hX, .int p0, .int p1, .int p2, .int p3, .int p4]) (n := 7) (Nat.le_of_ble_eq_true rfl)
  rw [lg_entry_eq]
  generalize (lg_sl ([.ref hX, .int p0, .int p1, .int p2, .int p3, .int p4]) ++ List.replicate (7 - (lg_sl ([.ref hX, .int p0, .int p1, .int p2, .int p3, .int p4])).length) Slot.unset).toArray = ls at hl ⊢
  have hl : lv_has ls 7 [(0, .ref hX), (1, .int p0), (2, .int p1), (3, .int p2), (4, .int p3), (5, .int p4)] := hl
  refine lv_aload_n hx hb dL_set_0 rfl (lv_at hl 0 rfl) ?_
  refine lv_iload_n hx hb dL_set_1 rfl (lv_at hl 1 rfl) ?_
  refine lv_iload_n hx hb dL_set_2 rfl (lv_at hl 2 rfl) ?_
  refine lv_iload_n hx hb dL_set_3 rfl (lv_at hl 3 rfl) ?_
  refine lv_iload hx hb dL_set_4 (lv_at hl 4 rfl) ?_
  refine lv_iload hx hb dL_set_6 (lv_at hl 5 rfl) ?_
  refine kvVX (As := [.int p0, .int p1, .int p2, .int p3, .int p4]) (rest := []) (wc := [(hX, .inr (3, fs)), z1, z2, z3, z4, z5, z6, z7, z8, z9, z10, z11]) (wr := []) ⟨hx, hb, hml, hown, hts⟩ hM (cwV 5 hts gL_set_X5_set rfl rfl rfl (by decide +kernel) ⟨Nat.le_of_ble_eq_true rfl, Nat.le_of_ble_eq_true rfl⟩) ⟨hK, hP, hD, hS, hA, hE, hN⟩ [0, 1, 2, 3, 4, 5, 6, 7, 8, 9, 10, 11] [] ⟨rfl, rfl, rfl⟩ (q0 := 0) (ci := 3) rfl rfl rfl rfl hl.1 (Nat.le_of_ble_eq_true rfl) dL_set_8 ⟨Nat.le_of_ble_eq_true rfl, Nat.le_of_ble_eq_true rfl⟩ rfl (fun E ce q9 H locs hpe hP hD hS g1 g2 g3 => ?_) (fun u H locs hw hP hD hS => ?_)
  · skip
    have hq := hPE E hpe
    subst hq
    refine vx_catch (name := kIA) hown [] ⟨0, 11, 14, 13⟩ [] (by rw [htab]; rfl) (fun z hz => absurd hz List.not_mem_nil) (by decide) (by decide) (hts (.classLink RL 13 kIA) (by decide +kernel)) (va_Nw.use rfl (hN.2.2.2.1 kIA (List.mem_of_getElem? (i := 0) rfl))) g1 g2 g3 ?_
    refine lv_astore (lv' := [(6, .ref q9), (0, .ref hX), (1, .int p0), (2, .int p1), (3, .int p2), (4, .int p3), (5, .int p4)]) hx hb dL_set_14 hl (by decide) rfl (fun ls hl => ?_)
    refine lv_iconst (v := 1) hx hb dL_set_16 (by decide) ?_
    refine vx_ret ?_
    exact k_iret hx hb hr hlocks ⟨hK, hP, hD, hS, hA, hE, hN⟩ rfl dL_set_17 (Nat.le_of_ble_eq_true rfl) (Nat.le_of_ble_eq_true rfl) (Or.inr ⟨rfl, hpe, rfl⟩)
  · skip
    have hP : va_P g.1 vwCl u H := hP
    have hD : va_D A u := hD
    refine lv_goto (tgt := 18) hx hb dL_set_11 (by decide) ?_
    refine lv_iconst (v := 0) hx hb dL_set_18 (by decide) ?_
    refine vx_ret ?_
    exact k_iret hx hb hr hlocks ⟨hK, hP, hD, hS, hA, hE, hN⟩ rfl dL_set_19 (Nat.le_of_ble_eq_true rfl) (Nat.le_of_ble_eq_true rfl) (Or.inl ⟨rfl, hw⟩)
set_option maxHeartbeats 4000000 in
set_option maxRecDepth 100000 in
theorem c_L_cut (l : Launch) (g : KG) (hX qo : Nat) (p0 : Int32) (fo : Nat → Int64) (fs : List Value) (z1 z2 z3 z4 z5 z6 z7 z8 z9 z10 z11 : Nat × va_E) (post : Int32 → va_W → Prop) (PE : String → Prop) (hM : CiX l g yX5_cut wsX5_cut ({ frames := 6, cells := 1, slots := 6, locals := 90 }) [.ref hX, .int p0] [(hX, .inr (3, fs)), z1, z2, z3, z4, z5, z6, z7, z8, z9, z10, z11] post PE 1 6) (hPE : ∀ E, PE E → E = kIA) : CiL l g yL_cut wsL_cut ({ frames := 7, cells := 1, slots := 6, locals := 112 }) [.ref hX, .int p0, .ref qo] ((qo, .inl (g.2.1.2.2, 1, .inr (.inl fo))) :: [(hX, .inr (3, fs)), z1, z2, z3, z4, z5, z6, z7, z8, z9, z10, z11]) (fun k w => (k = 0 ∧ ∃ (r : Int32) (u : va_W), post r u ∧ w = (qo, .inl (g.2.1.2.2, 1, .inr (.inl (vp_updL fo 0 r.toInt64)))) :: u) ∨ (k = 1 ∧ PE kIA ∧ w = (qo, .inl (g.2.1.2.2, 1, .inr (.inl fo))) :: [(hX, .inr (3, fs)), z1, z2, z3, z4, z5, z6, z7, z8, z9, z10, z11])) 1 6 := by
  intro sz
  refine vx_ofWH (cc := cL_cut) (maxL := 4) (ret := (some .int)) (by decide) rfl ?_
  intro p e s m args below meth c s₁ B hml hv
  obtain ⟨rfl, hsz, hP, hK, hD0, hE, hN⟩ := hv
  have hx := B.exec
  have hb := B.bytes
  have hr := B.returns
  have hts := atoms_spec (ws := wsL_cut) B.pre
  have hown : s.vm.findClass RL = some m.cls := findClass_of_methodNamed B.named
  have hlocks := B.notSynchronized
  have htab := vx_table (x := yL_cut) B (hts _ List.mem_cons_self)
  subst hsz
  have hD := hD0.self (sz := s.heap.size)
  generalize hAe : va_A ((qo, .inl (g.2.1.2.2, 1, .inr (.inl fo))) :: [(hX, .inr (3, fs)), z1, z2, z3, z4, z5, z6, z7, z8, z9, z10, z11]) s.heap.size = A at hD hE ⊢
  have hA : ∀ q : Nat, s.heap.size ≤ q → A q := fun q h => by rw [← hAe]; exact Or.inr h
  have hS : va_S A s.heap s.heap [] := va_S.rf
  have hl := lv_entry ([.ref hX, .int p0, .ref qo]) (n := 4) (Nat.le_of_ble_eq_true rfl)
  rw [lg_entry_eq]
  generalize (lg_sl ([.ref hX, .int p0, .ref qo]) ++ List.replicate (4 - (lg_sl ([.ref hX, .int p0, .ref qo])).length) Slot.unset).toArray = ls at hl ⊢
  have hl : lv_has ls 4 [(0, .ref hX), (1, .int p0), (2, .ref qo)] := hl
  refine lv_aload_n hx hb dL_cut_0 rfl (lv_at hl 2 rfl) ?_
  refine lv_iconst (v := 0) hx hb dL_cut_1 (by decide) ?_
  refine lv_aload_n hx hb dL_cut_2 rfl (lv_at hl 0 rfl) ?_
  refine lv_iload_n hx hb dL_cut_3 rfl (lv_at hl 1 rfl) ?_
  refine kiVX (As := [.int p0]) (rest := [.int 0, .ref qo]) (wc := [(hX, .inr (3, fs)), z1, z2, z3, z4, z5, z6, z7, z8, z9, z10, z11]) (wr := [(qo, .inl (g.2.1.2.2, 1, .inr (.inl fo)))]) ⟨hx, hb, hml, hown, hts⟩ hM (cwV 1 hts gL_cut_X5_cut rfl rfl rfl (by decide +kernel) ⟨Nat.le_of_ble_eq_true rfl, Nat.le_of_ble_eq_true rfl⟩) ⟨hK, hP, hD, hS, hA, hE, hN⟩ [1, 2, 3, 4, 5, 6, 7, 8, 9, 10, 11, 12] [0] ⟨rfl, rfl, rfl⟩ (q0 := 1) (ci := 3) rfl rfl rfl rfl hl.1 (Nat.le_of_ble_eq_true rfl) dL_cut_4 ⟨Nat.le_of_ble_eq_true rfl, Nat.le_of_ble_eq_true rfl⟩ rfl (fun E ce q9 H locs hpe hP hD hS g1 g2 g3 => ?_) (fun r u H locs hw hP hD hS => ?_)
  · skip
    have hq := hPE E hpe
    subst hq
    refine vx_catch (name := kIA) hown [] ⟨0, 9, 12, 13⟩ [] (by rw [htab]; rfl) (fun z hz => absurd hz List.not_mem_nil) (by decide) (by decide) (hts (.classLink RL 13 kIA) (by decide +kernel)) (va_Nw.use rfl (hN.2.2.2.1 kIA (List.mem_of_getElem? (i := 0) rfl))) g1 g2 g3 ?_
    refine lv_astore_n (lv' := [(3, .ref q9), (0, .ref hX), (1, .int p0), (2, .ref qo)]) hx hb dL_cut_12 rfl hl (by decide) rfl (fun ls hl => ?_)
    refine lv_iconst (v := 1) hx hb dL_cut_13 (by decide) ?_
    refine vx_ret ?_
    exact k_iret hx hb hr hlocks ⟨hK, hP, hD, hS, hA, hE, hN⟩ rfl dL_cut_14 (Nat.le_of_ble_eq_true rfl) (Nat.le_of_ble_eq_true rfl) (Or.inr ⟨rfl, hpe, rfl⟩)
  · skip
    refine lv_i2l (v := r.toInt64) hx hb dL_cut_7 rfl ?_
    refine va_last hx hb hK hP hD hS 0 2 (cA := g.2.1.2.2) (n := 1) (f := fo) rfl rfl (pk_in 0 1 (by decide)) dL_cut_8 (fun H locs hP hD hS => ?_)
    have hP : va_P g.1 vwCl ((qo, .inl (g.2.1.2.2, 1, .inr (.inl (vp_updL fo 0 r.toInt64)))) :: u) H := hP
    have hD : va_D A ((qo, .inl (g.2.1.2.2, 1, .inr (.inl (vp_updL fo 0 r.toInt64)))) :: u) := hD
    refine lv_goto (tgt := 15) hx hb dL_cut_9 (by decide) ?_
    refine lv_iconst (v := 0) hx hb dL_cut_15 (by decide) ?_
    refine vx_ret ?_
    exact k_iret hx hb hr hlocks ⟨hK, hP, hD, hS, hA, hE, hN⟩ rfl dL_cut_16 (Nat.le_of_ble_eq_true rfl) (Nat.le_of_ble_eq_true rfl) (Or.inl ⟨rfl, r, u, hw, rfl⟩)
set_option maxHeartbeats 4000000 in
set_option maxRecDepth 100000 in
theorem c_L_rewrite (l : Launch) (g : KG) (hX qo : Nat) (fo : Nat → Int64) (fs : List Value) (z1 z2 z3 z4 z5 z6 z7 z8 z9 z10 z11 : Nat × va_E) (post : Int32 → va_W → Prop) (PE : String → Prop) (hM : CiX l g yX5_rewrite wsX5_rewrite ({ frames := 6, cells := 1, slots := 6, locals := 126 }) [.ref hX] [(hX, .inr (3, fs)), z1, z2, z3, z4, z5, z6, z7, z8, z9, z10, z11] post PE 1 6) (hPE : ∀ E, PE E → E = kIS) : CiL l g yL_rewrite wsL_rewrite ({ frames := 7, cells := 1, slots := 6, locals := 146 }) [.ref hX, .ref qo] ((qo, .inl (g.2.1.2.2, 1, .inr (.inl fo))) :: [(hX, .inr (3, fs)), z1, z2, z3, z4, z5, z6, z7, z8, z9, z10, z11]) (fun k w => (k = 0 ∧ ∃ (r : Int32) (u : va_W), post r u ∧ w = (qo, .inl (g.2.1.2.2, 1, .inr (.inl (vp_updL fo 0 r.toInt64)))) :: u) ∨ (k = 1 ∧ PE kIS ∧ w = (qo, .inl (g.2.1.2.2, 1, .inr (.inl fo))) :: [(hX, .inr (3, fs)), z1, z2, z3, z4, z5, z6, z7, z8, z9, z10, z11])) 1 6 := by
  intro sz
  refine vx_ofWH (cc := cL_rewrite) (maxL := 3) (ret := (some .int)) (by decide) rfl ?_
  intro p e s m args below meth c s₁ B hml hv
  obtain ⟨rfl, hsz, hP, hK, hD0, hE, hN⟩ := hv
  have hx := B.exec
  have hb := B.bytes
  have hr := B.returns
  have hts := atoms_spec (ws := wsL_rewrite) B.pre
  have hown : s.vm.findClass RL = some m.cls := findClass_of_methodNamed B.named
  have hlocks := B.notSynchronized
  have htab := vx_table (x := yL_rewrite) B (hts _ List.mem_cons_self)
  subst hsz
  have hD := hD0.self (sz := s.heap.size)
  generalize hAe : va_A ((qo, .inl (g.2.1.2.2, 1, .inr (.inl fo))) :: [(hX, .inr (3, fs)), z1, z2, z3, z4, z5, z6, z7, z8, z9, z10, z11]) s.heap.size = A at hD hE ⊢
  have hA : ∀ q : Nat, s.heap.size ≤ q → A q := fun q h => by rw [← hAe]; exact Or.inr h
  have hS : va_S A s.heap s.heap [] := va_S.rf
  have hl := lv_entry ([.ref hX, .ref qo]) (n := 3) (Nat.le_of_ble_eq_true rfl)
  rw [lg_entry_eq]
  generalize (lg_sl ([.ref hX, .ref qo]) ++ List.replicate (3 - (lg_sl ([.ref hX, .ref qo])).length) Slot.unset).toArray = ls at hl ⊢
  have hl : lv_has ls 3 [(0, .ref hX), (1, .ref qo)] := hl
  refine lv_aload_n hx hb dL_rewrite_0 rfl (lv_at hl 1 rfl) ?_
  refine lv_iconst (v := 0) hx hb dL_rewrite_1 (by decide) ?_
  refine lv_aload_n hx hb dL_rewrite_2 rfl (lv_at hl 0 rfl) ?_
  refine kiVX (As := []) (rest := [.int 0, .ref qo]) (wc := [(hX, .inr (3, fs)), z1, z2, z3, z4, z5, z6, z7, z8, z9, z10, z11]) (wr := [(qo, .inl (g.2.1.2.2, 1, .inr (.inl fo)))]) ⟨hx, hb, hml, hown, hts⟩ hM (cwV 0 hts gL_rewrite_X5_rewrite rfl rfl rfl (by decide +kernel) ⟨Nat.le_of_ble_eq_true rfl, Nat.le_of_ble_eq_true rfl⟩) ⟨hK, hP, hD, hS, hA, hE, hN⟩ [1, 2, 3, 4, 5, 6, 7, 8, 9, 10, 11, 12] [0] ⟨rfl, rfl, rfl⟩ (q0 := 1) (ci := 3) rfl rfl rfl rfl hl.1 (Nat.le_of_ble_eq_true rfl) dL_rewrite_3 ⟨Nat.le_of_ble_eq_true rfl, Nat.le_of_ble_eq_true rfl⟩ rfl (fun E ce q9 H locs hpe hP hD hS g1 g2 g3 => ?_) (fun r u H locs hw hP hD hS => ?_)
  · skip
    have hq := hPE E hpe
    subst hq
    refine vx_catch (name := kIS) hown [] ⟨0, 8, 11, 15⟩ [] (by rw [htab]; rfl) (fun z hz => absurd hz List.not_mem_nil) (by decide) (by decide) (hts (.classLink RL 15 kIS) (by decide +kernel)) (va_Nw.use rfl (hN.2.2.2.1 kIS (List.mem_of_getElem? (i := 1) rfl))) g1 g2 g3 ?_
    refine lv_astore_n (lv' := [(2, .ref q9), (0, .ref hX), (1, .ref qo)]) hx hb dL_rewrite_11 rfl hl (by decide) rfl (fun ls hl => ?_)
    refine lv_iconst (v := 1) hx hb dL_rewrite_12 (by decide) ?_
    refine vx_ret ?_
    exact k_iret hx hb hr hlocks ⟨hK, hP, hD, hS, hA, hE, hN⟩ rfl dL_rewrite_13 (Nat.le_of_ble_eq_true rfl) (Nat.le_of_ble_eq_true rfl) (Or.inr ⟨rfl, hpe, rfl⟩)
  · skip
    refine lv_i2l (v := r.toInt64) hx hb dL_rewrite_6 rfl ?_
    refine va_last hx hb hK hP hD hS 0 2 (cA := g.2.1.2.2) (n := 1) (f := fo) rfl rfl (pk_in 0 1 (by decide)) dL_rewrite_7 (fun H locs hP hD hS => ?_)
    have hP : va_P g.1 vwCl ((qo, .inl (g.2.1.2.2, 1, .inr (.inl (vp_updL fo 0 r.toInt64)))) :: u) H := hP
    have hD : va_D A ((qo, .inl (g.2.1.2.2, 1, .inr (.inl (vp_updL fo 0 r.toInt64)))) :: u) := hD
    refine lv_goto (tgt := 14) hx hb dL_rewrite_8 (by decide) ?_
    refine lv_iconst (v := 0) hx hb dL_rewrite_14 (by decide) ?_
    refine vx_ret ?_
    exact k_iret hx hb hr hlocks ⟨hK, hP, hD, hS, hA, hE, hN⟩ rfl dL_rewrite_15 (Nat.le_of_ble_eq_true rfl) (Nat.le_of_ble_eq_true rfl) (Or.inl ⟨rfl, r, u, hw, rfl⟩)
set_option maxHeartbeats 4000000 in
set_option maxRecDepth 100000 in
theorem c_L_place (l : Launch) (g : KG) (hX qo : Nat) (p0 : Int32) (fo : Nat → Int64) (fs : List Value) (z1 z2 z3 z4 z5 z6 z7 z8 z9 z10 z11 : Nat × va_E) (post : Int32 → va_W → Prop) (PE : String → Prop) (hM : CiX l g yX5_place wsX5_place ({ frames := 6, cells := 1, slots := 6, locals := 90 }) [.ref hX, .int p0] [(hX, .inr (3, fs)), z1, z2, z3, z4, z5, z6, z7, z8, z9, z10, z11] post PE 1 6) (hPE : ∀ E, PE E → E = kIA) : CiL l g yL_place wsL_place ({ frames := 7, cells := 1, slots := 6, locals := 112 }) [.ref hX, .int p0, .ref qo] ((qo, .inl (g.2.1.2.2, 1, .inr (.inl fo))) :: [(hX, .inr (3, fs)), z1, z2, z3, z4, z5, z6, z7, z8, z9, z10, z11]) (fun k w => (k = 0 ∧ ∃ (r : Int32) (u : va_W), post r u ∧ w = (qo, .inl (g.2.1.2.2, 1, .inr (.inl (vp_updL fo 0 r.toInt64)))) :: u) ∨ (k = 1 ∧ PE kIA ∧ w = (qo, .inl (g.2.1.2.2, 1, .inr (.inl fo))) :: [(hX, .inr (3, fs)), z1, z2, z3, z4, z5, z6, z7, z8, z9, z10, z11])) 1 6 := by
  intro sz
  refine vx_ofWH (cc := cL_place) (maxL := 4) (ret := (some .int)) (by decide) rfl ?_
  intro p e s m args below meth c s₁ B hml hv
  obtain ⟨rfl, hsz, hP, hK, hD0, hE, hN⟩ := hv
  have hx := B.exec
  have hb := B.bytes
  have hr := B.returns
  have hts := atoms_spec (ws := wsL_place) B.pre
  have hown : s.vm.findClass RL = some m.cls := findClass_of_methodNamed B.named
  have hlocks := B.notSynchronized
  have htab := vx_table (x := yL_place) B (hts _ List.mem_cons_self)
  subst hsz
  have hD := hD0.self (sz := s.heap.size)
  generalize hAe : va_A ((qo, .inl (g.2.1.2.2, 1, .inr (.inl fo))) :: [(hX, .inr (3, fs)), z1, z2, z3, z4, z5, z6, z7, z8, z9, z10, z11]) s.heap.size = A at hD hE ⊢
  have hA : ∀ q : Nat, s.heap.size ≤ q → A q := fun q h => by rw [← hAe]; exact Or.inr h
  have hS : va_S A s.heap s.heap [] := va_S.rf
  have hl := lv_entry ([.ref hX, .int p0, .ref qo]) (n := 4) (Nat.le_of_ble_eq_true rfl)
  rw [lg_entry_eq]
  generalize (lg_sl ([.ref hX, .int p0, .ref qo]) ++ List.replicate (4 - (lg_sl ([.ref hX, .int p0, .ref qo])).length) Slot.unset).toArray = ls at hl ⊢
  have hl : lv_has ls 4 [(0, .ref hX), (1, .int p0), (2, .ref qo)] := hl
  refine lv_aload_n hx hb dL_place_0 rfl (lv_at hl 2 rfl) ?_
  refine lv_iconst (v := 0) hx hb dL_place_1 (by decide) ?_
  refine lv_aload_n hx hb dL_place_2 rfl (lv_at hl 0 rfl) ?_
  refine lv_iload_n hx hb dL_place_3 rfl (lv_at hl 1 rfl) ?_
  refine kiVX (As := [.int p0]) (rest := [.int 0, .ref qo]) (wc := [(hX, .inr (3, fs)), z1, z2, z3, z4, z5, z6, z7, z8, z9, z10, z11]) (wr := [(qo, .inl (g.2.1.2.2, 1, .inr (.inl fo)))]) ⟨hx, hb, hml, hown, hts⟩ hM (cwV 1 hts gL_place_X5_place rfl rfl rfl (by decide +kernel) ⟨Nat.le_of_ble_eq_true rfl, Nat.le_of_ble_eq_true rfl⟩) ⟨hK, hP, hD, hS, hA, hE, hN⟩ [1, 2, 3, 4, 5, 6, 7, 8, 9, 10, 11, 12] [0] ⟨rfl, rfl, rfl⟩ (q0 := 1) (ci := 3) rfl rfl rfl rfl hl.1 (Nat.le_of_ble_eq_true rfl) dL_place_4 ⟨Nat.le_of_ble_eq_true rfl, Nat.le_of_ble_eq_true rfl⟩ rfl (fun E ce q9 H locs hpe hP hD hS g1 g2 g3 => ?_) (fun r u H locs hw hP hD hS => ?_)
  · skip
    have hq := hPE E hpe
    subst hq
    refine vx_catch (name := kIA) hown [] ⟨0, 9, 12, 13⟩ [] (by rw [htab]; rfl) (fun z hz => absurd hz List.not_mem_nil) (by decide) (by decide) (hts (.classLink RL 13 kIA) (by decide +kernel)) (va_Nw.use rfl (hN.2.2.2.1 kIA (List.mem_of_getElem? (i := 0) rfl))) g1 g2 g3 ?_
    refine lv_astore_n (lv' := [(3, .ref q9), (0, .ref hX), (1, .int p0), (2, .ref qo)]) hx hb dL_place_12 rfl hl (by decide) rfl (fun ls hl => ?_)
    refine lv_iconst (v := 1) hx hb dL_place_13 (by decide) ?_
    refine vx_ret ?_
    exact k_iret hx hb hr hlocks ⟨hK, hP, hD, hS, hA, hE, hN⟩ rfl dL_place_14 (Nat.le_of_ble_eq_true rfl) (Nat.le_of_ble_eq_true rfl) (Or.inr ⟨rfl, hpe, rfl⟩)
  · skip
    refine lv_i2l (v := r.toInt64) hx hb dL_place_7 rfl ?_
    refine va_last hx hb hK hP hD hS 0 2 (cA := g.2.1.2.2) (n := 1) (f := fo) rfl rfl (pk_in 0 1 (by decide)) dL_place_8 (fun H locs hP hD hS => ?_)
    have hP : va_P g.1 vwCl ((qo, .inl (g.2.1.2.2, 1, .inr (.inl (vp_updL fo 0 r.toInt64)))) :: u) H := hP
    have hD : va_D A ((qo, .inl (g.2.1.2.2, 1, .inr (.inl (vp_updL fo 0 r.toInt64)))) :: u) := hD
    refine lv_goto (tgt := 15) hx hb dL_place_9 (by decide) ?_
    refine lv_iconst (v := 0) hx hb dL_place_15 (by decide) ?_
    refine vx_ret ?_
    exact k_iret hx hb hr hlocks ⟨hK, hP, hD, hS, hA, hE, hN⟩ rfl dL_place_16 (Nat.le_of_ble_eq_true rfl) (Nat.le_of_ble_eq_true rfl) (Or.inl ⟨rfl, r, u, hw, rfl⟩)
set_option maxHeartbeats 4000000 in
set_option maxRecDepth 100000 in
theorem c_L_bundles (l : Launch) (g : KG) (hX : Nat) (p0 : Int32) (fs : List Value) (z1 z2 z3 z4 z5 z6 z7 z8 z9 z10 z11 : Nat × va_E) (post : va_W → Prop) (PE : String → Prop) (hM : CvX l g yX5_bundles wsX5_bundles ({ frames := 6, cells := 1, slots := 6, locals := 90 }) [.ref hX, .int p0] [(hX, .inr (3, fs)), z1, z2, z3, z4, z5, z6, z7, z8, z9, z10, z11] post PE 1 6) (hPE : ∀ E, PE E → E = kIA) : CiL l g yL_bundles wsL_bundles ({ frames := 7, cells := 1, slots := 6, locals := 111 }) [.ref hX, .int p0] ([(hX, .inr (3, fs)), z1, z2, z3, z4, z5, z6, z7, z8, z9, z10, z11]) (fun k w => (k = 0 ∧ post w) ∨ (k = 1 ∧ PE kIA ∧ w = [(hX, .inr (3, fs)), z1, z2, z3, z4, z5, z6, z7, z8, z9, z10, z11])) 1 6 := by
  intro sz
  refine vx_ofWH (cc := cL_bundles) (maxL := 3) (ret := (some .int)) (by decide) rfl ?_
  intro p e s m args below meth c s₁ B hml hv
  obtain ⟨rfl, hsz, hP, hK, hD0, hE, hN⟩ := hv
  have hx := B.exec
  have hb := B.bytes
  have hr := B.returns
  have hts := atoms_spec (ws := wsL_bundles) B.pre
  have hown : s.vm.findClass RL = some m.cls := findClass_of_methodNamed B.named
  have hlocks := B.notSynchronized
  have htab := vx_table (x := yL_bundles) B (hts _ List.mem_cons_self)
  subst hsz
  have hD := hD0.self (sz := s.heap.size)
  generalize hAe : va_A ([(hX, .inr (3, fs)), z1, z2, z3, z4, z5, z6, z7, z8, z9, z10, z11]) s.heap.size = A at hD hE ⊢
  have hA : ∀ q : Nat, s.heap.size ≤ q → A q := fun q h => by rw [← hAe]; exact Or.inr h
  have hS : va_S A s.heap s.heap [] := va_S.rf
  have hl := lv_entry ([.ref hX, .int p0]) (n := 3) (Nat.le_of_ble_eq_true rfl)
  rw [lg_entry_eq]
  generalize (lg_sl ([.ref hX, .int p0]) ++ List.replicate (3 - (lg_sl ([.ref hX, .int p0])).length) Slot.unset).toArray = ls at hl ⊢
  have hl : lv_has ls 3 [(0, .ref hX), (1, .int p0)] := hl
  refine lv_aload_n hx hb dL_bundles_0 rfl (lv_at hl 0 rfl) ?_
  refine lv_iload_n hx hb dL_bundles_1 rfl (lv_at hl 1 rfl) ?_
  refine kvVX (As := [.int p0]) (rest := []) (wc := [(hX, .inr (3, fs)), z1, z2, z3, z4, z5, z6, z7, z8, z9, z10, z11]) (wr := []) ⟨hx, hb, hml, hown, hts⟩ hM (cwV 1 hts gL_bundles_X5_bundles rfl rfl rfl (by decide +kernel) ⟨Nat.le_of_ble_eq_true rfl, Nat.le_of_ble_eq_true rfl⟩) ⟨hK, hP, hD, hS, hA, hE, hN⟩ [0, 1, 2, 3, 4, 5, 6, 7, 8, 9, 10, 11] [] ⟨rfl, rfl, rfl⟩ (q0 := 0) (ci := 3) rfl rfl rfl rfl hl.1 (Nat.le_of_ble_eq_true rfl) dL_bundles_2 ⟨Nat.le_of_ble_eq_true rfl, Nat.le_of_ble_eq_true rfl⟩ rfl (fun E ce q9 H locs hpe hP hD hS g1 g2 g3 => ?_) (fun u H locs hw hP hD hS => ?_)
  · skip
    have hq := hPE E hpe
    subst hq
    refine vx_catch (name := kIA) hown [] ⟨0, 5, 8, 13⟩ [] (by rw [htab]; rfl) (fun z hz => absurd hz List.not_mem_nil) (by decide) (by decide) (hts (.classLink RL 13 kIA) (by decide +kernel)) (va_Nw.use rfl (hN.2.2.2.1 kIA (List.mem_of_getElem? (i := 0) rfl))) g1 g2 g3 ?_
    refine lv_astore_n (lv' := [(2, .ref q9), (0, .ref hX), (1, .int p0)]) hx hb dL_bundles_8 rfl hl (by decide) rfl (fun ls hl => ?_)
    refine lv_iconst (v := 1) hx hb dL_bundles_9 (by decide) ?_
    refine vx_ret ?_
    exact k_iret hx hb hr hlocks ⟨hK, hP, hD, hS, hA, hE, hN⟩ rfl dL_bundles_10 (Nat.le_of_ble_eq_true rfl) (Nat.le_of_ble_eq_true rfl) (Or.inr ⟨rfl, hpe, rfl⟩)
  · skip
    have hP : va_P g.1 vwCl u H := hP
    have hD : va_D A u := hD
    refine lv_goto (tgt := 11) hx hb dL_bundles_5 (by decide) ?_
    refine lv_iconst (v := 0) hx hb dL_bundles_11 (by decide) ?_
    refine vx_ret ?_
    exact k_iret hx hb hr hlocks ⟨hK, hP, hD, hS, hA, hE, hN⟩ rfl dL_bundles_12 (Nat.le_of_ble_eq_true rfl) (Nat.le_of_ble_eq_true rfl) (Or.inl ⟨rfl, hw⟩)
set_option maxHeartbeats 4000000 in
set_option maxRecDepth 100000 in
theorem c_L_byteAt (l : Launch) (g : KG) (hX qo : Nat) (p0 : Int32) (fo : Nat → Int64) (fs : List Value) (z1 z2 z3 z4 z5 z6 z7 z8 z9 z10 z11 : Nat × va_E) (post : Int32 → va_W → Prop) (PE : String → Prop) (hM : CiX l g yX5_byteAt wsX5_byteAt ({ frames := 6, cells := 1, slots := 6, locals := 90 }) [.ref hX, .int p0] [(hX, .inr (3, fs)), z1, z2, z3, z4, z5, z6, z7, z8, z9, z10, z11] post PE 1 6) (hPE : ∀ E, PE E → E = kIA) : CiL l g yL_byteAt wsL_byteAt ({ frames := 7, cells := 1, slots := 6, locals := 111 }) [.ref hX, .int p0, .ref qo] ((qo, .inl (g.2.1.2.2, 1, .inr (.inl fo))) :: [(hX, .inr (3, fs)), z1, z2, z3, z4, z5, z6, z7, z8, z9, z10, z11]) (fun k w => (k = 0 ∧ ∃ (r : Int32) (u : va_W), post r u ∧ w = (qo, .inl (g.2.1.2.2, 1, .inr (.inl (vp_updL fo 0 r.toInt64)))) :: u) ∨ (k = 1 ∧ PE kIA ∧ w = (qo, .inl (g.2.1.2.2, 1, .inr (.inl fo))) :: [(hX, .inr (3, fs)), z1, z2, z3, z4, z5, z6, z7, z8, z9, z10, z11])) 1 6 := by
  intro sz
  refine vx_ofWH (cc := cL_byteAt) (maxL := 4) (ret := (some .int)) (by decide) rfl ?_
  intro p e s m args below meth c s₁ B hml hv
  obtain ⟨rfl, hsz, hP, hK, hD0, hE, hN⟩ := hv
  have hx := B.exec
  have hb := B.bytes
  have hr := B.returns
  have hts := atoms_spec (ws := wsL_byteAt) B.pre
  have hown : s.vm.findClass RL = some m.cls := findClass_of_methodNamed B.named
  have hlocks := B.notSynchronized
  have htab := vx_table (x := yL_byteAt) B (hts _ List.mem_cons_self)
  subst hsz
  have hD := hD0.self (sz := s.heap.size)
  generalize hAe : va_A ((qo, .inl (g.2.1.2.2, 1, .inr (.inl fo))) :: [(hX, .inr (3, fs)), z1, z2, z3, z4, z5, z6, z7, z8, z9, z10, z11]) s.heap.size = A at hD hE ⊢
  have hA : ∀ q : Nat, s.heap.size ≤ q → A q := fun q h => by rw [← hAe]; exact Or.inr h
  have hS : va_S A s.heap s.heap [] := va_S.rf
  have hl := lv_entry ([.ref hX, .int p0, .ref qo]) (n := 4) (Nat.le_of_ble_eq_true rfl)
  rw [lg_entry_eq]
  generalize (lg_sl ([.ref hX, .int p0, .ref qo]) ++ List.replicate (4 - (lg_sl ([.ref hX, .int p0, .ref qo])).length) Slot.unset).toArray = ls at hl ⊢
  have hl : lv_has ls 4 [(0, .ref hX), (1, .int p0), (2, .ref qo)] := hl
  refine lv_aload_n hx hb dL_byteAt_0 rfl (lv_at hl 2 rfl) ?_
  refine lv_iconst (v := 0) hx hb dL_byteAt_1 (by decide) ?_
  refine lv_aload_n hx hb dL_byteAt_2 rfl (lv_at hl 0 rfl) ?_
  refine lv_iload_n hx hb dL_byteAt_3 rfl (lv_at hl 1 rfl) ?_
  refine kiVX (As := [.int p0]) (rest := [.int 0, .ref qo]) (wc := [(hX, .inr (3, fs)), z1, z2, z3, z4, z5, z6, z7, z8, z9, z10, z11]) (wr := [(qo, .inl (g.2.1.2.2, 1, .inr (.inl fo)))]) ⟨hx, hb, hml, hown, hts⟩ hM (cwV 1 hts gL_byteAt_X5_byteAt rfl rfl rfl (by decide +kernel) ⟨Nat.le_of_ble_eq_true rfl, Nat.le_of_ble_eq_true rfl⟩) ⟨hK, hP, hD, hS, hA, hE, hN⟩ [1, 2, 3, 4, 5, 6, 7, 8, 9, 10, 11, 12] [0] ⟨rfl, rfl, rfl⟩ (q0 := 1) (ci := 3) rfl rfl rfl rfl hl.1 (Nat.le_of_ble_eq_true rfl) dL_byteAt_4 ⟨Nat.le_of_ble_eq_true rfl, Nat.le_of_ble_eq_true rfl⟩ rfl (fun E ce q9 H locs hpe hP hD hS g1 g2 g3 => ?_) (fun r u H locs hw hP hD hS => ?_)
  · skip
    have hq := hPE E hpe
    subst hq
    refine vx_catch (name := kIA) hown [] ⟨0, 9, 12, 13⟩ [] (by rw [htab]; rfl) (fun z hz => absurd hz List.not_mem_nil) (by decide) (by decide) (hts (.classLink RL 13 kIA) (by decide +kernel)) (va_Nw.use rfl (hN.2.2.2.1 kIA (List.mem_of_getElem? (i := 0) rfl))) g1 g2 g3 ?_
    refine lv_astore_n (lv' := [(3, .ref q9), (0, .ref hX), (1, .int p0), (2, .ref qo)]) hx hb dL_byteAt_12 rfl hl (by decide) rfl (fun ls hl => ?_)
    refine lv_iconst (v := 1) hx hb dL_byteAt_13 (by decide) ?_
    refine vx_ret ?_
    exact k_iret hx hb hr hlocks ⟨hK, hP, hD, hS, hA, hE, hN⟩ rfl dL_byteAt_14 (Nat.le_of_ble_eq_true rfl) (Nat.le_of_ble_eq_true rfl) (Or.inr ⟨rfl, hpe, rfl⟩)
  · skip
    refine lv_i2l (v := r.toInt64) hx hb dL_byteAt_7 rfl ?_
    refine va_last hx hb hK hP hD hS 0 2 (cA := g.2.1.2.2) (n := 1) (f := fo) rfl rfl (pk_in 0 1 (by decide)) dL_byteAt_8 (fun H locs hP hD hS => ?_)
    have hP : va_P g.1 vwCl ((qo, .inl (g.2.1.2.2, 1, .inr (.inl (vp_updL fo 0 r.toInt64)))) :: u) H := hP
    have hD : va_D A ((qo, .inl (g.2.1.2.2, 1, .inr (.inl (vp_updL fo 0 r.toInt64)))) :: u) := hD
    refine lv_goto (tgt := 15) hx hb dL_byteAt_9 (by decide) ?_
    refine lv_iconst (v := 0) hx hb dL_byteAt_15 (by decide) ?_
    refine vx_ret ?_
    exact k_iret hx hb hr hlocks ⟨hK, hP, hD, hS, hA, hE, hN⟩ rfl dL_byteAt_16 (Nat.le_of_ble_eq_true rfl) (Nat.le_of_ble_eq_true rfl) (Or.inl ⟨rfl, r, u, hw, rfl⟩)
set_option maxHeartbeats 4000000 in
set_option maxRecDepth 100000 in
theorem c_L_poke (l : Launch) (g : KG) (hX qo : Nat) (p0 p1 : Int32) (fo : Nat → Int64) (fs : List Value) (z1 z2 z3 z4 z5 z6 z7 z8 z9 z10 z11 : Nat × va_E) (post : Int32 → va_W → Prop) (PE : String → Prop) (hM : CiX l g yX5_poke wsX5_poke ({ frames := 6, cells := 1, slots := 6, locals := 90 }) [.ref hX, .int p0, .int p1] [(hX, .inr (3, fs)), z1, z2, z3, z4, z5, z6, z7, z8, z9, z10, z11] post PE 1 6) (hPE : ∀ E, PE E → E = kIA) : CiL l g yL_poke wsL_poke ({ frames := 7, cells := 1, slots := 6, locals := 113 }) [.ref hX, .int p0, .int p1, .ref qo] ((qo, .inl (g.2.1.2.2, 1, .inr (.inl fo))) :: [(hX, .inr (3, fs)), z1, z2, z3, z4, z5, z6, z7, z8, z9, z10, z11]) (fun k w => (k = 0 ∧ ∃ (r : Int32) (u : va_W), post r u ∧ w = (qo, .inl (g.2.1.2.2, 1, .inr (.inl (vp_updL fo 0 r.toInt64)))) :: u) ∨ (k = 1 ∧ PE kIA ∧ w = (qo, .inl (g.2.1.2.2, 1, .inr (.inl fo))) :: [(hX, .inr (3, fs)), z1, z2, z3, z4, z5, z6, z7, z8, z9, z10, z11])) 1 6 := by
  intro sz
  refine vx_ofWH (cc := cL_poke) (maxL := 5) (ret := (some .int)) (by decide) rfl ?_
  intro p e s m args below meth c s₁ B hml hv
  obtain ⟨rfl, hsz, hP, hK, hD0, hE, hN⟩ := hv
  have hx := B.exec
  have hb := B.bytes
  have hr := B.returns
  have hts := atoms_spec (ws := wsL_poke) B.pre
  have hown : s.vm.findClass RL = some m.cls := findClass_of_methodNamed B.named
  have hlocks := B.notSynchronized
  have htab := vx_table (x := yL_poke) B (hts _ List.mem_cons_self)
  subst hsz
  have hD := hD0.self (sz := s.heap.size)
  generalize hAe : va_A ((qo, .inl (g.2.1.2.2, 1, .inr (.inl fo))) :: [(hX, .inr (3, fs)), z1, z2, z3, z4, z5, z6, z7, z8, z9, z10, z11]) s.heap.size = A at hD hE ⊢
  have hA : ∀ q : Nat, s.heap.size ≤ q → A q := fun q h => by rw [← hAe]; exact Or.inr h
  have hS : va_S A s.heap s.heap [] := va_S.rf
  have hl := lv_entry ([.ref hX, .int p0, .int p1, .ref qo]) (n := 5) (Nat.le_of_ble_eq_true rfl)
  rw [lg_entry_eq]
  generalize (lg_sl ([.ref hX, .int p0, .int p1, .ref qo]) ++ List.replicate (5 - (lg_sl ([.ref hX, .int p0, .int p1, .ref qo])).length) Slot.unset).toArray = ls at hl ⊢
  have hl : lv_has ls 5 [(0, .ref hX), (1, .int p0), (2, .int p1), (3, .ref qo)] := hl
  refine lv_aload_n hx hb dL_poke_0 rfl (lv_at hl 3 rfl) ?_
  refine lv_iconst (v := 0) hx hb dL_poke_1 (by decide) ?_
  refine lv_aload_n hx hb dL_poke_2 rfl (lv_at hl 0 rfl) ?_
  refine lv_iload_n hx hb dL_poke_3 rfl (lv_at hl 1 rfl) ?_
  refine lv_iload_n hx hb dL_poke_4 rfl (lv_at hl 2 rfl) ?_
  refine kiVX (As := [.int p0, .int p1]) (rest := [.int 0, .ref qo]) (wc := [(hX, .inr (3, fs)), z1, z2, z3, z4, z5, z6, z7, z8, z9, z10, z11]) (wr := [(qo, .inl (g.2.1.2.2, 1, .inr (.inl fo)))]) ⟨hx, hb, hml, hown, hts⟩ hM (cwV 2 hts gL_poke_X5_poke rfl rfl rfl (by decide +kernel) ⟨Nat.le_of_ble_eq_true rfl, Nat.le_of_ble_eq_true rfl⟩) ⟨hK, hP, hD, hS, hA, hE, hN⟩ [1, 2, 3, 4, 5, 6, 7, 8, 9, 10, 11, 12] [0] ⟨rfl, rfl, rfl⟩ (q0 := 1) (ci := 3) rfl rfl rfl rfl hl.1 (Nat.le_of_ble_eq_true rfl) dL_poke_5 ⟨Nat.le_of_ble_eq_true rfl, Nat.le_of_ble_eq_true rfl⟩ rfl (fun E ce q9 H locs hpe hP hD hS g1 g2 g3 => ?_) (fun r u H locs hw hP hD hS => ?_)
  · skip
    have hq := hPE E hpe
    subst hq
    refine vx_catch (name := kIA) hown [] ⟨0, 10, 13, 13⟩ [] (by rw [htab]; rfl) (fun z hz => absurd hz List.not_mem_nil) (by decide) (by decide) (hts (.classLink RL 13 kIA) (by decide +kernel)) (va_Nw.use rfl (hN.2.2.2.1 kIA (List.mem_of_getElem? (i := 0) rfl))) g1 g2 g3 ?_
    refine lv_astore (lv' := [(4, .ref q9), (0, .ref hX), (1, .int p0), (2, .int p1), (3, .ref qo)]) hx hb dL_poke_13 hl (by decide) rfl (fun ls hl => ?_)
    refine lv_iconst (v := 1) hx hb dL_poke_15 (by decide) ?_
    refine vx_ret ?_
    exact k_iret hx hb hr hlocks ⟨hK, hP, hD, hS, hA, hE, hN⟩ rfl dL_poke_16 (Nat.le_of_ble_eq_true rfl) (Nat.le_of_ble_eq_true rfl) (Or.inr ⟨rfl, hpe, rfl⟩)
  · skip
    refine lv_i2l (v := r.toInt64) hx hb dL_poke_8 rfl ?_
    refine va_last hx hb hK hP hD hS 0 2 (cA := g.2.1.2.2) (n := 1) (f := fo) rfl rfl (pk_in 0 1 (by decide)) dL_poke_9 (fun H locs hP hD hS => ?_)
    have hP : va_P g.1 vwCl ((qo, .inl (g.2.1.2.2, 1, .inr (.inl (vp_updL fo 0 r.toInt64)))) :: u) H := hP
    have hD : va_D A ((qo, .inl (g.2.1.2.2, 1, .inr (.inl (vp_updL fo 0 r.toInt64)))) :: u) := hD
    refine lv_goto (tgt := 17) hx hb dL_poke_10 (by decide) ?_
    refine lv_iconst (v := 0) hx hb dL_poke_17 (by decide) ?_
    refine vx_ret ?_
    exact k_iret hx hb hr hlocks ⟨hK, hP, hD, hS, hA, hE, hN⟩ rfl dL_poke_18 (Nat.le_of_ble_eq_true rfl) (Nat.le_of_ble_eq_true rfl) (Or.inl ⟨rfl, r, u, hw, rfl⟩)
set_option maxHeartbeats 4000000 in
set_option maxRecDepth 100000 in
theorem c_L_register (l : Launch) (g : KG) (hX qo : Nat) (p0 p1 : Int32) (fo : Nat → Int64) (fs : List Value) (z1 z2 z3 z4 z5 z6 z7 z8 z9 z10 z11 : Nat × va_E) (post : Int32 → va_W → Prop) (PE : String → Prop) (hM : CiX l g yX5_register wsX5_register ({ frames := 6, cells := 1, slots := 6, locals := 90 }) [.ref hX, .int p0, .int p1] [(hX, .inr (3, fs)), z1, z2, z3, z4, z5, z6, z7, z8, z9, z10, z11] post PE 1 6) (hPE : ∀ E, PE E → E = kIA) : CiL l g yL_register wsL_register ({ frames := 7, cells := 1, slots := 6, locals := 113 }) [.ref hX, .int p0, .int p1, .ref qo] ((qo, .inl (g.2.1.2.2, 1, .inr (.inl fo))) :: [(hX, .inr (3, fs)), z1, z2, z3, z4, z5, z6, z7, z8, z9, z10, z11]) (fun k w => (k = 0 ∧ ∃ (r : Int32) (u : va_W), post r u ∧ w = (qo, .inl (g.2.1.2.2, 1, .inr (.inl (vp_updL fo 0 r.toInt64)))) :: u) ∨ (k = 1 ∧ PE kIA ∧ w = (qo, .inl (g.2.1.2.2, 1, .inr (.inl fo))) :: [(hX, .inr (3, fs)), z1, z2, z3, z4, z5, z6, z7, z8, z9, z10, z11])) 1 6 := by
  intro sz
  refine vx_ofWH (cc := cL_register) (maxL := 5) (ret := (some .int)) (by decide) rfl ?_
  intro p e s m args below meth c s₁ B hml hv
  obtain ⟨rfl, hsz, hP, hK, hD0, hE, hN⟩ := hv
  have hx := B.exec
  have hb := B.bytes
  have hr := B.returns
  have hts := atoms_spec (ws := wsL_register) B.pre
  have hown : s.vm.findClass RL = some m.cls := findClass_of_methodNamed B.named
  have hlocks := B.notSynchronized
  have htab := vx_table (x := yL_register) B (hts _ List.mem_cons_self)
  subst hsz
  have hD := hD0.self (sz := s.heap.size)
  generalize hAe : va_A ((qo, .inl (g.2.1.2.2, 1, .inr (.inl fo))) :: [(hX, .inr (3, fs)), z1, z2, z3, z4, z5, z6, z7, z8, z9, z10, z11]) s.heap.size = A at hD hE ⊢
  have hA : ∀ q : Nat, s.heap.size ≤ q → A q := fun q h => by rw [← hAe]; exact Or.inr h
  have hS : va_S A s.heap s.heap [] := va_S.rf
  have hl := lv_entry ([.ref hX, .int p0, .int p1, .ref qo]) (n := 5) (Nat.le_of_ble_eq_true rfl)
  rw [lg_entry_eq]
  generalize (lg_sl ([.ref hX, .int p0, .int p1, .ref qo]) ++ List.replicate (5 - (lg_sl ([.ref hX, .int p0, .int p1, .ref qo])).length) Slot.unset).toArray = ls at hl ⊢
  have hl : lv_has ls 5 [(0, .ref hX), (1, .int p0), (2, .int p1), (3, .ref qo)] := hl
  refine lv_aload_n hx hb dL_register_0 rfl (lv_at hl 3 rfl) ?_
  refine lv_iconst (v := 0) hx hb dL_register_1 (by decide) ?_
  refine lv_aload_n hx hb dL_register_2 rfl (lv_at hl 0 rfl) ?_
  refine lv_iload_n hx hb dL_register_3 rfl (lv_at hl 1 rfl) ?_
  refine lv_iload_n hx hb dL_register_4 rfl (lv_at hl 2 rfl) ?_
  refine kiVX (As := [.int p0, .int p1]) (rest := [.int 0, .ref qo]) (wc := [(hX, .inr (3, fs)), z1, z2, z3, z4, z5, z6, z7, z8, z9, z10, z11]) (wr := [(qo, .inl (g.2.1.2.2, 1, .inr (.inl fo)))]) ⟨hx, hb, hml, hown, hts⟩ hM (cwV 2 hts gL_register_X5_register rfl rfl rfl (by decide +kernel) ⟨Nat.le_of_ble_eq_true rfl, Nat.le_of_ble_eq_true rfl⟩) ⟨hK, hP, hD, hS, hA, hE, hN⟩ [1, 2, 3, 4, 5, 6, 7, 8, 9, 10, 11, 12] [0] ⟨rfl, rfl, rfl⟩ (q0 := 1) (ci := 3) rfl rfl rfl rfl hl.1 (Nat.le_of_ble_eq_true rfl) dL_register_5 ⟨Nat.le_of_ble_eq_true rfl, Nat.le_of_ble_eq_true rfl⟩ rfl (fun E ce q9 H locs hpe hP hD hS g1 g2 g3 => ?_) (fun r u H locs hw hP hD hS => ?_)
  · skip
    have hq := hPE E hpe
    subst hq
    refine vx_catch (name := kIA) hown [] ⟨0, 10, 13, 13⟩ [] (by rw [htab]; rfl) (fun z hz => absurd hz List.not_mem_nil) (by decide) (by decide) (hts (.classLink RL 13 kIA) (by decide +kernel)) (va_Nw.use rfl (hN.2.2.2.1 kIA (List.mem_of_getElem? (i := 0) rfl))) g1 g2 g3 ?_
    refine lv_astore (lv' := [(4, .ref q9), (0, .ref hX), (1, .int p0), (2, .int p1), (3, .ref qo)]) hx hb dL_register_13 hl (by decide) rfl (fun ls hl => ?_)
    refine lv_iconst (v := 1) hx hb dL_register_15 (by decide) ?_
    refine vx_ret ?_
    exact k_iret hx hb hr hlocks ⟨hK, hP, hD, hS, hA, hE, hN⟩ rfl dL_register_16 (Nat.le_of_ble_eq_true rfl) (Nat.le_of_ble_eq_true rfl) (Or.inr ⟨rfl, hpe, rfl⟩)
  · skip
    refine lv_i2l (v := r.toInt64) hx hb dL_register_8 rfl ?_
    refine va_last hx hb hK hP hD hS 0 2 (cA := g.2.1.2.2) (n := 1) (f := fo) rfl rfl (pk_in 0 1 (by decide)) dL_register_9 (fun H locs hP hD hS => ?_)
    have hP : va_P g.1 vwCl ((qo, .inl (g.2.1.2.2, 1, .inr (.inl (vp_updL fo 0 r.toInt64)))) :: u) H := hP
    have hD : va_D A ((qo, .inl (g.2.1.2.2, 1, .inr (.inl (vp_updL fo 0 r.toInt64)))) :: u) := hD
    refine lv_goto (tgt := 17) hx hb dL_register_10 (by decide) ?_
    refine lv_iconst (v := 0) hx hb dL_register_17 (by decide) ?_
    refine vx_ret ?_
    exact k_iret hx hb hr hlocks ⟨hK, hP, hD, hS, hA, hE, hN⟩ rfl dL_register_18 (Nat.le_of_ble_eq_true rfl) (Nat.le_of_ble_eq_true rfl) (Or.inl ⟨rfl, r, u, hw, rfl⟩)
set_option maxHeartbeats 4000000 in
set_option maxRecDepth 100000 in
theorem c_L_memory (l : Launch) (g : KG) (hX qo : Nat) (p0 p1 : Int32) (fo : Nat → Int64) (fs : List Value) (z1 z2 z3 z4 z5 z6 z7 z8 z9 z10 z11 : Nat × va_E) (post : Int32 → va_W → Prop) (PE : String → Prop) (hM : CiX l g yX5_memory wsX5_memory ({ frames := 6, cells := 1, slots := 6, locals := 90 }) [.ref hX, .int p0, .int p1] [(hX, .inr (3, fs)), z1, z2, z3, z4, z5, z6, z7, z8, z9, z10, z11] post PE 1 6) (hPE : ∀ E, PE E → E = kIA) : CiL l g yL_memory wsL_memory ({ frames := 7, cells := 1, slots := 6, locals := 113 }) [.ref hX, .int p0, .int p1, .ref qo] ((qo, .inl (g.2.1.2.2, 1, .inr (.inl fo))) :: [(hX, .inr (3, fs)), z1, z2, z3, z4, z5, z6, z7, z8, z9, z10, z11]) (fun k w => (k = 0 ∧ ∃ (r : Int32) (u : va_W), post r u ∧ w = (qo, .inl (g.2.1.2.2, 1, .inr (.inl (vp_updL fo 0 r.toInt64)))) :: u) ∨ (k = 1 ∧ PE kIA ∧ w = (qo, .inl (g.2.1.2.2, 1, .inr (.inl fo))) :: [(hX, .inr (3, fs)), z1, z2, z3, z4, z5, z6, z7, z8, z9, z10, z11])) 1 6 := by
  intro sz
  refine vx_ofWH (cc := cL_memory) (maxL := 5) (ret := (some .int)) (by decide) rfl ?_
  intro p e s m args below meth c s₁ B hml hv
  obtain ⟨rfl, hsz, hP, hK, hD0, hE, hN⟩ := hv
  have hx := B.exec
  have hb := B.bytes
  have hr := B.returns
  have hts := atoms_spec (ws := wsL_memory) B.pre
  have hown : s.vm.findClass RL = some m.cls := findClass_of_methodNamed B.named
  have hlocks := B.notSynchronized
  have htab := vx_table (x := yL_memory) B (hts _ List.mem_cons_self)
  subst hsz
  have hD := hD0.self (sz := s.heap.size)
  generalize hAe : va_A ((qo, .inl (g.2.1.2.2, 1, .inr (.inl fo))) :: [(hX, .inr (3, fs)), z1, z2, z3, z4, z5, z6, z7, z8, z9, z10, z11]) s.heap.size = A at hD hE ⊢
  have hA : ∀ q : Nat, s.heap.size ≤ q → A q := fun q h => by rw [← hAe]; exact Or.inr h
  have hS : va_S A s.heap s.heap [] := va_S.rf
  have hl := lv_entry ([.ref hX, .int p0, .int p1, .ref qo]) (n := 5) (Nat.le_of_ble_eq_true rfl)
  rw [lg_entry_eq]
  generalize (lg_sl ([.ref hX, .int p0, .int p1, .ref qo]) ++ List.replicate (5 - (lg_sl ([.ref hX, .int p0, .int p1, .ref qo])).length) Slot.unset).toArray = ls at hl ⊢
  have hl : lv_has ls 5 [(0, .ref hX), (1, .int p0), (2, .int p1), (3, .ref qo)] := hl
  refine lv_aload_n hx hb dL_memory_0 rfl (lv_at hl 3 rfl) ?_
  refine lv_iconst (v := 0) hx hb dL_memory_1 (by decide) ?_
  refine lv_aload_n hx hb dL_memory_2 rfl (lv_at hl 0 rfl) ?_
  refine lv_iload_n hx hb dL_memory_3 rfl (lv_at hl 1 rfl) ?_
  refine lv_iload_n hx hb dL_memory_4 rfl (lv_at hl 2 rfl) ?_
  refine kiVX (As := [.int p0, .int p1]) (rest := [.int 0, .ref qo]) (wc := [(hX, .inr (3, fs)), z1, z2, z3, z4, z5, z6, z7, z8, z9, z10, z11]) (wr := [(qo, .inl (g.2.1.2.2, 1, .inr (.inl fo)))]) ⟨hx, hb, hml, hown, hts⟩ hM (cwV 2 hts gL_memory_X5_memory rfl rfl rfl (by decide +kernel) ⟨Nat.le_of_ble_eq_true rfl, Nat.le_of_ble_eq_true rfl⟩) ⟨hK, hP, hD, hS, hA, hE, hN⟩ [1, 2, 3, 4, 5, 6, 7, 8, 9, 10, 11, 12] [0] ⟨rfl, rfl, rfl⟩ (q0 := 1) (ci := 3) rfl rfl rfl rfl hl.1 (Nat.le_of_ble_eq_true rfl) dL_memory_5 ⟨Nat.le_of_ble_eq_true rfl, Nat.le_of_ble_eq_true rfl⟩ rfl (fun E ce q9 H locs hpe hP hD hS g1 g2 g3 => ?_) (fun r u H locs hw hP hD hS => ?_)
  · skip
    have hq := hPE E hpe
    subst hq
    refine vx_catch (name := kIA) hown [] ⟨0, 10, 13, 13⟩ [] (by rw [htab]; rfl) (fun z hz => absurd hz List.not_mem_nil) (by decide) (by decide) (hts (.classLink RL 13 kIA) (by decide +kernel)) (va_Nw.use rfl (hN.2.2.2.1 kIA (List.mem_of_getElem? (i := 0) rfl))) g1 g2 g3 ?_
    refine lv_astore (lv' := [(4, .ref q9), (0, .ref hX), (1, .int p0), (2, .int p1), (3, .ref qo)]) hx hb dL_memory_13 hl (by decide) rfl (fun ls hl => ?_)
    refine lv_iconst (v := 1) hx hb dL_memory_15 (by decide) ?_
    refine vx_ret ?_
    exact k_iret hx hb hr hlocks ⟨hK, hP, hD, hS, hA, hE, hN⟩ rfl dL_memory_16 (Nat.le_of_ble_eq_true rfl) (Nat.le_of_ble_eq_true rfl) (Or.inr ⟨rfl, hpe, rfl⟩)
  · skip
    refine lv_i2l (v := r.toInt64) hx hb dL_memory_8 rfl ?_
    refine va_last hx hb hK hP hD hS 0 2 (cA := g.2.1.2.2) (n := 1) (f := fo) rfl rfl (pk_in 0 1 (by decide)) dL_memory_9 (fun H locs hP hD hS => ?_)
    have hP : va_P g.1 vwCl ((qo, .inl (g.2.1.2.2, 1, .inr (.inl (vp_updL fo 0 r.toInt64)))) :: u) H := hP
    have hD : va_D A ((qo, .inl (g.2.1.2.2, 1, .inr (.inl (vp_updL fo 0 r.toInt64)))) :: u) := hD
    refine lv_goto (tgt := 17) hx hb dL_memory_10 (by decide) ?_
    refine lv_iconst (v := 0) hx hb dL_memory_17 (by decide) ?_
    refine vx_ret ?_
    exact k_iret hx hb hr hlocks ⟨hK, hP, hD, hS, hA, hE, hN⟩ rfl dL_memory_18 (Nat.le_of_ble_eq_true rfl) (Nat.le_of_ble_eq_true rfl) (Or.inl ⟨rfl, r, u, hw, rfl⟩)
set_option maxHeartbeats 4000000 in
set_option maxRecDepth 100000 in
theorem c_L_run (l : Launch) (g : KG) (hX qo : Nat) (p0 p1 p2 : Int32) (fo : Nat → Int64) (fs : List Value) (z1 z2 z3 z4 z5 z6 z7 z8 z9 z10 z11 : Nat × va_E) (post : Int32 → va_W → Prop) (PE : String → Prop) (hM : CiX l g yX5_run wsX5_run ({ frames := 6, cells := 1, slots := 6, locals := 116 }) [.ref hX, .int p0, .int p1, .int p2] [(hX, .inr (3, fs)), z1, z2, z3, z4, z5, z6, z7, z8, z9, z10, z11] post PE 1 6) (hPE : ∀ E, PE E → E = kIA) : CiL l g yL_run wsL_run ({ frames := 7, cells := 1, slots := 6, locals := 139 }) [.ref hX, .int p0, .int p1, .int p2, .ref qo] ((qo, .inl (g.2.1.2.2, 1, .inr (.inl fo))) :: [(hX, .inr (3, fs)), z1, z2, z3, z4, z5, z6, z7, z8, z9, z10, z11]) (fun k w => (k = 0 ∧ ∃ (r : Int32) (u : va_W), post r u ∧ w = (qo, .inl (g.2.1.2.2, 1, .inr (.inl (vp_updL fo 0 r.toInt64)))) :: u) ∨ (k = 1 ∧ PE kIA ∧ w = (qo, .inl (g.2.1.2.2, 1, .inr (.inl fo))) :: [(hX, .inr (3, fs)), z1, z2, z3, z4, z5, z6, z7, z8, z9, z10, z11])) 1 6 := by
  intro sz
  refine vx_ofWH (cc := cL_run) (maxL := 6) (ret := (some .int)) (by decide) rfl ?_
  intro p e s m args below meth c s₁ B hml hv
  obtain ⟨rfl, hsz, hP, hK, hD0, hE, hN⟩ := hv
  have hx := B.exec
  have hb := B.bytes
  have hr := B.returns
  have hts := atoms_spec (ws := wsL_run) B.pre
  have hown : s.vm.findClass RL = some m.cls := findClass_of_methodNamed B.named
  have hlocks := B.notSynchronized
  have htab := vx_table (x := yL_run) B (hts _ List.mem_cons_self)
  subst hsz
  have hD := hD0.self (sz := s.heap.size)
  generalize hAe : va_A ((qo, .inl (g.2.1.2.2, 1, .inr (.inl fo))) :: [(hX, .inr (3, fs)), z1, z2, z3, z4, z5, z6, z7, z8, z9, z10, z11]) s.heap.size = A at hD hE ⊢
  have hA : ∀ q : Nat, s.heap.size ≤ q → A q := fun q h => by rw [← hAe]; exact Or.inr h
  have hS : va_S A s.heap s.heap [] := va_S.rf
  have hl := lv_entry ([.ref hX, .int p0, .int p1, .int p2, .ref qo]) (n := 6) (Nat.le_of_ble_eq_true rfl)
  rw [lg_entry_eq]
  generalize (lg_sl ([.ref hX, .int p0, .int p1, .int p2, .ref qo]) ++ List.replicate (6 - (lg_sl ([.ref hX, .int p0, .int p1, .int p2, .ref qo])).length) Slot.unset).toArray = ls at hl ⊢
  have hl : lv_has ls 6 [(0, .ref hX), (1, .int p0), (2, .int p1), (3, .int p2), (4, .ref qo)] := hl
  refine lv_aload hx hb dL_run_0 (lv_at hl 4 rfl) ?_
  refine lv_iconst (v := 0) hx hb dL_run_2 (by decide) ?_
  refine lv_aload_n hx hb dL_run_3 rfl (lv_at hl 0 rfl) ?_
  refine lv_iload_n hx hb dL_run_4 rfl (lv_at hl 1 rfl) ?_
  refine lv_iload_n hx hb dL_run_5 rfl (lv_at hl 2 rfl) ?_
  refine lv_iload_n hx hb dL_run_6 rfl (lv_at hl 3 rfl) ?_
  refine kiVX (As := [.int p0, .int p1, .int p2]) (rest := [.int 0, .ref qo]) (wc := [(hX, .inr (3, fs)), z1, z2, z3, z4, z5, z6, z7, z8, z9, z10, z11]) (wr := [(qo, .inl (g.2.1.2.2, 1, .inr (.inl fo)))]) ⟨hx, hb, hml, hown, hts⟩ hM (cwV 3 hts gL_run_X5_run rfl rfl rfl (by decide +kernel) ⟨Nat.le_of_ble_eq_true rfl, Nat.le_of_ble_eq_true rfl⟩) ⟨hK, hP, hD, hS, hA, hE, hN⟩ [1, 2, 3, 4, 5, 6, 7, 8, 9, 10, 11, 12] [0] ⟨rfl, rfl, rfl⟩ (q0 := 1) (ci := 3) rfl rfl rfl rfl hl.1 (Nat.le_of_ble_eq_true rfl) dL_run_7 ⟨Nat.le_of_ble_eq_true rfl, Nat.le_of_ble_eq_true rfl⟩ rfl (fun E ce q9 H locs hpe hP hD hS g1 g2 g3 => ?_) (fun r u H locs hw hP hD hS => ?_)
  · skip
    have hq := hPE E hpe
    subst hq
    refine vx_catch (name := kIA) hown [] ⟨0, 12, 15, 13⟩ [] (by rw [htab]; rfl) (fun z hz => absurd hz List.not_mem_nil) (by decide) (by decide) (hts (.classLink RL 13 kIA) (by decide +kernel)) (va_Nw.use rfl (hN.2.2.2.1 kIA (List.mem_of_getElem? (i := 0) rfl))) g1 g2 g3 ?_
    refine lv_astore (lv' := [(5, .ref q9), (0, .ref hX), (1, .int p0), (2, .int p1), (3, .int p2), (4, .ref qo)]) hx hb dL_run_15 hl (by decide) rfl (fun ls hl => ?_)
    refine lv_iconst (v := 1) hx hb dL_run_17 (by decide) ?_
    refine vx_ret ?_
    exact k_iret hx hb hr hlocks ⟨hK, hP, hD, hS, hA, hE, hN⟩ rfl dL_run_18 (Nat.le_of_ble_eq_true rfl) (Nat.le_of_ble_eq_true rfl) (Or.inr ⟨rfl, hpe, rfl⟩)
  · skip
    refine lv_i2l (v := r.toInt64) hx hb dL_run_10 rfl ?_
    refine va_last hx hb hK hP hD hS 0 2 (cA := g.2.1.2.2) (n := 1) (f := fo) rfl rfl (pk_in 0 1 (by decide)) dL_run_11 (fun H locs hP hD hS => ?_)
    have hP : va_P g.1 vwCl ((qo, .inl (g.2.1.2.2, 1, .inr (.inl (vp_updL fo 0 r.toInt64)))) :: u) H := hP
    have hD : va_D A ((qo, .inl (g.2.1.2.2, 1, .inr (.inl (vp_updL fo 0 r.toInt64)))) :: u) := hD
    refine lv_goto (tgt := 19) hx hb dL_run_12 (by decide) ?_
    refine lv_iconst (v := 0) hx hb dL_run_19 (by decide) ?_
    refine vx_ret ?_
    exact k_iret hx hb hr hlocks ⟨hK, hP, hD, hS, hA, hE, hN⟩ rfl dL_run_20 (Nat.le_of_ble_eq_true rfl) (Nat.le_of_ble_eq_true rfl) (Or.inl ⟨rfl, r, u, hw, rfl⟩)
set_option maxHeartbeats 4000000 in
set_option maxRecDepth 100000 in
theorem c_L_told (l : Launch) (g : KG) (hX qo : Nat) (p0 : Int32) (fo : Nat → Int64) (fs : List Value) (z1 z2 z3 z4 z5 z6 z7 z8 z9 z10 z11 : Nat × va_E) (post : Int32 → va_W → Prop) (PE : String → Prop) (hM : CiX l g yX5_told wsX5_told ({ frames := 6, cells := 1, slots := 6, locals := 90 }) [.ref hX, .int p0] [(hX, .inr (3, fs)), z1, z2, z3, z4, z5, z6, z7, z8, z9, z10, z11] post PE 1 6) (hPE : ∀ E, PE E → E = kIA) : CiL l g yL_told wsL_told ({ frames := 7, cells := 1, slots := 6, locals := 111 }) [.ref hX, .int p0, .ref qo] ((qo, .inl (g.2.1.2.2, 1, .inr (.inl fo))) :: [(hX, .inr (3, fs)), z1, z2, z3, z4, z5, z6, z7, z8, z9, z10, z11]) (fun k w => (k = 0 ∧ ∃ (r : Int32) (u : va_W), post r u ∧ w = (qo, .inl (g.2.1.2.2, 1, .inr (.inl (vp_updL fo 0 r.toInt64)))) :: u) ∨ (k = 1 ∧ PE kIA ∧ w = (qo, .inl (g.2.1.2.2, 1, .inr (.inl fo))) :: [(hX, .inr (3, fs)), z1, z2, z3, z4, z5, z6, z7, z8, z9, z10, z11])) 1 6 := by
  intro sz
  refine vx_ofWH (cc := cL_told) (maxL := 4) (ret := (some .int)) (by decide) rfl ?_
  intro p e s m args below meth c s₁ B hml hv
  obtain ⟨rfl, hsz, hP, hK, hD0, hE, hN⟩ := hv
  have hx := B.exec
  have hb := B.bytes
  have hr := B.returns
  have hts := atoms_spec (ws := wsL_told) B.pre
  have hown : s.vm.findClass RL = some m.cls := findClass_of_methodNamed B.named
  have hlocks := B.notSynchronized
  have htab := vx_table (x := yL_told) B (hts _ List.mem_cons_self)
  subst hsz
  have hD := hD0.self (sz := s.heap.size)
  generalize hAe : va_A ((qo, .inl (g.2.1.2.2, 1, .inr (.inl fo))) :: [(hX, .inr (3, fs)), z1, z2, z3, z4, z5, z6, z7, z8, z9, z10, z11]) s.heap.size = A at hD hE ⊢
  have hA : ∀ q : Nat, s.heap.size ≤ q → A q := fun q h => by rw [← hAe]; exact Or.inr h
  have hS : va_S A s.heap s.heap [] := va_S.rf
  have hl := lv_entry ([.ref hX, .int p0, .ref qo]) (n := 4) (Nat.le_of_ble_eq_true rfl)
  rw [lg_entry_eq]
  generalize (lg_sl ([.ref hX, .int p0, .ref qo]) ++ List.replicate (4 - (lg_sl ([.ref hX, .int p0, .ref qo])).length) Slot.unset).toArray = ls at hl ⊢
  have hl : lv_has ls 4 [(0, .ref hX), (1, .int p0), (2, .ref qo)] := hl
  refine lv_aload_n hx hb dL_told_0 rfl (lv_at hl 2 rfl) ?_
  refine lv_iconst (v := 0) hx hb dL_told_1 (by decide) ?_
  refine lv_aload_n hx hb dL_told_2 rfl (lv_at hl 0 rfl) ?_
  refine lv_iload_n hx hb dL_told_3 rfl (lv_at hl 1 rfl) ?_
  refine kiVX (As := [.int p0]) (rest := [.int 0, .ref qo]) (wc := [(hX, .inr (3, fs)), z1, z2, z3, z4, z5, z6, z7, z8, z9, z10, z11]) (wr := [(qo, .inl (g.2.1.2.2, 1, .inr (.inl fo)))]) ⟨hx, hb, hml, hown, hts⟩ hM (cwV 1 hts gL_told_X5_told rfl rfl rfl (by decide +kernel) ⟨Nat.le_of_ble_eq_true rfl, Nat.le_of_ble_eq_true rfl⟩) ⟨hK, hP, hD, hS, hA, hE, hN⟩ [1, 2, 3, 4, 5, 6, 7, 8, 9, 10, 11, 12] [0] ⟨rfl, rfl, rfl⟩ (q0 := 1) (ci := 3) rfl rfl rfl rfl hl.1 (Nat.le_of_ble_eq_true rfl) dL_told_4 ⟨Nat.le_of_ble_eq_true rfl, Nat.le_of_ble_eq_true rfl⟩ rfl (fun E ce q9 H locs hpe hP hD hS g1 g2 g3 => ?_) (fun r u H locs hw hP hD hS => ?_)
  · skip
    have hq := hPE E hpe
    subst hq
    refine vx_catch (name := kIA) hown [] ⟨0, 9, 12, 13⟩ [] (by rw [htab]; rfl) (fun z hz => absurd hz List.not_mem_nil) (by decide) (by decide) (hts (.classLink RL 13 kIA) (by decide +kernel)) (va_Nw.use rfl (hN.2.2.2.1 kIA (List.mem_of_getElem? (i := 0) rfl))) g1 g2 g3 ?_
    refine lv_astore_n (lv' := [(3, .ref q9), (0, .ref hX), (1, .int p0), (2, .ref qo)]) hx hb dL_told_12 rfl hl (by decide) rfl (fun ls hl => ?_)
    refine lv_iconst (v := 1) hx hb dL_told_13 (by decide) ?_
    refine vx_ret ?_
    exact k_iret hx hb hr hlocks ⟨hK, hP, hD, hS, hA, hE, hN⟩ rfl dL_told_14 (Nat.le_of_ble_eq_true rfl) (Nat.le_of_ble_eq_true rfl) (Or.inr ⟨rfl, hpe, rfl⟩)
  · skip
    refine lv_i2l (v := r.toInt64) hx hb dL_told_7 rfl ?_
    refine va_last hx hb hK hP hD hS 0 2 (cA := g.2.1.2.2) (n := 1) (f := fo) rfl rfl (pk_in 0 1 (by decide)) dL_told_8 (fun H locs hP hD hS => ?_)
    have hP : va_P g.1 vwCl ((qo, .inl (g.2.1.2.2, 1, .inr (.inl (vp_updL fo 0 r.toInt64)))) :: u) H := hP
    have hD : va_D A ((qo, .inl (g.2.1.2.2, 1, .inr (.inl (vp_updL fo 0 r.toInt64)))) :: u) := hD
    refine lv_goto (tgt := 15) hx hb dL_told_9 (by decide) ?_
    refine lv_iconst (v := 0) hx hb dL_told_15 (by decide) ?_
    refine vx_ret ?_
    exact k_iret hx hb hr hlocks ⟨hK, hP, hD, hS, hA, hE, hN⟩ rfl dL_told_16 (Nat.le_of_ble_eq_true rfl) (Nat.le_of_ble_eq_true rfl) (Or.inl ⟨rfl, r, u, hw, rfl⟩)
set_option maxHeartbeats 4000000 in
set_option maxRecDepth 100000 in
theorem c_L_registerAt (l : Launch) (g : KG) (hX qo : Nat) (p0 : Int32) (fo : Nat → Int64) (fs : List Value) (z1 z2 z3 z4 z5 z6 z7 z8 z9 z10 z11 : Nat × va_E) (post : Int32 → va_W → Prop) (PE : String → Prop) (hM : CiX l g yX5_registerAt wsX5_registerAt ({ frames := 6, cells := 1, slots := 6, locals := 90 }) [.ref hX, .int p0] [(hX, .inr (3, fs)), z1, z2, z3, z4, z5, z6, z7, z8, z9, z10, z11] post PE 1 6) (hPE : ∀ E, PE E → E = kIA) : CiL l g yL_registerAt wsL_registerAt ({ frames := 7, cells := 1, slots := 6, locals := 111 }) [.ref hX, .int p0, .ref qo] ((qo, .inl (g.2.1.2.2, 1, .inr (.inl fo))) :: [(hX, .inr (3, fs)), z1, z2, z3, z4, z5, z6, z7, z8, z9, z10, z11]) (fun k w => (k = 0 ∧ ∃ (r : Int32) (u : va_W), post r u ∧ w = (qo, .inl (g.2.1.2.2, 1, .inr (.inl (vp_updL fo 0 r.toInt64)))) :: u) ∨ (k = 1 ∧ PE kIA ∧ w = (qo, .inl (g.2.1.2.2, 1, .inr (.inl fo))) :: [(hX, .inr (3, fs)), z1, z2, z3, z4, z5, z6, z7, z8, z9, z10, z11])) 1 6 := by
  intro sz
  refine vx_ofWH (cc := cL_registerAt) (maxL := 4) (ret := (some .int)) (by decide) rfl ?_
  intro p e s m args below meth c s₁ B hml hv
  obtain ⟨rfl, hsz, hP, hK, hD0, hE, hN⟩ := hv
  have hx := B.exec
  have hb := B.bytes
  have hr := B.returns
  have hts := atoms_spec (ws := wsL_registerAt) B.pre
  have hown : s.vm.findClass RL = some m.cls := findClass_of_methodNamed B.named
  have hlocks := B.notSynchronized
  have htab := vx_table (x := yL_registerAt) B (hts _ List.mem_cons_self)
  subst hsz
  have hD := hD0.self (sz := s.heap.size)
  generalize hAe : va_A ((qo, .inl (g.2.1.2.2, 1, .inr (.inl fo))) :: [(hX, .inr (3, fs)), z1, z2, z3, z4, z5, z6, z7, z8, z9, z10, z11]) s.heap.size = A at hD hE ⊢
  have hA : ∀ q : Nat, s.heap.size ≤ q → A q := fun q h => by rw [← hAe]; exact Or.inr h
  have hS : va_S A s.heap s.heap [] := va_S.rf
  have hl := lv_entry ([.ref hX, .int p0, .ref qo]) (n := 4) (Nat.le_of_ble_eq_true rfl)
  rw [lg_entry_eq]
  generalize (lg_sl ([.ref hX, .int p0, .ref qo]) ++ List.replicate (4 - (lg_sl ([.ref hX, .int p0, .ref qo])).length) Slot.unset).toArray = ls at hl ⊢
  have hl : lv_has ls 4 [(0, .ref hX), (1, .int p0), (2, .ref qo)] := hl
  refine lv_aload_n hx hb dL_registerAt_0 rfl (lv_at hl 2 rfl) ?_
  refine lv_iconst (v := 0) hx hb dL_registerAt_1 (by decide) ?_
  refine lv_aload_n hx hb dL_registerAt_2 rfl (lv_at hl 0 rfl) ?_
  refine lv_iload_n hx hb dL_registerAt_3 rfl (lv_at hl 1 rfl) ?_
  refine kiVX (As := [.int p0]) (rest := [.int 0, .ref qo]) (wc := [(hX, .inr (3, fs)), z1, z2, z3, z4, z5, z6, z7, z8, z9, z10, z11]) (wr := [(qo, .inl (g.2.1.2.2, 1, .inr (.inl fo)))]) ⟨hx, hb, hml, hown, hts⟩ hM (cwV 1 hts gL_registerAt_X5_registerAt rfl rfl rfl (by decide +kernel) ⟨Nat.le_of_ble_eq_true rfl, Nat.le_of_ble_eq_true rfl⟩) ⟨hK, hP, hD, hS, hA, hE, hN⟩ [1, 2, 3, 4, 5, 6, 7, 8, 9, 10, 11, 12] [0] ⟨rfl, rfl, rfl⟩ (q0 := 1) (ci := 3) rfl rfl rfl rfl hl.1 (Nat.le_of_ble_eq_true rfl) dL_registerAt_4 ⟨Nat.le_of_ble_eq_true rfl, Nat.le_of_ble_eq_true rfl⟩ rfl (fun E ce q9 H locs hpe hP hD hS g1 g2 g3 => ?_) (fun r u H locs hw hP hD hS => ?_)
  · skip
    have hq := hPE E hpe
    subst hq
    refine vx_catch (name := kIA) hown [] ⟨0, 9, 12, 13⟩ [] (by rw [htab]; rfl) (fun z hz => absurd hz List.not_mem_nil) (by decide) (by decide) (hts (.classLink RL 13 kIA) (by decide +kernel)) (va_Nw.use rfl (hN.2.2.2.1 kIA (List.mem_of_getElem? (i := 0) rfl))) g1 g2 g3 ?_
    refine lv_astore_n (lv' := [(3, .ref q9), (0, .ref hX), (1, .int p0), (2, .ref qo)]) hx hb dL_registerAt_12 rfl hl (by decide) rfl (fun ls hl => ?_)
    refine lv_iconst (v := 1) hx hb dL_registerAt_13 (by decide) ?_
    refine vx_ret ?_
    exact k_iret hx hb hr hlocks ⟨hK, hP, hD, hS, hA, hE, hN⟩ rfl dL_registerAt_14 (Nat.le_of_ble_eq_true rfl) (Nat.le_of_ble_eq_true rfl) (Or.inr ⟨rfl, hpe, rfl⟩)
  · skip
    refine lv_i2l (v := r.toInt64) hx hb dL_registerAt_7 rfl ?_
    refine va_last hx hb hK hP hD hS 0 2 (cA := g.2.1.2.2) (n := 1) (f := fo) rfl rfl (pk_in 0 1 (by decide)) dL_registerAt_8 (fun H locs hP hD hS => ?_)
    have hP : va_P g.1 vwCl ((qo, .inl (g.2.1.2.2, 1, .inr (.inl (vp_updL fo 0 r.toInt64)))) :: u) H := hP
    have hD : va_D A ((qo, .inl (g.2.1.2.2, 1, .inr (.inl (vp_updL fo 0 r.toInt64)))) :: u) := hD
    refine lv_goto (tgt := 15) hx hb dL_registerAt_9 (by decide) ?_
    refine lv_iconst (v := 0) hx hb dL_registerAt_15 (by decide) ?_
    refine vx_ret ?_
    exact k_iret hx hb hr hlocks ⟨hK, hP, hD, hS, hA, hE, hN⟩ rfl dL_registerAt_16 (Nat.le_of_ble_eq_true rfl) (Nat.le_of_ble_eq_true rfl) (Or.inl ⟨rfl, r, u, hw, rfl⟩)
set_option maxHeartbeats 4000000 in
set_option maxRecDepth 100000 in
theorem c_L_memoryAt (l : Launch) (g : KG) (hX qo : Nat) (p0 : Int32) (fo : Nat → Int64) (fs : List Value) (z1 z2 z3 z4 z5 z6 z7 z8 z9 z10 z11 : Nat × va_E) (post : Int32 → va_W → Prop) (PE : String → Prop) (hM : CiX l g yX5_memoryAt wsX5_memoryAt ({ frames := 6, cells := 1, slots := 6, locals := 90 }) [.ref hX, .int p0] [(hX, .inr (3, fs)), z1, z2, z3, z4, z5, z6, z7, z8, z9, z10, z11] post PE 1 6) (hPE : ∀ E, PE E → E = kIA) : CiL l g yL_memoryAt wsL_memoryAt ({ frames := 7, cells := 1, slots := 6, locals := 111 }) [.ref hX, .int p0, .ref qo] ((qo, .inl (g.2.1.2.2, 1, .inr (.inl fo))) :: [(hX, .inr (3, fs)), z1, z2, z3, z4, z5, z6, z7, z8, z9, z10, z11]) (fun k w => (k = 0 ∧ ∃ (r : Int32) (u : va_W), post r u ∧ w = (qo, .inl (g.2.1.2.2, 1, .inr (.inl (vp_updL fo 0 r.toInt64)))) :: u) ∨ (k = 1 ∧ PE kIA ∧ w = (qo, .inl (g.2.1.2.2, 1, .inr (.inl fo))) :: [(hX, .inr (3, fs)), z1, z2, z3, z4, z5, z6, z7, z8, z9, z10, z11])) 1 6 := by
  intro sz
  refine vx_ofWH (cc := cL_memoryAt) (maxL := 4) (ret := (some .int)) (by decide) rfl ?_
  intro p e s m args below meth c s₁ B hml hv
  obtain ⟨rfl, hsz, hP, hK, hD0, hE, hN⟩ := hv
  have hx := B.exec
  have hb := B.bytes
  have hr := B.returns
  have hts := atoms_spec (ws := wsL_memoryAt) B.pre
  have hown : s.vm.findClass RL = some m.cls := findClass_of_methodNamed B.named
  have hlocks := B.notSynchronized
  have htab := vx_table (x := yL_memoryAt) B (hts _ List.mem_cons_self)
  subst hsz
  have hD := hD0.self (sz := s.heap.size)
  generalize hAe : va_A ((qo, .inl (g.2.1.2.2, 1, .inr (.inl fo))) :: [(hX, .inr (3, fs)), z1, z2, z3, z4, z5, z6, z7, z8, z9, z10, z11]) s.heap.size = A at hD hE ⊢
  have hA : ∀ q : Nat, s.heap.size ≤ q → A q := fun q h => by rw [← hAe]; exact Or.inr h
  have hS : va_S A s.heap s.heap [] := va_S.rf
  have hl := lv_entry ([.ref hX, .int p0, .ref qo]) (n := 4) (Nat.le_of_ble_eq_true rfl)
  rw [lg_entry_eq]
  generalize (lg_sl ([.ref hX, .int p0, .ref qo]) ++ List.replicate (4 - (lg_sl ([.ref hX, .int p0, .ref qo])).length) Slot.unset).toArray = ls at hl ⊢
  have hl : lv_has ls 4 [(0, .ref hX), (1, .int p0), (2, .ref qo)] := hl
  refine lv_aload_n hx hb dL_memoryAt_0 rfl (lv_at hl 2 rfl) ?_
  refine lv_iconst (v := 0) hx hb dL_memoryAt_1 (by decide) ?_
  refine lv_aload_n hx hb dL_memoryAt_2 rfl (lv_at hl 0 rfl) ?_
  refine lv_iload_n hx hb dL_memoryAt_3 rfl (lv_at hl 1 rfl) ?_
  refine kiVX (As := [.int p0]) (rest := [.int 0, .ref qo]) (wc := [(hX, .inr (3, fs)), z1, z2, z3, z4, z5, z6, z7, z8, z9, z10, z11]) (wr := [(qo, .inl (g.2.1.2.2, 1, .inr (.inl fo)))]) ⟨hx, hb, hml, hown, hts⟩ hM (cwV 1 hts gL_memoryAt_X5_memoryAt rfl rfl rfl (by decide +kernel) ⟨Nat.le_of_ble_eq_true rfl, Nat.le_of_ble_eq_true rfl⟩) ⟨hK, hP, hD, hS, hA, hE, hN⟩ [1, 2, 3, 4, 5, 6, 7, 8, 9, 10, 11, 12] [0] ⟨rfl, rfl, rfl⟩ (q0 := 1) (ci := 3) rfl rfl rfl rfl hl.1 (Nat.le_of_ble_eq_true rfl) dL_memoryAt_4 ⟨Nat.le_of_ble_eq_true rfl, Nat.le_of_ble_eq_true rfl⟩ rfl (fun E ce q9 H locs hpe hP hD hS g1 g2 g3 => ?_) (fun r u H locs hw hP hD hS => ?_)
  · skip
    have hq := hPE E hpe
    subst hq
    refine vx_catch (name := kIA) hown [] ⟨0, 9, 12, 13⟩ [] (by rw [htab]; rfl) (fun z hz => absurd hz List.not_mem_nil) (by decide) (by decide) (hts (.classLink RL 13 kIA) (by decide +kernel)) (va_Nw.use rfl (hN.2.2.2.1 kIA (List.mem_of_getElem? (i := 0) rfl))) g1 g2 g3 ?_
    refine lv_astore_n (lv' := [(3, .ref q9), (0, .ref hX), (1, .int p0), (2, .ref qo)]) hx hb dL_memoryAt_12 rfl hl (by decide) rfl (fun ls hl => ?_)
    refine lv_iconst (v := 1) hx hb dL_memoryAt_13 (by decide) ?_
    refine vx_ret ?_
    exact k_iret hx hb hr hlocks ⟨hK, hP, hD, hS, hA, hE, hN⟩ rfl dL_memoryAt_14 (Nat.le_of_ble_eq_true rfl) (Nat.le_of_ble_eq_true rfl) (Or.inr ⟨rfl, hpe, rfl⟩)
  · skip
    refine lv_i2l (v := r.toInt64) hx hb dL_memoryAt_7 rfl ?_
    refine va_last hx hb hK hP hD hS 0 2 (cA := g.2.1.2.2) (n := 1) (f := fo) rfl rfl (pk_in 0 1 (by decide)) dL_memoryAt_8 (fun H locs hP hD hS => ?_)
    have hP : va_P g.1 vwCl ((qo, .inl (g.2.1.2.2, 1, .inr (.inl (vp_updL fo 0 r.toInt64)))) :: u) H := hP
    have hD : va_D A ((qo, .inl (g.2.1.2.2, 1, .inr (.inl (vp_updL fo 0 r.toInt64)))) :: u) := hD
    refine lv_goto (tgt := 15) hx hb dL_memoryAt_9 (by decide) ?_
    refine lv_iconst (v := 0) hx hb dL_memoryAt_15 (by decide) ?_
    refine vx_ret ?_
    exact k_iret hx hb hr hlocks ⟨hK, hP, hD, hS, hA, hE, hN⟩ rfl dL_memoryAt_16 (Nat.le_of_ble_eq_true rfl) (Nat.le_of_ble_eq_true rfl) (Or.inl ⟨rfl, r, u, hw, rfl⟩)
