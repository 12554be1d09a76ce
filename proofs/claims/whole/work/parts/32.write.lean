def fil (N e0 : Nat) : Nat → (Nat → Int32) → Nat → Int32
  | 0, f => f
  | t + 1, f => sp_X2_append_cells (nI (e0 + 4 * t)) N (fil N e0 t f) 6 0 0 0
def wa (fa : Nat → Int32) (base kn : Int32) (N : Nat) (f : Nat → Int32) (N2 : Nat) (mk : Int32) (E K : Nat → Nat) : Nat → (Nat → Int32) → Nat → Int32
  | 0, f2 => f2
  | j + 1, f2 => sp_X2_writeOne_cells6 fa base kn (nI (E j + 4 * K j)) N f N2 (fil N2 (E j) (K j) (wa fa base kn N f N2 mk E K j f2)) (nI (4 * j)) mk


set_option maxHeartbeats 4000000 in
set_option maxRecDepth 100000 in
theorem c_X2_fillUpTo (l : Launch) (g : KG) (hR : Nat) (ql : Nat) (qp : Nat) (qa : Nat) (fl : Nat → Int32) (fp : Nat → Int32) (fa : Nat → Int32) (base : Int32) (kn : Int32) (e0 : Nat) (h : Nat) (q : Nat) (N : Nat) (f : Nat → Int32) (len : Int32) (a0 : Nat) (k : Nat) (hNn : N < 2 ^ 31) (ha : a0 = e0 + 4 * k) (hk : e0 + 4 * k < 2 ^ 31) : Cv l g yX2_fillUpTo wsX2_fillUpTo ({ frames := 2, cells := 0, slots := 0, locals := 50 }) [.ref hR, .ref h, .int (nI a0)] [(hR, .inr (2, [.int base, .ref ql, .ref qp, .ref qa, .int kn, .int (nI e0)])), (ql, .inl (g.2.1.2.1, 60, .inl fl)), (qp, .inl (g.2.1.1, 60, .inl fp)), (qa, .inl (g.2.1.1, 60, .inl fa)), (h, .inr (0, [.ref q, .int len])), (q, .inl (g.2.1.1, N, .inl f))] (fun u => u = [(hR, .inr (2, [.int base, .ref ql, .ref qp, .ref qa, .int kn, .int (nI (e0 + 4 * k))])), (ql, .inl (g.2.1.2.1, 60, .inl fl)), (qp, .inl (g.2.1.1, 60, .inl fp)), (qa, .inl (g.2.1.1, 60, .inl fa)), (h, .inr (0, [.ref q, .int len])), (q, .inl (g.2.1.1, N, .inl (fil N e0 k f)))]) 0 0 := by
  intro sz
  refine Met.ofW (cc := cX2_fillUpTo) (maxL := 4) (ret := none) (by decide) rfl ?_
  intro p e s m args below meth c s₁ B hml hv
  obtain ⟨rfl, hsz, hP, hK, hD0, hE, hN⟩ := hv
  have hx := B.exec
  have hb := B.bytes
  have hr := B.returns
  have hts := atoms_spec (ws := wsX2_fillUpTo) B.pre
  have hown : s.vm.findClass RX2 = some m.cls := findClass_of_methodNamed B.named
  have hlocks := B.notSynchronized
  have iX2 : ∀ w ∈ u_ws RX2 TX2 6, w ∈ wsX2_fillUpTo := by decide +kernel
  subst hsz
  have hD := hD0.self (sz := s.heap.size)
  generalize hAe : va_A [(hR, .inr (2, [.int base, .ref ql, .ref qp, .ref qa, .int kn, .int (nI e0)])), (ql, .inl (g.2.1.2.1, 60, .inl fl)), (qp, .inl (g.2.1.1, 60, .inl fp)), (qa, .inl (g.2.1.1, 60, .inl fa)), (h, .inr (0, [.ref q, .int len])), (q, .inl (g.2.1.1, N, .inl f))] s.heap.size = A at hD hE ⊢
  have hA : ∀ q : Nat, s.heap.size ≤ q → A q := fun q h => by rw [← hAe]; exact Or.inr h
  have hS : va_S A s.heap s.heap [] := va_S.rf
  have hl := lv_entry ([.ref hR, .ref h, .int (nI a0)]) (n := 4) (Nat.le_of_ble_eq_true rfl)
  rw [lg_entry_eq]
  generalize (lg_sl ([.ref hR, .ref h, .int (nI a0)]) ++ List.replicate (4 - (lg_sl ([.ref hR, .ref h, .int (nI a0)])).length) Slot.unset).toArray = ls at hl ⊢
  have hl : lv_has ls 4 [(0, .ref hR), (1, .ref h), (2, .int (nI a0))] := hl
  refine lv_aload_n hx hb dX2_fillUpTo_0 rfl (lv_at hl 0 rfl) ?_
  refine va_get (D := g.1) (ci := 2) (v := .int (nI e0)) (C := RX2) (T := TX2) (N := 6) hx hb hts iX2 hown hK hP 0 rfl rfl 5 (by decide) (hts (.fieldLink RX2 29 "FaultIsolation$Rewriter" "end" "I") (by decide +kernel)) (fun _ h9 => h9) rfl dX2_fillUpTo_1 ?_
  refine lv_istore_n (lv' := [(3, .int (nI e0)), (0, .ref hR), (1, .ref h), (2, .int (nI a0))]) hx hb dX2_fillUpTo_4 rfl hl (by decide) rfl (fun ls hl => ?_)
  have loop_5 : ∀ (K : Nat) (t : Nat) (h2 : t ≤ k), k - t < K → ∀ (H : Heap) (locs : List Loc) (ls : Array Slot), va_P g.1 vwCl [(hR, .inr (2, [.int base, .ref ql, .ref qp, .ref qa, .int kn, .int (nI (e0 + 4 * t))])), (ql, .inl (g.2.1.2.1, 60, .inl fl)), (qp, .inl (g.2.1.1, 60, .inl fp)), (qa, .inl (g.2.1.1, 60, .inl fa)), (h, .inr (0, [.ref q, .int len])), (q, .inl (g.2.1.1, N, .inl (fil N e0 t f)))] H → va_D A [(hR, .inr (2, [.int base, .ref ql, .ref qp, .ref qa, .int kn, .int (nI (e0 + 4 * t))])), (ql, .inl (g.2.1.2.1, 60, .inl fl)), (qp, .inl (g.2.1.1, 60, .inl fp)), (qa, .inl (g.2.1.1, 60, .inl fa)), (h, .inr (0, [.ref q, .int len])), (q, .inl (g.2.1.1, N, .inl (fil N e0 t f)))] → va_S A s.heap H locs → lv_has ls 4 [(0, .ref hR), (1, .ref h), (2, .int (nI a0)), (3, .int (nI (e0 + 4 * t)))] → W p l e (headSpec wsX2_fillUpTo ({ frames := 2, cells := 0, slots := 0, locals := 50 })).room s m ([.ref hR, .ref h, .int (nI a0)] : List Value).toArray below meth c H locs 0 0 (MQ below (va_Qv (fun u => u = [(hR, .inr (2, [.int base, .ref ql, .ref qp, .ref qa, .int kn, .int (nI (e0 + 4 * k))])), (ql, .inl (g.2.1.2.1, 60, .inl fl)), (qp, .inl (g.2.1.1, 60, .inl fp)), (qa, .inl (g.2.1.1, 60, .inl fa)), (h, .inr (0, [.ref q, .int len])), (q, .inl (g.2.1.1, N, .inl (fil N e0 k f)))]) (SB g A) A) ([.ref hR, .ref h, .int (nI a0)] : List Value).toArray s 0 0 A) (F0 m 5 ls []) := by
    intro K
    induction K with
    | zero => intro t h2 hm; exact absurd hm (Nat.not_lt_zero _)
    | succ K ih =>
      intro t h2 hm H locs ls hP hD hS hl
      refine lv_iload_n hx hb dX2_fillUpTo_5 rfl (lv_at hl 3 rfl) ?_
      refine lv_iload_n hx hb dX2_fillUpTo_6 rfl (lv_at hl 2 rfl) ?_
      refine lv_icmp_ge (tgt := 26) hx hb dX2_fillUpTo_7 (by decide) (fun c_0 => ?_) (fun c_0 => ?_)
      · skip
        exact k_vret hx hb hr hlocks ⟨hK, hP, hD, hS, hA, hE, hN⟩ dX2_fillUpTo_26 (Nat.le_of_ble_eq_true rfl) (Nat.le_of_ble_eq_true rfl) (by have e : t = k := Nat.le_antisymm h2 (by have := k_le c_0 (by omega) (by omega); omega); subst e; rfl)
      · skip
        refine lv_aload_n hx hb dX2_fillUpTo_10 rfl (lv_at hl 0 rfl) ?_
        refine lv_aload_n hx hb dX2_fillUpTo_11 rfl (lv_at hl 1 rfl) ?_
        refine lv_bipush (v := 6) hx hb dX2_fillUpTo_12 (by decide) ?_
        refine lv_iconst (v := 0) hx hb dX2_fillUpTo_14 (by decide) ?_
        refine lv_iconst (v := 0) hx hb dX2_fillUpTo_15 (by decide) ?_
        refine lv_iconst (v := 0) hx hb dX2_fillUpTo_16 (by decide) ?_
        refine kvV (As := [.ref h, .int 6, .int 0, .int 0, .int 0]) (rest := []) (wc := [(hR, .inr (2, [.int base, .ref ql, .ref qp, .ref qa, .int kn, .int (nI (e0 + 4 * t))])), (ql, .inl (g.2.1.2.1, 60, .inl fl)), (qp, .inl (g.2.1.1, 60, .inl fp)), (qa, .inl (g.2.1.1, 60, .inl fa)), (h, .inr (0, [.ref q, .int len])), (q, .inl (g.2.1.1, N, .inl (fil N e0 t f)))]) (wr := []) ⟨hx, hb, hml, hown, hts⟩ (c_X2_append l g hR ql qp qa fl fp fa base kn (nI (e0 + 4 * t)) h q N (fil N e0 t f) len 6 0 0 0 hNn) (cwV 5 hts gX2_fillUpTo_X2_append rfl rfl rfl (by decide +kernel) ⟨Nat.le_of_ble_eq_true rfl, Nat.le_of_ble_eq_true rfl⟩) ⟨hK, hP, hD, hS, hA, hE, hN⟩ [0, 1, 2, 3, 4, 5] [] ⟨rfl, rfl, by decide⟩ (q0 := 0) (ci := 2) rfl rfl rfl rfl hl.1 (Nat.le_of_ble_eq_true rfl) dX2_fillUpTo_17 ⟨Nat.le_of_ble_eq_true rfl, Nat.le_of_ble_eq_true rfl⟩ rfl (fun u H locs hw hP hD hS => ?_)
        subst hw
        have hP := hP.sub (ws' := [(hR, .inr (2, [.int base, .ref ql, .ref qp, .ref qa, .int kn, .int (sp_X2_append_end (nI (e0 + 4 * t)))])), (ql, .inl (g.2.1.2.1, 60, .inl fl)), (qp, .inl (g.2.1.1, 60, .inl fp)), (qa, .inl (g.2.1.1, 60, .inl fa)), (h, .inr (0, [.ref q, .int len])), (q, .inl (g.2.1.1, N, .inl (sp_X2_append_cells (nI (e0 + 4 * t)) N (fil N e0 t f) 6 0 0 0)))]) [0, 1, 2, 3, 4, 5] rfl
        have hD := hD.sub (ws' := [(hR, .inr (2, [.int base, .ref ql, .ref qp, .ref qa, .int kn, .int (sp_X2_append_end (nI (e0 + 4 * t)))])), (ql, .inl (g.2.1.2.1, 60, .inl fl)), (qp, .inl (g.2.1.1, 60, .inl fp)), (qa, .inl (g.2.1.1, 60, .inl fa)), (h, .inr (0, [.ref q, .int len])), (q, .inl (g.2.1.1, N, .inl (sp_X2_append_cells (nI (e0 + 4 * t)) N (fil N e0 t f) 6 0 0 0)))]) [0, 1, 2, 3, 4, 5] (by decide) rfl
        refine lv_iinc (v := (nI ((e0 + 4 * t) + 4))) (lv' := [(3, .int (nI ((e0 + 4 * t) + 4))), (0, .ref hR), (1, .ref h), (2, .int (nI a0))]) hx hb dX2_fillUpTo_20 hl (k := 3) rfl (nI_add _ _) (by decide) rfl (fun ls hl => ?_)
        refine lv_goto (tgt := 5) hx hb dX2_fillUpTo_23 (by decide) ?_
        rw [show (nI ((e0 + 4 * t) + 4) : Int32) = nI (e0 + 4 * (t + 1)) from (congrArg nI (by omega))] at hl
        rw [show (sp_X2_append_end (nI (e0 + 4 * t))) = nI (e0 + 4 * (t + 1)) from (by unfold sp_X2_append_end; rw [show (4 : Int32) = nI 4 from rfl, nI_add]; exact congrArg nI (by omega))] at hP hD
        exact ih (t + 1) (by have := k_nle c_0 (by omega) (by omega); omega) (by have := k_nle c_0 (by omega) (by omega); omega) _ _ _ hP hD hS (lv_sub hl [1, 2, 3, 0] rfl)
  exact loop_5 (k - 0 + 1) 0 (Nat.zero_le _) (Nat.lt_succ_self _) _ _ _ hP hD hS (lv_sub hl [1, 2, 3, 0] rfl)

set_option maxHeartbeats 4000000 in
set_option maxRecDepth 100000 in
theorem c_X2_writeAll (l : Launch) (g : KG) (hR : Nat) (ql : Nat) (qp : Nat) (qa : Nat) (fl : Nat → Int32) (fp : Nat → Int32) (fa : Nat → Int32) (base : Int32) (kn : Int32) (en : Int32) (h : Nat) (q : Nat) (N : Nat) (f : Nat → Int32) (n : Nat) (hB : Nat) (qB : Nat) (N2 : Nat) (f2 : Nat → Int32) (len2 : Int32) (E : Nat → Nat) (KK : Nat → Nat) (hNn : N < 2 ^ 31) (hn : n ≤ 60) (hNm : N2 < 2 ^ 31) (h0 : E 0 = 0) (hT : ∀ j, j < n → sp_X2_firstWritten (sp_X2_newAddress fa kn (nI j)) (sp_X0_word N f (nI (4 * j))) = nI (E j + 4 * KK j)) (hEe : ∀ j, j < n → sp_X2_writeOne_end (nI (E j + 4 * KK j)) N f (nI (4 * j)) = nI (E (j + 1))) (hbb : ∀ j, j < n → E j + 4 * KK j < 2 ^ 31) : Cv l g yX2_writeAll wsX2_writeAll ({ frames := 3, cells := 0, slots := 0, locals := 78 }) [.ref hR, .ref h, .ref hB] [(hR, .inr (2, [.int base, .ref ql, .ref qp, .ref qa, .int kn, .int en])), (ql, .inl (g.2.1.2.1, 60, .inl fl)), (qp, .inl (g.2.1.1, 60, .inl fp)), (qa, .inl (g.2.1.1, 60, .inl fa)), (h, .inr (0, [.ref q, .int (nI (4 * n))])), (q, .inl (g.2.1.1, N, .inl f)), (hB, .inr (0, [.ref qB, .int len2])), (qB, .inl (g.2.1.1, N2, .inl f2))] (fun u => u = [(hR, .inr (2, [.int base, .ref ql, .ref qp, .ref qa, .int kn, .int (nI (E n))])), (ql, .inl (g.2.1.2.1, 60, .inl fl)), (qp, .inl (g.2.1.1, 60, .inl fp)), (qa, .inl (g.2.1.1, 60, .inl fa)), (h, .inr (0, [.ref q, .int (nI (4 * n))])), (q, .inl (g.2.1.1, N, .inl f)), (hB, .inr (0, [.ref qB, .int len2])), (qB, .inl (g.2.1.1, N2, .inl (wa fa base kn N f N2 (sp_X0_length len2 - 16) E KK n f2)))]) 0 0 := by
  intro sz
  refine Met.ofW (cc := cX2_writeAll) (maxL := 6) (ret := none) (by decide) rfl ?_
  intro p e s m args below meth c s₁ B hml hv
  obtain ⟨rfl, hsz, hP, hK, hD0, hE, hN⟩ := hv
  have hx := B.exec
  have hb := B.bytes
  have hr := B.returns
  have hts := atoms_spec (ws := wsX2_writeAll) B.pre
  have hown : s.vm.findClass RX2 = some m.cls := findClass_of_methodNamed B.named
  have hlocks := B.notSynchronized
  have iX2 : ∀ w ∈ u_ws RX2 TX2 6, w ∈ wsX2_writeAll := by decide +kernel
  subst hsz
  have hD := hD0.self (sz := s.heap.size)
  generalize hAe : va_A [(hR, .inr (2, [.int base, .ref ql, .ref qp, .ref qa, .int kn, .int en])), (ql, .inl (g.2.1.2.1, 60, .inl fl)), (qp, .inl (g.2.1.1, 60, .inl fp)), (qa, .inl (g.2.1.1, 60, .inl fa)), (h, .inr (0, [.ref q, .int (nI (4 * n))])), (q, .inl (g.2.1.1, N, .inl f)), (hB, .inr (0, [.ref qB, .int len2])), (qB, .inl (g.2.1.1, N2, .inl f2))] s.heap.size = A at hD hE ⊢
  have hA : ∀ q : Nat, s.heap.size ≤ q → A q := fun q h => by rw [← hAe]; exact Or.inr h
  have hS : va_S A s.heap s.heap [] := va_S.rf
  have hl := lv_entry ([.ref hR, .ref h, .ref hB]) (n := 6) (Nat.le_of_ble_eq_true rfl)
  rw [lg_entry_eq]
  generalize (lg_sl ([.ref hR, .ref h, .ref hB]) ++ List.replicate (6 - (lg_sl ([.ref hR, .ref h, .ref hB])).length) Slot.unset).toArray = ls at hl ⊢
  have hl : lv_has ls 6 [(0, .ref hR), (1, .ref h), (2, .ref hB)] := hl
  refine lv_aload_n hx hb dX2_writeAll_0 rfl (lv_at hl 0 rfl) ?_
  refine lv_iconst (v := 0) hx hb dX2_writeAll_1 (by decide) ?_
  refine va_put (D := g.1) (ci := 2) (v := .int 0) (ty := .int) (C := RX2) (T := TX2) (N := 6) hx hb hts iX2 tyX2 tyX2_ok nmX2 hown hK hP hD hS 0 rfl rfl 5 (by decide) (hts (.fieldLink RX2 29 "FaultIsolation$Rewriter" "end" "I") (by decide +kernel)) (fun _ h9 => h9) rfl (by decide +kernel) rfl rfl (Nat.le_of_ble_eq_true rfl) dX2_writeAll_2 (fun H locs hP hD hS => ?_)
  have hP : va_P g.1 vwCl [(hR, .inr (2, [.int base, .ref ql, .ref qp, .ref qa, .int kn, .int 0])), (ql, .inl (g.2.1.2.1, 60, .inl fl)), (qp, .inl (g.2.1.1, 60, .inl fp)), (qa, .inl (g.2.1.1, 60, .inl fa)), (h, .inr (0, [.ref q, .int (nI (4 * n))])), (q, .inl (g.2.1.1, N, .inl f)), (hB, .inr (0, [.ref qB, .int len2])), (qB, .inl (g.2.1.1, N2, .inl f2))] H := hP
  have hD : va_D A [(hR, .inr (2, [.int base, .ref ql, .ref qp, .ref qa, .int kn, .int 0])), (ql, .inl (g.2.1.2.1, 60, .inl fl)), (qp, .inl (g.2.1.1, 60, .inl fp)), (qa, .inl (g.2.1.1, 60, .inl fa)), (h, .inr (0, [.ref q, .int (nI (4 * n))])), (q, .inl (g.2.1.1, N, .inl f)), (hB, .inr (0, [.ref qB, .int len2])), (qB, .inl (g.2.1.1, N2, .inl f2))] := hD
  refine lv_aload_n hx hb dX2_writeAll_5 rfl (lv_at hl 2 rfl) ?_
  refine kiV (As := []) (rest := []) (wc := [(hB, .inr (0, [.ref qB, .int len2])), (qB, .inl (g.2.1.1, N2, .inl f2))]) (wr := [(hR, .inr (2, [.int base, .ref ql, .ref qp, .ref qa, .int kn, .int 0])), (ql, .inl (g.2.1.2.1, 60, .inl fl)), (qp, .inl (g.2.1.1, 60, .inl fp)), (qa, .inl (g.2.1.1, 60, .inl fa)), (h, .inr (0, [.ref q, .int (nI (4 * n))])), (q, .inl (g.2.1.1, N, .inl f))]) ⟨hx, hb, hml, hown, hts⟩ (c_X0_length l g hB qB N2 f2 len2 hNm) (cwV 0 hts gX2_writeAll_X0_length rfl rfl rfl (by decide +kernel) ⟨Nat.le_of_ble_eq_true rfl, Nat.le_of_ble_eq_true rfl⟩) ⟨hK, hP, hD, hS, hA, hE, hN⟩ [6, 7] [0, 1, 2, 3, 4, 5] ⟨rfl, rfl, by decide⟩ (q0 := 6) (ci := 0) rfl rfl rfl rfl hl.1 (Nat.le_of_ble_eq_true rfl) dX2_writeAll_6 ⟨Nat.le_of_ble_eq_true rfl, Nat.le_of_ble_eq_true rfl⟩ rfl (fun r u H locs hw hP hD hS => ?_)
  obtain ⟨hq, hw⟩ := hw
  subst r
  subst hw
  have hP := hP.sub (ws' := [(hR, .inr (2, [.int base, .ref ql, .ref qp, .ref qa, .int kn, .int 0])), (ql, .inl (g.2.1.2.1, 60, .inl fl)), (qp, .inl (g.2.1.1, 60, .inl fp)), (qa, .inl (g.2.1.1, 60, .inl fa)), (h, .inr (0, [.ref q, .int (nI (4 * n))])), (q, .inl (g.2.1.1, N, .inl f)), (hB, .inr (0, [.ref qB, .int len2])), (qB, .inl (g.2.1.1, N2, .inl f2))]) [0, 1, 2, 3, 4, 5, 6, 7] rfl
  have hD := hD.sub (ws' := [(hR, .inr (2, [.int base, .ref ql, .ref qp, .ref qa, .int kn, .int 0])), (ql, .inl (g.2.1.2.1, 60, .inl fl)), (qp, .inl (g.2.1.1, 60, .inl fp)), (qa, .inl (g.2.1.1, 60, .inl fa)), (h, .inr (0, [.ref q, .int (nI (4 * n))])), (q, .inl (g.2.1.1, N, .inl f)), (hB, .inr (0, [.ref qB, .int len2])), (qB, .inl (g.2.1.1, N2, .inl f2))]) [0, 1, 2, 3, 4, 5, 6, 7] (by decide) rfl
  refine lv_bipush (v := 16) hx hb dX2_writeAll_9 (by decide) ?_
  refine lv_isub hx hb dX2_writeAll_11 ?_
  refine lv_istore_n (lv' := [(3, .int ((sp_X0_length len2) - 16)), (0, .ref hR), (1, .ref h), (2, .ref hB)]) hx hb dX2_writeAll_12 rfl hl (by decide) rfl (fun ls hl => ?_)
  refine lv_iconst (v := 0) hx hb dX2_writeAll_13 (by decide) ?_
  refine lv_istore (lv' := [(4, .int 0), (3, .int ((sp_X0_length len2) - 16)), (0, .ref hR), (1, .ref h), (2, .ref hB)]) hx hb dX2_writeAll_14 hl (by decide) rfl (fun ls hl => ?_)
  have loop_16 : ∀ (K : Nat) (j : Nat) (h2 : j ≤ n), n - j < K → ∀ (H : Heap) (locs : List Loc) (ls : Array Slot), va_P g.1 vwCl [(hR, .inr (2, [.int base, .ref ql, .ref qp, .ref qa, .int kn, .int (nI (E j))])), (ql, .inl (g.2.1.2.1, 60, .inl fl)), (qp, .inl (g.2.1.1, 60, .inl fp)), (qa, .inl (g.2.1.1, 60, .inl fa)), (h, .inr (0, [.ref q, .int (nI (4 * n))])), (q, .inl (g.2.1.1, N, .inl f)), (hB, .inr (0, [.ref qB, .int len2])), (qB, .inl (g.2.1.1, N2, .inl (wa fa base kn N f N2 (sp_X0_length len2 - 16) E KK j f2)))] H → va_D A [(hR, .inr (2, [.int base, .ref ql, .ref qp, .ref qa, .int kn, .int (nI (E j))])), (ql, .inl (g.2.1.2.1, 60, .inl fl)), (qp, .inl (g.2.1.1, 60, .inl fp)), (qa, .inl (g.2.1.1, 60, .inl fa)), (h, .inr (0, [.ref q, .int (nI (4 * n))])), (q, .inl (g.2.1.1, N, .inl f)), (hB, .inr (0, [.ref qB, .int len2])), (qB, .inl (g.2.1.1, N2, .inl (wa fa base kn N f N2 (sp_X0_length len2 - 16) E KK j f2)))] → va_S A s.heap H locs → lv_has ls 6 [(0, .ref hR), (1, .ref h), (2, .ref hB), (3, .int ((sp_X0_length len2) - 16)), (4, .int (nI j))] → W p l e (headSpec wsX2_writeAll ({ frames := 3, cells := 0, slots := 0, locals := 78 })).room s m ([.ref hR, .ref h, .ref hB] : List Value).toArray below meth c H locs 0 0 (MQ below (va_Qv (fun u => u = [(hR, .inr (2, [.int base, .ref ql, .ref qp, .ref qa, .int kn, .int (nI (E n))])), (ql, .inl (g.2.1.2.1, 60, .inl fl)), (qp, .inl (g.2.1.1, 60, .inl fp)), (qa, .inl (g.2.1.1, 60, .inl fa)), (h, .inr (0, [.ref q, .int (nI (4 * n))])), (q, .inl (g.2.1.1, N, .inl f)), (hB, .inr (0, [.ref qB, .int len2])), (qB, .inl (g.2.1.1, N2, .inl (wa fa base kn N f N2 (sp_X0_length len2 - 16) E KK n f2)))]) (SB g A) A) ([.ref hR, .ref h, .ref hB] : List Value).toArray s 0 0 A) (F0 m 16 ls []) := by
    intro K
    induction K with
    | zero => intro j h2 hm; exact absurd hm (Nat.not_lt_zero _)
    | succ K ih =>
      intro j h2 hm H locs ls hP hD hS hl
      refine lv_iload hx hb dX2_writeAll_16 (lv_at hl 4 rfl) ?_
      refine lv_aload_n hx hb dX2_writeAll_18 rfl (lv_at hl 1 rfl) ?_
      refine kiV (As := []) (rest := [.int (nI j)]) (wc := [(h, .inr (0, [.ref q, .int (nI (4 * n))])), (q, .inl (g.2.1.1, N, .inl f))]) (wr := [(hR, .inr (2, [.int base, .ref ql, .ref qp, .ref qa, .int kn, .int (nI (E j))])), (ql, .inl (g.2.1.2.1, 60, .inl fl)), (qp, .inl (g.2.1.1, 60, .inl fp)), (qa, .inl (g.2.1.1, 60, .inl fa)), (hB, .inr (0, [.ref qB, .int len2])), (qB, .inl (g.2.1.1, N2, .inl (wa fa base kn N f N2 (sp_X0_length len2 - 16) E KK j f2)))]) ⟨hx, hb, hml, hown, hts⟩ (c_X0_instructions l g h q N f (nI (4 * n)) hNn) (cwV 0 hts gX2_writeAll_X0_instructions rfl rfl rfl (by decide +kernel) ⟨Nat.le_of_ble_eq_true rfl, Nat.le_of_ble_eq_true rfl⟩) ⟨hK, hP, hD, hS, hA, hE, hN⟩ [4, 5] [0, 1, 2, 3, 6, 7] ⟨rfl, rfl, by decide⟩ (q0 := 4) (ci := 0) rfl rfl rfl rfl hl.1 (Nat.le_of_ble_eq_true rfl) dX2_writeAll_19 ⟨Nat.le_of_ble_eq_true rfl, Nat.le_of_ble_eq_true rfl⟩ rfl (fun r u H locs hw hP hD hS => ?_)
      obtain ⟨hq, hw⟩ := hw
      subst r
      subst hw
      have hP := hP.sub (ws' := [(hR, .inr (2, [.int base, .ref ql, .ref qp, .ref qa, .int kn, .int (nI (E j))])), (ql, .inl (g.2.1.2.1, 60, .inl fl)), (qp, .inl (g.2.1.1, 60, .inl fp)), (qa, .inl (g.2.1.1, 60, .inl fa)), (h, .inr (0, [.ref q, .int (nI (4 * n))])), (q, .inl (g.2.1.1, N, .inl f)), (hB, .inr (0, [.ref qB, .int len2])), (qB, .inl (g.2.1.1, N2, .inl (wa fa base kn N f N2 (sp_X0_length len2 - 16) E KK j f2)))]) [0, 1, 2, 3, 6, 7, 4, 5] rfl
      have hD := hD.sub (ws' := [(hR, .inr (2, [.int base, .ref ql, .ref qp, .ref qa, .int kn, .int (nI (E j))])), (ql, .inl (g.2.1.2.1, 60, .inl fl)), (qp, .inl (g.2.1.1, 60, .inl fp)), (qa, .inl (g.2.1.1, 60, .inl fa)), (h, .inr (0, [.ref q, .int (nI (4 * n))])), (q, .inl (g.2.1.1, N, .inl f)), (hB, .inr (0, [.ref qB, .int len2])), (qB, .inl (g.2.1.1, N2, .inl (wa fa base kn N f N2 (sp_X0_length len2 - 16) E KK j f2)))]) [0, 1, 2, 3, 6, 7, 4, 5] (by decide) rfl
      refine lv_topi (fun y9 e9 => ?_)
      rw [show (sp_X0_instructions (nI (4 * n)) : Int32) = nI n from k_ins hn] at e9
      subst e9
      refine lv_icmp_ge (tgt := 66) hx hb dX2_writeAll_22 (by decide) (fun c_0 => ?_) (fun c_0 => ?_)
      · skip
        exact k_vret hx hb hr hlocks ⟨hK, hP, hD, hS, hA, hE, hN⟩ dX2_writeAll_66 (Nat.le_of_ble_eq_true rfl) (Nat.le_of_ble_eq_true rfl) (by have e : j = n := Nat.le_antisymm h2 (k_le c_0 (by omega) (by omega)); subst e; rfl)
      · skip
        refine lv_iconst (v := 4) hx hb dX2_writeAll_25 (by decide) ?_
        refine lv_iload hx hb dX2_writeAll_26 (lv_at hl 4 rfl) ?_
        refine lv_imul hx hb dX2_writeAll_28 ?_
        refine lv_topi (fun y9 e9 => ?_)
        rw [show (4 * (nI j) : Int32) = nI (4 * j) from pk_mul _ _] at e9
        subst e9
        refine lv_istore (lv' := [(5, .int (nI (4 * j))), (0, .ref hR), (1, .ref h), (2, .ref hB), (3, .int ((sp_X0_length len2) - 16)), (4, .int (nI j))]) hx hb dX2_writeAll_29 hl (by decide) rfl (fun ls hl => ?_)
        refine lv_aload_n hx hb dX2_writeAll_31 rfl (lv_at hl 1 rfl) ?_
        refine lv_aload_n hx hb dX2_writeAll_32 rfl (lv_at hl 3 rfl) ?_
        refine lv_aload_n hx hb dX2_writeAll_33 rfl (lv_at hl 1 rfl) ?_
        refine lv_iload hx hb dX2_writeAll_34 (lv_at hl 5 rfl) ?_
        refine kiV (As := [.int (nI j)]) (rest := [.ref hB, .ref hR]) (wc := [(hR, .inr (2, [.int base, .ref ql, .ref qp, .ref qa, .int kn, .int (nI (E j))])), (ql, .inl (g.2.1.2.1, 60, .inl fl)), (qp, .inl (g.2.1.1, 60, .inl fp)), (qa, .inl (g.2.1.1, 60, .inl fa))]) (wr := [(h, .inr (0, [.ref q, .int (nI (4 * n))])), (q, .inl (g.2.1.1, N, .inl f)), (hB, .inr (0, [.ref qB, .int len2])), (qB, .inl (g.2.1.1, N2, .inl (wa fa base kn N f N2 (sp_X0_length len2 - 16) E KK j f2)))]) ⟨hx, hb, hml, hown, hts⟩ (c_X2_newAddress l g hR ql qp qa fl fp fa base kn (nI (E j)) (nI j)) (cwV 1 hts gX2_writeAll_X2_newAddress rfl rfl rfl (by decide +kernel) ⟨Nat.le_of_ble_eq_true rfl, Nat.le_of_ble_eq_true rfl⟩) ⟨hK, hP, hD, hS, hA, hE, hN⟩ [0, 1, 2, 3] [4, 5, 6, 7] ⟨rfl, rfl, by decide⟩ (q0 := 0) (ci := 2) rfl rfl rfl rfl hl.1 (Nat.le_of_ble_eq_true rfl) dX2_writeAll_36 ⟨Nat.le_of_ble_eq_true rfl, Nat.le_of_ble_eq_true rfl⟩ rfl (fun r u H locs hw hP hD hS => ?_)
        obtain ⟨hq, hw⟩ := hw
        subst r
        subst hw
        have hP := hP.sub (ws' := [(hR, .inr (2, [.int base, .ref ql, .ref qp, .ref qa, .int kn, .int (nI (E j))])), (ql, .inl (g.2.1.2.1, 60, .inl fl)), (qp, .inl (g.2.1.1, 60, .inl fp)), (qa, .inl (g.2.1.1, 60, .inl fa)), (h, .inr (0, [.ref q, .int (nI (4 * n))])), (q, .inl (g.2.1.1, N, .inl f)), (hB, .inr (0, [.ref qB, .int len2])), (qB, .inl (g.2.1.1, N2, .inl (wa fa base kn N f N2 (sp_X0_length len2 - 16) E KK j f2)))]) [4, 5, 6, 7, 0, 1, 2, 3] rfl
        have hD := hD.sub (ws' := [(hR, .inr (2, [.int base, .ref ql, .ref qp, .ref qa, .int kn, .int (nI (E j))])), (ql, .inl (g.2.1.2.1, 60, .inl fl)), (qp, .inl (g.2.1.1, 60, .inl fp)), (qa, .inl (g.2.1.1, 60, .inl fa)), (h, .inr (0, [.ref q, .int (nI (4 * n))])), (q, .inl (g.2.1.1, N, .inl f)), (hB, .inr (0, [.ref qB, .int len2])), (qB, .inl (g.2.1.1, N2, .inl (wa fa base kn N f N2 (sp_X0_length len2 - 16) E KK j f2)))]) [4, 5, 6, 7, 0, 1, 2, 3] (by decide) rfl
        refine lv_aload_n hx hb dX2_writeAll_39 rfl (lv_at hl 2 rfl) ?_
        refine lv_iload hx hb dX2_writeAll_40 (lv_at hl 0 rfl) ?_
        refine kiV (As := [.int (nI (4 * j))]) (rest := [.int (sp_X2_newAddress fa kn (nI j)), .ref hB, .ref hR]) (wc := [(h, .inr (0, [.ref q, .int (nI (4 * n))])), (q, .inl (g.2.1.1, N, .inl f))]) (wr := [(hR, .inr (2, [.int base, .ref ql, .ref qp, .ref qa, .int kn, .int (nI (E j))])), (ql, .inl (g.2.1.2.1, 60, .inl fl)), (qp, .inl (g.2.1.1, 60, .inl fp)), (qa, .inl (g.2.1.1, 60, .inl fa)), (hB, .inr (0, [.ref qB, .int len2])), (qB, .inl (g.2.1.1, N2, .inl (wa fa base kn N f N2 (sp_X0_length len2 - 16) E KK j f2)))]) ⟨hx, hb, hml, hown, hts⟩ (c_X0_word l g h q N f (nI (4 * n)) (nI (4 * j)) hNn) (cwV 1 hts gX2_writeAll_X0_word rfl rfl rfl (by decide +kernel) ⟨Nat.le_of_ble_eq_true rfl, Nat.le_of_ble_eq_true rfl⟩) ⟨hK, hP, hD, hS, hA, hE, hN⟩ [4, 5] [0, 1, 2, 3, 6, 7] ⟨rfl, rfl, by decide⟩ (q0 := 4) (ci := 0) rfl rfl rfl rfl hl.1 (Nat.le_of_ble_eq_true rfl) dX2_writeAll_42 ⟨Nat.le_of_ble_eq_true rfl, Nat.le_of_ble_eq_true rfl⟩ rfl (fun r u H locs hw hP hD hS => ?_)
        obtain ⟨hq, hw⟩ := hw
        subst r
        subst hw
        have hP := hP.sub (ws' := [(hR, .inr (2, [.int base, .ref ql, .ref qp, .ref qa, .int kn, .int (nI (E j))])), (ql, .inl (g.2.1.2.1, 60, .inl fl)), (qp, .inl (g.2.1.1, 60, .inl fp)), (qa, .inl (g.2.1.1, 60, .inl fa)), (h, .inr (0, [.ref q, .int (nI (4 * n))])), (q, .inl (g.2.1.1, N, .inl f)), (hB, .inr (0, [.ref qB, .int len2])), (qB, .inl (g.2.1.1, N2, .inl (wa fa base kn N f N2 (sp_X0_length len2 - 16) E KK j f2)))]) [0, 1, 2, 3, 6, 7, 4, 5] rfl
        have hD := hD.sub (ws' := [(hR, .inr (2, [.int base, .ref ql, .ref qp, .ref qa, .int kn, .int (nI (E j))])), (ql, .inl (g.2.1.2.1, 60, .inl fl)), (qp, .inl (g.2.1.1, 60, .inl fp)), (qa, .inl (g.2.1.1, 60, .inl fa)), (h, .inr (0, [.ref q, .int (nI (4 * n))])), (q, .inl (g.2.1.1, N, .inl f)), (hB, .inr (0, [.ref qB, .int len2])), (qB, .inl (g.2.1.1, N2, .inl (wa fa base kn N f N2 (sp_X0_length len2 - 16) E KK j f2)))]) [0, 1, 2, 3, 6, 7, 4, 5] (by decide) rfl
        refine kiS (As := [.int (sp_X2_newAddress fa kn (nI j)), .int (sp_X0_word N f (nI (4 * j)))]) (rest := [.ref hB, .ref hR]) (wc := []) (wr := [(hR, .inr (2, [.int base, .ref ql, .ref qp, .ref qa, .int kn, .int (nI (E j))])), (ql, .inl (g.2.1.2.1, 60, .inl fl)), (qp, .inl (g.2.1.1, 60, .inl fp)), (qa, .inl (g.2.1.1, 60, .inl fa)), (h, .inr (0, [.ref q, .int (nI (4 * n))])), (q, .inl (g.2.1.1, N, .inl f)), (hB, .inr (0, [.ref qB, .int len2])), (qB, .inl (g.2.1.1, N2, .inl (wa fa base kn N f N2 (sp_X0_length len2 - 16) E KK j f2)))]) ⟨hx, hb, hml, hown, hts⟩ (c_X2_firstWritten l g (sp_X2_newAddress fa kn (nI j)) (sp_X0_word N f (nI (4 * j)))) (va_cwS 2 hts gX2_writeAll_X2_firstWritten rfl rfl rfl (by decide +kernel) ⟨Nat.le_of_ble_eq_true rfl, Nat.le_of_ble_eq_true rfl⟩) ⟨hK, hP, hD, hS, hA, hE, hN⟩ [] [0, 1, 2, 3, 4, 5, 6, 7] ⟨rfl, rfl, by decide⟩ rfl hl.1 (Nat.le_of_ble_eq_true rfl) dX2_writeAll_45 ⟨Nat.le_of_ble_eq_true rfl, Nat.le_of_ble_eq_true rfl⟩ rfl (fun r u H locs hw hP hD hS => ?_)
        obtain ⟨hq, hw⟩ := hw
        subst r
        subst hw
        have hP := hP.sub (ws' := [(hR, .inr (2, [.int base, .ref ql, .ref qp, .ref qa, .int kn, .int (nI (E j))])), (ql, .inl (g.2.1.2.1, 60, .inl fl)), (qp, .inl (g.2.1.1, 60, .inl fp)), (qa, .inl (g.2.1.1, 60, .inl fa)), (h, .inr (0, [.ref q, .int (nI (4 * n))])), (q, .inl (g.2.1.1, N, .inl f)), (hB, .inr (0, [.ref qB, .int len2])), (qB, .inl (g.2.1.1, N2, .inl (wa fa base kn N f N2 (sp_X0_length len2 - 16) E KK j f2)))]) [0, 1, 2, 3, 4, 5, 6, 7] rfl
        have hD := hD.sub (ws' := [(hR, .inr (2, [.int base, .ref ql, .ref qp, .ref qa, .int kn, .int (nI (E j))])), (ql, .inl (g.2.1.2.1, 60, .inl fl)), (qp, .inl (g.2.1.1, 60, .inl fp)), (qa, .inl (g.2.1.1, 60, .inl fa)), (h, .inr (0, [.ref q, .int (nI (4 * n))])), (q, .inl (g.2.1.1, N, .inl f)), (hB, .inr (0, [.ref qB, .int len2])), (qB, .inl (g.2.1.1, N2, .inl (wa fa base kn N f N2 (sp_X0_length len2 - 16) E KK j f2)))]) [0, 1, 2, 3, 4, 5, 6, 7] (by decide) rfl
        refine lv_topi (fun y9 e9 => ?_)
        rw [show (sp_X2_firstWritten (sp_X2_newAddress fa kn (nI j)) (sp_X0_word N f (nI (4 * j))) : Int32) = nI (E j + 4 * KK j) from hT j (k_nle c_0 (by omega) (by omega))] at e9
        subst e9
        refine kvV (As := [.ref hB, .int (nI (E j + 4 * KK j))]) (rest := []) (wc := [(hR, .inr (2, [.int base, .ref ql, .ref qp, .ref qa, .int kn, .int (nI (E j))])), (ql, .inl (g.2.1.2.1, 60, .inl fl)), (qp, .inl (g.2.1.1, 60, .inl fp)), (qa, .inl (g.2.1.1, 60, .inl fa)), (hB, .inr (0, [.ref qB, .int len2])), (qB, .inl (g.2.1.1, N2, .inl (wa fa base kn N f N2 (sp_X0_length len2 - 16) E KK j f2)))]) (wr := [(h, .inr (0, [.ref q, .int (nI (4 * n))])), (q, .inl (g.2.1.1, N, .inl f))]) ⟨hx, hb, hml, hown, hts⟩ (c_X2_fillUpTo l g hR ql qp qa fl fp fa base kn (E j) hB qB N2 (wa fa base kn N f N2 (sp_X0_length len2 - 16) E KK j f2) len2 (E j + 4 * KK j) (KK j) hNm rfl (hbb j (k_nle c_0 (by omega) (by omega)))) (cwV 2 hts gX2_writeAll_X2_fillUpTo rfl rfl rfl (by decide +kernel) ⟨Nat.le_of_ble_eq_true rfl, Nat.le_of_ble_eq_true rfl⟩) ⟨hK, hP, hD, hS, hA, hE, hN⟩ [0, 1, 2, 3, 6, 7] [4, 5] ⟨rfl, rfl, by decide⟩ (q0 := 0) (ci := 2) rfl rfl rfl rfl hl.1 (Nat.le_of_ble_eq_true rfl) dX2_writeAll_48 ⟨Nat.le_of_ble_eq_true rfl, Nat.le_of_ble_eq_true rfl⟩ rfl (fun u H locs hw hP hD hS => ?_)
        subst hw
        have hP := hP.sub (ws' := [(hR, .inr (2, [.int base, .ref ql, .ref qp, .ref qa, .int kn, .int (nI ((E j) + 4 * (KK j)))])), (ql, .inl (g.2.1.2.1, 60, .inl fl)), (qp, .inl (g.2.1.1, 60, .inl fp)), (qa, .inl (g.2.1.1, 60, .inl fa)), (h, .inr (0, [.ref q, .int (nI (4 * n))])), (q, .inl (g.2.1.1, N, .inl f)), (hB, .inr (0, [.ref qB, .int len2])), (qB, .inl (g.2.1.1, N2, .inl (fil N2 (E j) (KK j) (wa fa base kn N f N2 (sp_X0_length len2 - 16) E KK j f2))))]) [2, 3, 4, 5, 0, 1, 6, 7] rfl
        have hD := hD.sub (ws' := [(hR, .inr (2, [.int base, .ref ql, .ref qp, .ref qa, .int kn, .int (nI ((E j) + 4 * (KK j)))])), (ql, .inl (g.2.1.2.1, 60, .inl fl)), (qp, .inl (g.2.1.1, 60, .inl fp)), (qa, .inl (g.2.1.1, 60, .inl fa)), (h, .inr (0, [.ref q, .int (nI (4 * n))])), (q, .inl (g.2.1.1, N, .inl f)), (hB, .inr (0, [.ref qB, .int len2])), (qB, .inl (g.2.1.1, N2, .inl (fil N2 (E j) (KK j) (wa fa base kn N f N2 (sp_X0_length len2 - 16) E KK j f2))))]) [2, 3, 4, 5, 0, 1, 6, 7] (by decide) rfl
        refine lv_aload_n hx hb dX2_writeAll_51 rfl (lv_at hl 1 rfl) ?_
        refine lv_aload_n hx hb dX2_writeAll_52 rfl (lv_at hl 2 rfl) ?_
        refine lv_iload hx hb dX2_writeAll_53 (lv_at hl 0 rfl) ?_
        refine lv_aload_n hx hb dX2_writeAll_55 rfl (lv_at hl 3 rfl) ?_
        refine lv_iload_n hx hb dX2_writeAll_56 rfl (lv_at hl 4 rfl) ?_
        refine kvV (As := [.ref h, .int (nI (4 * j)), .ref hB, .int ((sp_X0_length len2) - 16)]) (rest := []) (wc := [(hR, .inr (2, [.int base, .ref ql, .ref qp, .ref qa, .int kn, .int (nI ((E j) + 4 * (KK j)))])), (ql, .inl (g.2.1.2.1, 60, .inl fl)), (qp, .inl (g.2.1.1, 60, .inl fp)), (qa, .inl (g.2.1.1, 60, .inl fa)), (h, .inr (0, [.ref q, .int (nI (4 * n))])), (q, .inl (g.2.1.1, N, .inl f)), (hB, .inr (0, [.ref qB, .int len2])), (qB, .inl (g.2.1.1, N2, .inl (fil N2 (E j) (KK j) (wa fa base kn N f N2 (sp_X0_length len2 - 16) E KK j f2))))]) (wr := []) ⟨hx, hb, hml, hown, hts⟩ (c_X2_writeOne l g hR ql qp qa fl fp fa base kn (nI ((E j) + 4 * (KK j))) h q N f (nI (4 * n)) hB qB N2 (fil N2 (E j) (KK j) (wa fa base kn N f N2 (sp_X0_length len2 - 16) E KK j f2)) len2 (nI (4 * j)) ((sp_X0_length len2) - 16) hNn hNm) (cwV 4 hts gX2_writeAll_X2_writeOne rfl rfl rfl (by decide +kernel) ⟨Nat.le_of_ble_eq_true rfl, Nat.le_of_ble_eq_true rfl⟩) ⟨hK, hP, hD, hS, hA, hE, hN⟩ [0, 1, 2, 3, 4, 5, 6, 7] [] ⟨rfl, rfl, by decide⟩ (q0 := 0) (ci := 2) rfl rfl rfl rfl hl.1 (Nat.le_of_ble_eq_true rfl) dX2_writeAll_57 ⟨Nat.le_of_ble_eq_true rfl, Nat.le_of_ble_eq_true rfl⟩ rfl (fun u H locs hw hP hD hS => ?_)
        subst hw
        have hP := hP.sub (ws' := [(hR, .inr (2, [.int base, .ref ql, .ref qp, .ref qa, .int kn, .int (sp_X2_writeOne_end (nI ((E j) + 4 * (KK j))) N f (nI (4 * j)))])), (ql, .inl (g.2.1.2.1, 60, .inl fl)), (qp, .inl (g.2.1.1, 60, .inl fp)), (qa, .inl (g.2.1.1, 60, .inl fa)), (h, .inr (0, [.ref q, .int (nI (4 * n))])), (q, .inl (g.2.1.1, N, .inl f)), (hB, .inr (0, [.ref qB, .int len2])), (qB, .inl (g.2.1.1, N2, .inl (sp_X2_writeOne_cells6 fa base kn (nI ((E j) + 4 * (KK j))) N f N2 (fil N2 (E j) (KK j) (wa fa base kn N f N2 (sp_X0_length len2 - 16) E KK j f2)) (nI (4 * j)) ((sp_X0_length len2) - 16))))]) [0, 1, 2, 3, 4, 5, 6, 7] rfl
        have hD := hD.sub (ws' := [(hR, .inr (2, [.int base, .ref ql, .ref qp, .ref qa, .int kn, .int (sp_X2_writeOne_end (nI ((E j) + 4 * (KK j))) N f (nI (4 * j)))])), (ql, .inl (g.2.1.2.1, 60, .inl fl)), (qp, .inl (g.2.1.1, 60, .inl fp)), (qa, .inl (g.2.1.1, 60, .inl fa)), (h, .inr (0, [.ref q, .int (nI (4 * n))])), (q, .inl (g.2.1.1, N, .inl f)), (hB, .inr (0, [.ref qB, .int len2])), (qB, .inl (g.2.1.1, N2, .inl (sp_X2_writeOne_cells6 fa base kn (nI ((E j) + 4 * (KK j))) N f N2 (fil N2 (E j) (KK j) (wa fa base kn N f N2 (sp_X0_length len2 - 16) E KK j f2)) (nI (4 * j)) ((sp_X0_length len2) - 16))))]) [0, 1, 2, 3, 4, 5, 6, 7] (by decide) rfl
        refine lv_iinc (v := (nI (j + 1))) (lv' := [(4, .int (nI (j + 1))), (5, .int (nI (4 * j))), (0, .ref hR), (1, .ref h), (2, .ref hB), (3, .int ((sp_X0_length len2) - 16))]) hx hb dX2_writeAll_60 hl (k := 5) rfl (nI_add _ _) (by decide) rfl (fun ls hl => ?_)
        refine lv_goto (tgt := 16) hx hb dX2_writeAll_63 (by decide) ?_
        rw [show (sp_X2_writeOne_end (nI ((E j) + 4 * (KK j))) N f (nI (4 * j))) = nI (E (j + 1)) from (hEe j (k_nle c_0 (by omega) (by omega)))] at hP hD
        exact ih (j + 1) (k_nle c_0 (by omega) (by omega)) (by have := k_nle c_0 (by omega) (by omega); omega) _ _ _ hP hD hS (lv_sub hl [2, 3, 4, 5, 0] rfl)
  rw [show (0 : Int32) = nI (E 0) from (by rw [h0]; rfl)] at hP hD
  exact loop_16 (n - 0 + 1) 0 (Nat.zero_le _) (Nat.lt_succ_self _) _ _ _ hP hD hS (lv_sub hl [2, 3, 4, 1, 0] rfl)
