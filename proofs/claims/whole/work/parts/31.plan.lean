def mlS (N : Nat) (f : Nat → Int32) (j : Nat) (fl : Nat → Int32) : Nat → Int32 := if sp_X5_hasPlace (sp_X0_word N f (nI (4 * j))) = 0 then fl else (if sp_X0_n N f (nI (4 * j)) < 0 then fl else (if nI 60 ≤ sp_X0_n N f (nI (4 * j)) then fl else upd fl (sp_X0_n N f (nI (4 * j))).toNatClampNeg 1))
def ml (N : Nat) (f : Nat → Int32) : Nat → (Nat → Int32) → Nat → Int32
  | 0, fl => kz 0 60 fl
  | j + 1, fl => mlS N f j (ml N f j fl)
theorem vp_z0 : vp_nar .boolean 0 = 0 := rfl
theorem vp_z1 : vp_nar .boolean 1 = 1 := rfl
def pAl (fl : Nat → Int32) (j : Nat) (x : Int32) : Int32 := if fl j = 0 then x else sp_X2_bundleStartFrom x
def pat (N : Nat) (f fl : Nat → Int32) : Nat → Int32
  | 0 => 0
  | j + 1 => sp_X2_firstWritten (pAl fl j (pat N f fl j)) (sp_X0_word N f (nI (4 * j))) + sp_X2_sizeOf (sp_X0_word N f (nI (4 * j)))
def pst (N : Nat) (f fl : Nat → Int32) (j : Nat) : Int32 := pAl fl j (pat N f fl j)
def pln (N : Nat) (f fl : Nat → Int32) (j : Nat) (fp : Nat → Int32) : Nat → Int32 := fun x => if x < j then pst N f fl x else fp x
theorem pln_upd {N : Nat} {f fl : Nat → Int32} {j : Nat} {fp : Nat → Int32} {v : Int32} (hv : v = pst N f fl j) (hj : j < 2 ^ 31) : upd (pln N f fl j fp) (nI j).toNatClampNeg v = pln N f fl (j + 1) fp := by
  funext x
  rw [nI_clamp hj]
  by_cases hx : x = j
  · subst hx
    rw [pk_us, pln, if_pos (Nat.lt_succ_self _), hv]
  · rw [pk_un hx]
    unfold pln
    by_cases h1 : x < j
    · rw [if_pos h1, if_pos (by omega)]
    · rw [if_neg h1, if_neg (by omega)]
theorem pln_0 {N : Nat} {f fl fp : Nat → Int32} : pln N f fl 0 fp = fp := by
  funext x
  unfold pln
  rw [if_neg (by omega)]


set_option maxHeartbeats 4000000 in
set_option maxRecDepth 100000 in
theorem c_X2_markLedTo (l : Launch) (g : KG) (hR : Nat) (ql : Nat) (qp : Nat) (qa : Nat) (fl : Nat → Int32) (fp : Nat → Int32) (fa : Nat → Int32) (base : Int32) (kn : Int32) (en : Int32) (h : Nat) (q : Nat) (N : Nat) (f : Nat → Int32) (n : Nat) (hNn : N < 2 ^ 31) (hn : n ≤ 60) : Cv l g yX2_markLedTo wsX2_markLedTo ({ frames := 2, cells := 0, slots := 0, locals := 42 }) [.ref hR, .ref h] [(hR, .inr (2, [.int base, .ref ql, .ref qp, .ref qa, .int kn, .int en])), (ql, .inl (g.2.1.2.1, 60, .inl fl)), (qp, .inl (g.2.1.1, 60, .inl fp)), (qa, .inl (g.2.1.1, 60, .inl fa)), (h, .inr (0, [.ref q, .int (nI (4 * n))])), (q, .inl (g.2.1.1, N, .inl f))] (fun u => u = [(hR, .inr (2, [.int base, .ref ql, .ref qp, .ref qa, .int kn, .int en])), (ql, .inl (g.2.1.2.1, 60, .inl (ml N f n fl))), (qp, .inl (g.2.1.1, 60, .inl fp)), (qa, .inl (g.2.1.1, 60, .inl fa)), (h, .inr (0, [.ref q, .int (nI (4 * n))])), (q, .inl (g.2.1.1, N, .inl f))]) 0 0 := by
  intro sz
  refine Met.ofW (cc := cX2_markLedTo) (maxL := 4) (ret := none) (by decide) rfl ?_
  intro p e s m args below meth c s₁ B hml hv
  obtain ⟨rfl, hsz, hP, hK, hD0, hE, hN⟩ := hv
  have hx := B.exec
  have hb := B.bytes
  have hr := B.returns
  have hts := atoms_spec (ws := wsX2_markLedTo) B.pre
  have hown : s.vm.findClass RX2 = some m.cls := findClass_of_methodNamed B.named
  have hlocks := B.notSynchronized
  have iX2 : ∀ w ∈ u_ws RX2 TX2 6, w ∈ wsX2_markLedTo := by decide +kernel
  subst hsz
  have hD := hD0.self (sz := s.heap.size)
  generalize hAe : va_A [(hR, .inr (2, [.int base, .ref ql, .ref qp, .ref qa, .int kn, .int en])), (ql, .inl (g.2.1.2.1, 60, .inl fl)), (qp, .inl (g.2.1.1, 60, .inl fp)), (qa, .inl (g.2.1.1, 60, .inl fa)), (h, .inr (0, [.ref q, .int (nI (4 * n))])), (q, .inl (g.2.1.1, N, .inl f))] s.heap.size = A at hD hE ⊢
  have hA : ∀ q : Nat, s.heap.size ≤ q → A q := fun q h => by rw [← hAe]; exact Or.inr h
  have hS : va_S A s.heap s.heap [] := va_S.rf
  have hl := lv_entry ([.ref hR, .ref h]) (n := 4) (Nat.le_of_ble_eq_true rfl)
  rw [lg_entry_eq]
  generalize (lg_sl ([.ref hR, .ref h]) ++ List.replicate (4 - (lg_sl ([.ref hR, .ref h])).length) Slot.unset).toArray = ls at hl ⊢
  have hl : lv_has ls 4 [(0, .ref hR), (1, .ref h)] := hl
  refine lv_iconst (v := 0) hx hb dX2_markLedTo_0 (by decide) ?_
  refine lv_istore_n (lv' := [(2, .int 0), (0, .ref hR), (1, .ref h)]) hx hb dX2_markLedTo_1 rfl hl (by decide) rfl (fun ls hl => ?_)
  have loop_2 : ∀ (K : Nat) (j : Nat) (h2 : j ≤ 60), 60 - j < K → ∀ (H : Heap) (locs : List Loc) (ls : Array Slot), va_P g.1 vwCl [(hR, .inr (2, [.int base, .ref ql, .ref qp, .ref qa, .int kn, .int en])), (ql, .inl (g.2.1.2.1, 60, .inl (kz 0 j fl))), (qp, .inl (g.2.1.1, 60, .inl fp)), (qa, .inl (g.2.1.1, 60, .inl fa)), (h, .inr (0, [.ref q, .int (nI (4 * n))])), (q, .inl (g.2.1.1, N, .inl f))] H → va_D A [(hR, .inr (2, [.int base, .ref ql, .ref qp, .ref qa, .int kn, .int en])), (ql, .inl (g.2.1.2.1, 60, .inl (kz 0 j fl))), (qp, .inl (g.2.1.1, 60, .inl fp)), (qa, .inl (g.2.1.1, 60, .inl fa)), (h, .inr (0, [.ref q, .int (nI (4 * n))])), (q, .inl (g.2.1.1, N, .inl f))] → va_S A s.heap H locs → lv_has ls 4 [(0, .ref hR), (1, .ref h), (2, .int (nI j))] → W p l e (headSpec wsX2_markLedTo ({ frames := 2, cells := 0, slots := 0, locals := 42 })).room s m ([.ref hR, .ref h] : List Value).toArray below meth c H locs 0 0 (MQ below (va_Qv (fun u => u = [(hR, .inr (2, [.int base, .ref ql, .ref qp, .ref qa, .int kn, .int en])), (ql, .inl (g.2.1.2.1, 60, .inl (ml N f n fl))), (qp, .inl (g.2.1.1, 60, .inl fp)), (qa, .inl (g.2.1.1, 60, .inl fa)), (h, .inr (0, [.ref q, .int (nI (4 * n))])), (q, .inl (g.2.1.1, N, .inl f))]) (SB g A) A) ([.ref hR, .ref h] : List Value).toArray s 0 0 A) (F0 m 2 ls []) := by
    intro K
    induction K with
    | zero => intro j h2 hm; exact absurd hm (Nat.not_lt_zero _)
    | succ K ih =>
      intro j h2 hm H locs ls hP hD hS hl
      refine lv_iload_n hx hb dX2_markLedTo_2 rfl (lv_at hl 2 rfl) ?_
      refine lv_aload_n hx hb dX2_markLedTo_3 rfl (lv_at hl 0 rfl) ?_
      refine va_get (D := g.1) (ci := 2) (v := .ref ql) (C := RX2) (T := TX2) (N := 6) hx hb hts iX2 hown hK hP 0 rfl rfl 1 (by decide) (hts (.fieldLink RX2 9 "FaultIsolation$Rewriter" "ledTo" "[Z") (by decide +kernel)) (fun _ h9 => h9) rfl dX2_markLedTo_4 ?_
      refine va_alen (v := nI 60) hx hb hK hP 1 1 rfl rfl rfl dX2_markLedTo_7 ?_
      refine lv_icmp_ge (tgt := 24) hx hb dX2_markLedTo_8 (by decide) (fun c_0 => ?_) (fun c_0 => ?_)
      · skip
        have e60 : j = 60 := Nat.le_antisymm h2 (k_le c_0 (by omega) (by decide))
        subst e60
        refine lv_iconst (v := 0) hx hb dX2_markLedTo_24 (by decide) ?_
        refine lv_istore_n (lv' := [(2, .int 0), (0, .ref hR), (1, .ref h)]) hx hb dX2_markLedTo_25 rfl hl (by decide) rfl (fun ls hl => ?_)
        have loop_26 : ∀ (K : Nat) (j : Nat) (h2 : j ≤ n), n - j < K → ∀ (H : Heap) (locs : List Loc) (ls : Array Slot), va_P g.1 vwCl [(hR, .inr (2, [.int base, .ref ql, .ref qp, .ref qa, .int kn, .int en])), (ql, .inl (g.2.1.2.1, 60, .inl (ml N f j fl))), (qp, .inl (g.2.1.1, 60, .inl fp)), (qa, .inl (g.2.1.1, 60, .inl fa)), (h, .inr (0, [.ref q, .int (nI (4 * n))])), (q, .inl (g.2.1.1, N, .inl f))] H → va_D A [(hR, .inr (2, [.int base, .ref ql, .ref qp, .ref qa, .int kn, .int en])), (ql, .inl (g.2.1.2.1, 60, .inl (ml N f j fl))), (qp, .inl (g.2.1.1, 60, .inl fp)), (qa, .inl (g.2.1.1, 60, .inl fa)), (h, .inr (0, [.ref q, .int (nI (4 * n))])), (q, .inl (g.2.1.1, N, .inl f))] → va_S A s.heap H locs → lv_has ls 4 [(0, .ref hR), (1, .ref h), (2, .int (nI j))] → W p l e (headSpec wsX2_markLedTo ({ frames := 2, cells := 0, slots := 0, locals := 42 })).room s m ([.ref hR, .ref h] : List Value).toArray below meth c H locs 0 0 (MQ below (va_Qv (fun u => u = [(hR, .inr (2, [.int base, .ref ql, .ref qp, .ref qa, .int kn, .int en])), (ql, .inl (g.2.1.2.1, 60, .inl (ml N f n fl))), (qp, .inl (g.2.1.1, 60, .inl fp)), (qa, .inl (g.2.1.1, 60, .inl fa)), (h, .inr (0, [.ref q, .int (nI (4 * n))])), (q, .inl (g.2.1.1, N, .inl f))]) (SB g A) A) ([.ref hR, .ref h] : List Value).toArray s 0 0 A) (F0 m 26 ls []) := by
          intro K
          induction K with
          | zero => intro j h2 hm; exact absurd hm (Nat.not_lt_zero _)
          | succ K ih =>
            intro j h2 hm H locs ls hP hD hS hl
            refine lv_iload_n hx hb dX2_markLedTo_26 rfl (lv_at hl 2 rfl) ?_
            refine lv_aload_n hx hb dX2_markLedTo_27 rfl (lv_at hl 1 rfl) ?_
            refine kiV (As := []) (rest := [.int (nI j)]) (wc := [(h, .inr (0, [.ref q, .int (nI (4 * n))])), (q, .inl (g.2.1.1, N, .inl f))]) (wr := [(hR, .inr (2, [.int base, .ref ql, .ref qp, .ref qa, .int kn, .int en])), (ql, .inl (g.2.1.2.1, 60, .inl (ml N f j fl))), (qp, .inl (g.2.1.1, 60, .inl fp)), (qa, .inl (g.2.1.1, 60, .inl fa))]) ⟨hx, hb, hml, hown, hts⟩ (c_X0_instructions l g h q N f (nI (4 * n)) hNn) (cwV 0 hts gX2_markLedTo_X0_instructions rfl rfl rfl (by decide +kernel) ⟨Nat.le_of_ble_eq_true rfl, Nat.le_of_ble_eq_true rfl⟩) ⟨hK, hP, hD, hS, hA, hE, hN⟩ [4, 5] [0, 1, 2, 3] ⟨rfl, rfl, by decide⟩ (q0 := 4) (ci := 0) rfl rfl rfl rfl hl.1 (Nat.le_of_ble_eq_true rfl) dX2_markLedTo_28 ⟨Nat.le_of_ble_eq_true rfl, Nat.le_of_ble_eq_true rfl⟩ rfl (fun r u H locs hw hP hD hS => ?_)
            obtain ⟨hq, hw⟩ := hw
            subst r
            subst hw
            have hP := hP.sub (ws' := [(hR, .inr (2, [.int base, .ref ql, .ref qp, .ref qa, .int kn, .int en])), (ql, .inl (g.2.1.2.1, 60, .inl (ml N f j fl))), (qp, .inl (g.2.1.1, 60, .inl fp)), (qa, .inl (g.2.1.1, 60, .inl fa)), (h, .inr (0, [.ref q, .int (nI (4 * n))])), (q, .inl (g.2.1.1, N, .inl f))]) [0, 1, 2, 3, 4, 5] rfl
            have hD := hD.sub (ws' := [(hR, .inr (2, [.int base, .ref ql, .ref qp, .ref qa, .int kn, .int en])), (ql, .inl (g.2.1.2.1, 60, .inl (ml N f j fl))), (qp, .inl (g.2.1.1, 60, .inl fp)), (qa, .inl (g.2.1.1, 60, .inl fa)), (h, .inr (0, [.ref q, .int (nI (4 * n))])), (q, .inl (g.2.1.1, N, .inl f))]) [0, 1, 2, 3, 4, 5] (by decide) rfl
            refine lv_topi (fun y9 e9 => ?_)
            rw [show (sp_X0_instructions (nI (4 * n)) : Int32) = nI n from k_ins hn] at e9
            subst e9
            refine lv_icmp_ge (tgt := 81) hx hb dX2_markLedTo_31 (by decide) (fun c_1 => ?_) (fun c_1 => ?_)
            · skip
              exact k_vret hx hb hr hlocks ⟨hK, hP, hD, hS, hA, hE, hN⟩ dX2_markLedTo_81 (Nat.le_of_ble_eq_true rfl) (Nat.le_of_ble_eq_true rfl) (by have e : j = n := Nat.le_antisymm h2 (k_le c_1 (by omega) (by omega)); subst e; rfl)
            · skip
              refine lv_aload_n hx hb dX2_markLedTo_34 rfl (lv_at hl 1 rfl) ?_
              refine lv_iconst (v := 4) hx hb dX2_markLedTo_35 (by decide) ?_
              refine lv_iload_n hx hb dX2_markLedTo_36 rfl (lv_at hl 2 rfl) ?_
              refine lv_imul hx hb dX2_markLedTo_37 ?_
              refine lv_topi (fun y9 e9 => ?_)
              rw [show (4 * (nI j) : Int32) = nI (4 * j) from pk_mul _ _] at e9
              subst e9
              refine kiV (As := [.int (nI (4 * j))]) (rest := []) (wc := [(h, .inr (0, [.ref q, .int (nI (4 * n))])), (q, .inl (g.2.1.1, N, .inl f))]) (wr := [(hR, .inr (2, [.int base, .ref ql, .ref qp, .ref qa, .int kn, .int en])), (ql, .inl (g.2.1.2.1, 60, .inl (ml N f j fl))), (qp, .inl (g.2.1.1, 60, .inl fp)), (qa, .inl (g.2.1.1, 60, .inl fa))]) ⟨hx, hb, hml, hown, hts⟩ (c_X0_n l g h q N f (nI (4 * n)) (nI (4 * j)) hNn) (cwV 1 hts gX2_markLedTo_X0_n rfl rfl rfl (by decide +kernel) ⟨Nat.le_of_ble_eq_true rfl, Nat.le_of_ble_eq_true rfl⟩) ⟨hK, hP, hD, hS, hA, hE, hN⟩ [4, 5] [0, 1, 2, 3] ⟨rfl, rfl, by decide⟩ (q0 := 4) (ci := 0) rfl rfl rfl rfl hl.1 (Nat.le_of_ble_eq_true rfl) dX2_markLedTo_38 ⟨Nat.le_of_ble_eq_true rfl, Nat.le_of_ble_eq_true rfl⟩ rfl (fun r u H locs hw hP hD hS => ?_)
              obtain ⟨hq, hw⟩ := hw
              subst r
              subst hw
              have hP := hP.sub (ws' := [(hR, .inr (2, [.int base, .ref ql, .ref qp, .ref qa, .int kn, .int en])), (ql, .inl (g.2.1.2.1, 60, .inl (ml N f j fl))), (qp, .inl (g.2.1.1, 60, .inl fp)), (qa, .inl (g.2.1.1, 60, .inl fa)), (h, .inr (0, [.ref q, .int (nI (4 * n))])), (q, .inl (g.2.1.1, N, .inl f))]) [0, 1, 2, 3, 4, 5] rfl
              have hD := hD.sub (ws' := [(hR, .inr (2, [.int base, .ref ql, .ref qp, .ref qa, .int kn, .int en])), (ql, .inl (g.2.1.2.1, 60, .inl (ml N f j fl))), (qp, .inl (g.2.1.1, 60, .inl fp)), (qa, .inl (g.2.1.1, 60, .inl fa)), (h, .inr (0, [.ref q, .int (nI (4 * n))])), (q, .inl (g.2.1.1, N, .inl f))]) [0, 1, 2, 3, 4, 5] (by decide) rfl
              refine lv_istore_n (lv' := [(3, .int (sp_X0_n N f (nI (4 * j)))), (0, .ref hR), (1, .ref h), (2, .int (nI j))]) hx hb dX2_markLedTo_41 rfl hl (by decide) rfl (fun ls hl => ?_)
              refine lv_aload_n hx hb dX2_markLedTo_42 rfl (lv_at hl 2 rfl) ?_
              refine lv_iconst (v := 4) hx hb dX2_markLedTo_43 (by decide) ?_
              refine lv_iload_n hx hb dX2_markLedTo_44 rfl (lv_at hl 3 rfl) ?_
              refine lv_imul hx hb dX2_markLedTo_45 ?_
              refine lv_topi (fun y9 e9 => ?_)
              rw [show (4 * (nI j) : Int32) = nI (4 * j) from pk_mul _ _] at e9
              subst e9
              refine kiV (As := [.int (nI (4 * j))]) (rest := []) (wc := [(h, .inr (0, [.ref q, .int (nI (4 * n))])), (q, .inl (g.2.1.1, N, .inl f))]) (wr := [(hR, .inr (2, [.int base, .ref ql, .ref qp, .ref qa, .int kn, .int en])), (ql, .inl (g.2.1.2.1, 60, .inl (ml N f j fl))), (qp, .inl (g.2.1.1, 60, .inl fp)), (qa, .inl (g.2.1.1, 60, .inl fa))]) ⟨hx, hb, hml, hown, hts⟩ (c_X0_word l g h q N f (nI (4 * n)) (nI (4 * j)) hNn) (cwV 1 hts gX2_markLedTo_X0_word rfl rfl rfl (by decide +kernel) ⟨Nat.le_of_ble_eq_true rfl, Nat.le_of_ble_eq_true rfl⟩) ⟨hK, hP, hD, hS, hA, hE, hN⟩ [4, 5] [0, 1, 2, 3] ⟨rfl, rfl, by decide⟩ (q0 := 4) (ci := 0) rfl rfl rfl rfl hl.1 (Nat.le_of_ble_eq_true rfl) dX2_markLedTo_46 ⟨Nat.le_of_ble_eq_true rfl, Nat.le_of_ble_eq_true rfl⟩ rfl (fun r u H locs hw hP hD hS => ?_)
              obtain ⟨hq, hw⟩ := hw
              subst r
              subst hw
              have hP := hP.sub (ws' := [(hR, .inr (2, [.int base, .ref ql, .ref qp, .ref qa, .int kn, .int en])), (ql, .inl (g.2.1.2.1, 60, .inl (ml N f j fl))), (qp, .inl (g.2.1.1, 60, .inl fp)), (qa, .inl (g.2.1.1, 60, .inl fa)), (h, .inr (0, [.ref q, .int (nI (4 * n))])), (q, .inl (g.2.1.1, N, .inl f))]) [0, 1, 2, 3, 4, 5] rfl
              have hD := hD.sub (ws' := [(hR, .inr (2, [.int base, .ref ql, .ref qp, .ref qa, .int kn, .int en])), (ql, .inl (g.2.1.2.1, 60, .inl (ml N f j fl))), (qp, .inl (g.2.1.1, 60, .inl fp)), (qa, .inl (g.2.1.1, 60, .inl fa)), (h, .inr (0, [.ref q, .int (nI (4 * n))])), (q, .inl (g.2.1.1, N, .inl f))]) [0, 1, 2, 3, 4, 5] (by decide) rfl
              refine kiSN (As := [.int (sp_X0_word N f (nI (4 * j)))]) (rest := []) (wc := []) (wr := [(hR, .inr (2, [.int base, .ref ql, .ref qp, .ref qa, .int kn, .int en])), (ql, .inl (g.2.1.2.1, 60, .inl (ml N f j fl))), (qp, .inl (g.2.1.1, 60, .inl fp)), (qa, .inl (g.2.1.1, 60, .inl fa)), (h, .inr (0, [.ref q, .int (nI (4 * n))])), (q, .inl (g.2.1.1, N, .inl f))]) ⟨hx, hb, hml, hown, hts⟩ (c_X5_hasPlace l g (sp_X0_word N f (nI (4 * j)))) ⟨va_cnB (host := RX5) 1 hts gX2_markLedTo_X5_hasPlace_n76 rfl rfl rfl (hN.1 (RX2, 76, yX5_hasPlace) (List.mem_of_getElem? (i := 4) rfl)) (hts (.initialized RX5) (by decide +kernel)) (by decide +kernel) ⟨Nat.le_of_ble_eq_true rfl, Nat.le_of_ble_eq_true rfl⟩, hts (.static yX5_hasPlace) (by decide +kernel), trivial⟩ ⟨hK, hP, hD, hS, hA, hE, hN⟩ [] [0, 1, 2, 3, 4, 5] ⟨rfl, rfl, by decide⟩ rfl hl.1 (Nat.le_of_ble_eq_true rfl) dX2_markLedTo_49 ⟨Nat.le_of_ble_eq_true rfl, Nat.le_of_ble_eq_true rfl⟩ rfl (fun r u H locs hw hP hD hS => ?_)
              obtain ⟨hq, hw⟩ := hw
              subst r
              subst hw
              have hP := hP.sub (ws' := [(hR, .inr (2, [.int base, .ref ql, .ref qp, .ref qa, .int kn, .int en])), (ql, .inl (g.2.1.2.1, 60, .inl (ml N f j fl))), (qp, .inl (g.2.1.1, 60, .inl fp)), (qa, .inl (g.2.1.1, 60, .inl fa)), (h, .inr (0, [.ref q, .int (nI (4 * n))])), (q, .inl (g.2.1.1, N, .inl f))]) [0, 1, 2, 3, 4, 5] rfl
              have hD := hD.sub (ws' := [(hR, .inr (2, [.int base, .ref ql, .ref qp, .ref qa, .int kn, .int en])), (ql, .inl (g.2.1.2.1, 60, .inl (ml N f j fl))), (qp, .inl (g.2.1.1, 60, .inl fp)), (qa, .inl (g.2.1.1, 60, .inl fa)), (h, .inr (0, [.ref q, .int (nI (4 * n))])), (q, .inl (g.2.1.1, N, .inl f))]) [0, 1, 2, 3, 4, 5] (by decide) rfl
              refine lv_if_eq (tgt := 75) hx hb dX2_markLedTo_52 (by decide) (fun c_2 => ?_) (fun c_2 => ?_)
              · skip
                refine lv_iinc (v := (nI (j + 1))) (lv' := [(2, .int (nI (j + 1))), (3, .int (sp_X0_n N f (nI (4 * j)))), (0, .ref hR), (1, .ref h)]) hx hb dX2_markLedTo_75 hl (k := 3) rfl (nI_add _ _) (by decide) rfl (fun ls hl => ?_)
                refine lv_goto (tgt := 26) hx hb dX2_markLedTo_78 (by decide) ?_
                rw [show (ml N f j fl : Nat → Int32) = ml N f (j + 1) fl from (by simp only [vp_z1, ml, mlS, if_neg c_1, if_pos c_2])] at hP hD
                exact ih (j + 1) (k_nle c_1 (by omega) (by omega)) (by have := k_nle c_1 (by omega) (by omega); omega) _ _ _ hP hD hS (lv_sub hl [2, 3, 0] rfl)
              · skip
                refine lv_iload_n hx hb dX2_markLedTo_55 rfl (lv_at hl 0 rfl) ?_
                refine lv_if_lt (tgt := 75) hx hb dX2_markLedTo_56 (by decide) (fun c_3 => ?_) (fun c_3 => ?_)
                · skip
                  refine lv_iinc (v := (nI (j + 1))) (lv' := [(2, .int (nI (j + 1))), (3, .int (sp_X0_n N f (nI (4 * j)))), (0, .ref hR), (1, .ref h)]) hx hb dX2_markLedTo_75 hl (k := 3) rfl (nI_add _ _) (by decide) rfl (fun ls hl => ?_)
                  refine lv_goto (tgt := 26) hx hb dX2_markLedTo_78 (by decide) ?_
                  rw [show (ml N f j fl : Nat → Int32) = ml N f (j + 1) fl from (by simp only [vp_z1, ml, mlS, if_neg c_1, if_neg c_2, if_pos c_3])] at hP hD
                  exact ih (j + 1) (k_nle c_1 (by omega) (by omega)) (by have := k_nle c_1 (by omega) (by omega); omega) _ _ _ hP hD hS (lv_sub hl [2, 3, 0] rfl)
                · skip
                  refine lv_iload_n hx hb dX2_markLedTo_59 rfl (lv_at hl 0 rfl) ?_
                  refine lv_aload_n hx hb dX2_markLedTo_60 rfl (lv_at hl 1 rfl) ?_
                  refine va_get (D := g.1) (ci := 2) (v := .ref ql) (C := RX2) (T := TX2) (N := 6) hx hb hts iX2 hown hK hP 0 rfl rfl 1 (by decide) (hts (.fieldLink RX2 9 "FaultIsolation$Rewriter" "ledTo" "[Z") (by decide +kernel)) (fun _ h9 => h9) rfl dX2_markLedTo_61 ?_
                  refine va_alen (v := nI 60) hx hb hK hP 1 1 rfl rfl rfl dX2_markLedTo_64 ?_
                  refine lv_icmp_ge (tgt := 75) hx hb dX2_markLedTo_65 (by decide) (fun c_4 => ?_) (fun c_4 => ?_)
                  · skip
                    refine lv_iinc (v := (nI (j + 1))) (lv' := [(2, .int (nI (j + 1))), (3, .int (sp_X0_n N f (nI (4 * j)))), (0, .ref hR), (1, .ref h)]) hx hb dX2_markLedTo_75 hl (k := 3) rfl (nI_add _ _) (by decide) rfl (fun ls hl => ?_)
                    refine lv_goto (tgt := 26) hx hb dX2_markLedTo_78 (by decide) ?_
                    rw [show (ml N f j fl : Nat → Int32) = ml N f (j + 1) fl from (by simp only [vp_z1, ml, mlS, if_neg c_1, if_neg c_2, if_neg c_3, if_pos c_4])] at hP hD
                    exact ih (j + 1) (k_nle c_1 (by omega) (by omega)) (by have := k_nle c_1 (by omega) (by omega); omega) _ _ _ hP hD hS (lv_sub hl [2, 3, 0] rfl)
                  · skip
                    refine lv_aload_n hx hb dX2_markLedTo_68 rfl (lv_at hl 1 rfl) ?_
                    refine va_get (D := g.1) (ci := 2) (v := .ref ql) (C := RX2) (T := TX2) (N := 6) hx hb hts iX2 hown hK hP 0 rfl rfl 1 (by decide) (hts (.fieldLink RX2 9 "FaultIsolation$Rewriter" "ledTo" "[Z") (by decide +kernel)) (fun _ h9 => h9) rfl dX2_markLedTo_69 ?_
                    refine lv_iload_n hx hb dX2_markLedTo_72 rfl (lv_at hl 0 rfl) ?_
                    refine lv_iconst (v := 1) hx hb dX2_markLedTo_73 (by decide) ?_
                    refine va_zast hx hb hK hP hD hS 1 1 rfl rfl (k_in c_3 c_4 (by decide)) dX2_markLedTo_74 (fun H locs hP hD hS => ?_)
                    have hP : va_P g.1 vwCl [(hR, .inr (2, [.int base, .ref ql, .ref qp, .ref qa, .int kn, .int en])), (ql, .inl (g.2.1.2.1, 60, .inl (upd (ml N f j fl) (sp_X0_n N f (nI (4 * j))).toNatClampNeg (vp_nar .boolean 1)))), (qp, .inl (g.2.1.1, 60, .inl fp)), (qa, .inl (g.2.1.1, 60, .inl fa)), (h, .inr (0, [.ref q, .int (nI (4 * n))])), (q, .inl (g.2.1.1, N, .inl f))] H := hP
                    have hD : va_D A [(hR, .inr (2, [.int base, .ref ql, .ref qp, .ref qa, .int kn, .int en])), (ql, .inl (g.2.1.2.1, 60, .inl (upd (ml N f j fl) (sp_X0_n N f (nI (4 * j))).toNatClampNeg (vp_nar .boolean 1)))), (qp, .inl (g.2.1.1, 60, .inl fp)), (qa, .inl (g.2.1.1, 60, .inl fa)), (h, .inr (0, [.ref q, .int (nI (4 * n))])), (q, .inl (g.2.1.1, N, .inl f))] := hD
                    refine lv_iinc (v := (nI (j + 1))) (lv' := [(2, .int (nI (j + 1))), (3, .int (sp_X0_n N f (nI (4 * j)))), (0, .ref hR), (1, .ref h)]) hx hb dX2_markLedTo_75 hl (k := 3) rfl (nI_add _ _) (by decide) rfl (fun ls hl => ?_)
                    refine lv_goto (tgt := 26) hx hb dX2_markLedTo_78 (by decide) ?_
                    rw [show (upd (ml N f j fl) (sp_X0_n N f (nI (4 * j))).toNatClampNeg (vp_nar .boolean 1) : Nat → Int32) = ml N f (j + 1) fl from (by simp only [vp_z1, ml, mlS, if_neg c_1, if_neg c_2, if_neg c_3, if_neg c_4])] at hP hD
                    exact ih (j + 1) (k_nle c_1 (by omega) (by omega)) (by have := k_nle c_1 (by omega) (by omega); omega) _ _ _ hP hD hS (lv_sub hl [2, 3, 0] rfl)
        exact loop_26 (n - 0 + 1) 0 (Nat.zero_le _) (Nat.lt_succ_self _) _ _ _ hP hD hS (lv_sub hl [1, 2, 0] rfl)
      · skip
        refine lv_aload_n hx hb dX2_markLedTo_11 rfl (lv_at hl 0 rfl) ?_
        refine va_get (D := g.1) (ci := 2) (v := .ref ql) (C := RX2) (T := TX2) (N := 6) hx hb hts iX2 hown hK hP 0 rfl rfl 1 (by decide) (hts (.fieldLink RX2 9 "FaultIsolation$Rewriter" "ledTo" "[Z") (by decide +kernel)) (fun _ h9 => h9) rfl dX2_markLedTo_12 ?_
        refine lv_iload_n hx hb dX2_markLedTo_15 rfl (lv_at hl 2 rfl) ?_
        refine lv_iconst (v := 0) hx hb dX2_markLedTo_16 (by decide) ?_
        refine va_zast hx hb hK hP hD hS 1 1 rfl rfl (vp_in_nI (k_nle c_0 (by omega) (by decide)) (by decide)) dX2_markLedTo_17 (fun H locs hP hD hS => ?_)
        have hP : va_P g.1 vwCl [(hR, .inr (2, [.int base, .ref ql, .ref qp, .ref qa, .int kn, .int en])), (ql, .inl (g.2.1.2.1, 60, .inl (upd (kz 0 j fl) (nI j).toNatClampNeg (vp_nar .boolean 0)))), (qp, .inl (g.2.1.1, 60, .inl fp)), (qa, .inl (g.2.1.1, 60, .inl fa)), (h, .inr (0, [.ref q, .int (nI (4 * n))])), (q, .inl (g.2.1.1, N, .inl f))] H := hP
        have hD : va_D A [(hR, .inr (2, [.int base, .ref ql, .ref qp, .ref qa, .int kn, .int en])), (ql, .inl (g.2.1.2.1, 60, .inl (upd (kz 0 j fl) (nI j).toNatClampNeg (vp_nar .boolean 0)))), (qp, .inl (g.2.1.1, 60, .inl fp)), (qa, .inl (g.2.1.1, 60, .inl fa)), (h, .inr (0, [.ref q, .int (nI (4 * n))])), (q, .inl (g.2.1.1, N, .inl f))] := hD
        refine lv_iinc (v := (nI (j + 1))) (lv' := [(2, .int (nI (j + 1))), (0, .ref hR), (1, .ref h)]) hx hb dX2_markLedTo_18 hl (k := 2) rfl (nI_add _ _) (by decide) rfl (fun ls hl => ?_)
        refine lv_goto (tgt := 2) hx hb dX2_markLedTo_21 (by decide) ?_
        rw [show (upd (kz 0 j fl) (nI j).toNatClampNeg (vp_nar .boolean 0) : Nat → Int32) = kz 0 (j + 1) fl from (by rw [vp_z0]; exact kz_upd (Nat.zero_le _) (by omega))] at hP hD
        exact ih (j + 1) (k_nle c_0 (by omega) (by decide)) (by have := k_nle c_0 (by omega) (by decide); omega) _ _ _ hP hD hS (lv_sub hl [1, 2, 0] rfl)
  rw [show (fl : Nat → Int32) = kz 0 0 fl from kz_0.symm] at hP hD
  exact loop_2 (60 - 0 + 1) 0 (Nat.zero_le _) (Nat.lt_succ_self _) _ _ _ hP hD hS (lv_sub hl [1, 2, 0] rfl)

set_option maxHeartbeats 4000000 in
set_option maxRecDepth 100000 in
theorem c_X2_plan (l : Launch) (g : KG) (hR : Nat) (ql : Nat) (qp : Nat) (qa : Nat) (fl : Nat → Int32) (fp : Nat → Int32) (fa : Nat → Int32) (base : Int32) (kn : Int32) (en : Int32) (h : Nat) (q : Nat) (N : Nat) (f : Nat → Int32) (n : Nat) (hNn : N < 2 ^ 31) (hn : n ≤ 60) : Ci l g yX2_plan wsX2_plan ({ frames := 2, cells := 0, slots := 0, locals := 42 }) [.ref hR, .ref h] [(hR, .inr (2, [.int base, .ref ql, .ref qp, .ref qa, .int kn, .int en])), (ql, .inl (g.2.1.2.1, 60, .inl fl)), (qp, .inl (g.2.1.1, 60, .inl fp)), (qa, .inl (g.2.1.1, 60, .inl fa)), (h, .inr (0, [.ref q, .int (nI (4 * n))])), (q, .inl (g.2.1.1, N, .inl f))] (fun r u => r = pat N f fl n ∧ u = [(hR, .inr (2, [.int base, .ref ql, .ref qp, .ref qa, .int kn, .int en])), (ql, .inl (g.2.1.2.1, 60, .inl fl)), (qp, .inl (g.2.1.1, 60, .inl (pln N f fl n fp))), (qa, .inl (g.2.1.1, 60, .inl fa)), (h, .inr (0, [.ref q, .int (nI (4 * n))])), (q, .inl (g.2.1.1, N, .inl f))]) 0 0 := by
  intro sz
  refine Met.ofW (cc := cX2_plan) (maxL := 5) (ret := (some .int)) (by decide) rfl ?_
  intro p e s m args below meth c s₁ B hml hv
  obtain ⟨rfl, hsz, hP, hK, hD0, hE, hN⟩ := hv
  have hx := B.exec
  have hb := B.bytes
  have hr := B.returns
  have hts := atoms_spec (ws := wsX2_plan) B.pre
  have hown : s.vm.findClass RX2 = some m.cls := findClass_of_methodNamed B.named
  have hlocks := B.notSynchronized
  have iX2 : ∀ w ∈ u_ws RX2 TX2 6, w ∈ wsX2_plan := by decide +kernel
  subst hsz
  have hD := hD0.self (sz := s.heap.size)
  generalize hAe : va_A [(hR, .inr (2, [.int base, .ref ql, .ref qp, .ref qa, .int kn, .int en])), (ql, .inl (g.2.1.2.1, 60, .inl fl)), (qp, .inl (g.2.1.1, 60, .inl fp)), (qa, .inl (g.2.1.1, 60, .inl fa)), (h, .inr (0, [.ref q, .int (nI (4 * n))])), (q, .inl (g.2.1.1, N, .inl f))] s.heap.size = A at hD hE ⊢
  have hA : ∀ q : Nat, s.heap.size ≤ q → A q := fun q h => by rw [← hAe]; exact Or.inr h
  have hS : va_S A s.heap s.heap [] := va_S.rf
  have hl := lv_entry ([.ref hR, .ref h]) (n := 5) (Nat.le_of_ble_eq_true rfl)
  rw [lg_entry_eq]
  generalize (lg_sl ([.ref hR, .ref h]) ++ List.replicate (5 - (lg_sl ([.ref hR, .ref h])).length) Slot.unset).toArray = ls at hl ⊢
  have hl : lv_has ls 5 [(0, .ref hR), (1, .ref h)] := hl
  refine lv_iconst (v := 0) hx hb dX2_plan_0 (by decide) ?_
  refine lv_istore_n (lv' := [(2, .int 0), (0, .ref hR), (1, .ref h)]) hx hb dX2_plan_1 rfl hl (by decide) rfl (fun ls hl => ?_)
  refine lv_iconst (v := 0) hx hb dX2_plan_2 (by decide) ?_
  refine lv_istore_n (lv' := [(3, .int 0), (2, .int 0), (0, .ref hR), (1, .ref h)]) hx hb dX2_plan_3 rfl hl (by decide) rfl (fun ls hl => ?_)
  have loop_4 : ∀ (K : Nat) (j : Nat) (h2 : j ≤ n), n - j < K → ∀ (H : Heap) (locs : List Loc) (ls : Array Slot), va_P g.1 vwCl [(hR, .inr (2, [.int base, .ref ql, .ref qp, .ref qa, .int kn, .int en])), (ql, .inl (g.2.1.2.1, 60, .inl fl)), (qp, .inl (g.2.1.1, 60, .inl (pln N f fl j fp))), (qa, .inl (g.2.1.1, 60, .inl fa)), (h, .inr (0, [.ref q, .int (nI (4 * n))])), (q, .inl (g.2.1.1, N, .inl f))] H → va_D A [(hR, .inr (2, [.int base, .ref ql, .ref qp, .ref qa, .int kn, .int en])), (ql, .inl (g.2.1.2.1, 60, .inl fl)), (qp, .inl (g.2.1.1, 60, .inl (pln N f fl j fp))), (qa, .inl (g.2.1.1, 60, .inl fa)), (h, .inr (0, [.ref q, .int (nI (4 * n))])), (q, .inl (g.2.1.1, N, .inl f))] → va_S A s.heap H locs → lv_has ls 5 [(0, .ref hR), (1, .ref h), (2, .int (pat N f fl j)), (3, .int (nI j))] → W p l e (headSpec wsX2_plan ({ frames := 2, cells := 0, slots := 0, locals := 42 })).room s m ([.ref hR, .ref h] : List Value).toArray below meth c H locs 0 0 (MQ below (va_Qi (fun r u => r = pat N f fl n ∧ u = [(hR, .inr (2, [.int base, .ref ql, .ref qp, .ref qa, .int kn, .int en])), (ql, .inl (g.2.1.2.1, 60, .inl fl)), (qp, .inl (g.2.1.1, 60, .inl (pln N f fl n fp))), (qa, .inl (g.2.1.1, 60, .inl fa)), (h, .inr (0, [.ref q, .int (nI (4 * n))])), (q, .inl (g.2.1.1, N, .inl f))]) (SB g A) A) ([.ref hR, .ref h] : List Value).toArray s 0 0 A) (F0 m 4 ls []) := by
    intro K
    induction K with
    | zero => intro j h2 hm; exact absurd hm (Nat.not_lt_zero _)
    | succ K ih =>
      intro j h2 hm H locs ls hP hD hS hl
      refine lv_iload_n hx hb dX2_plan_4 rfl (lv_at hl 3 rfl) ?_
      refine lv_aload_n hx hb dX2_plan_5 rfl (lv_at hl 1 rfl) ?_
      refine kiV (As := []) (rest := [.int (nI j)]) (wc := [(h, .inr (0, [.ref q, .int (nI (4 * n))])), (q, .inl (g.2.1.1, N, .inl f))]) (wr := [(hR, .inr (2, [.int base, .ref ql, .ref qp, .ref qa, .int kn, .int en])), (ql, .inl (g.2.1.2.1, 60, .inl fl)), (qp, .inl (g.2.1.1, 60, .inl (pln N f fl j fp))), (qa, .inl (g.2.1.1, 60, .inl fa))]) ⟨hx, hb, hml, hown, hts⟩ (c_X0_instructions l g h q N f (nI (4 * n)) hNn) (cwV 0 hts gX2_plan_X0_instructions rfl rfl rfl (by decide +kernel) ⟨Nat.le_of_ble_eq_true rfl, Nat.le_of_ble_eq_true rfl⟩) ⟨hK, hP, hD, hS, hA, hE, hN⟩ [4, 5] [0, 1, 2, 3] ⟨rfl, rfl, by decide⟩ (q0 := 4) (ci := 0) rfl rfl rfl rfl hl.1 (Nat.le_of_ble_eq_true rfl) dX2_plan_6 ⟨Nat.le_of_ble_eq_true rfl, Nat.le_of_ble_eq_true rfl⟩ rfl (fun r u H locs hw hP hD hS => ?_)
      obtain ⟨hq, hw⟩ := hw
      subst r
      subst hw
      have hP := hP.sub (ws' := [(hR, .inr (2, [.int base, .ref ql, .ref qp, .ref qa, .int kn, .int en])), (ql, .inl (g.2.1.2.1, 60, .inl fl)), (qp, .inl (g.2.1.1, 60, .inl (pln N f fl j fp))), (qa, .inl (g.2.1.1, 60, .inl fa)), (h, .inr (0, [.ref q, .int (nI (4 * n))])), (q, .inl (g.2.1.1, N, .inl f))]) [0, 1, 2, 3, 4, 5] rfl
      have hD := hD.sub (ws' := [(hR, .inr (2, [.int base, .ref ql, .ref qp, .ref qa, .int kn, .int en])), (ql, .inl (g.2.1.2.1, 60, .inl fl)), (qp, .inl (g.2.1.1, 60, .inl (pln N f fl j fp))), (qa, .inl (g.2.1.1, 60, .inl fa)), (h, .inr (0, [.ref q, .int (nI (4 * n))])), (q, .inl (g.2.1.1, N, .inl f))]) [0, 1, 2, 3, 4, 5] (by decide) rfl
      refine lv_topi (fun y9 e9 => ?_)
      rw [show (sp_X0_instructions (nI (4 * n)) : Int32) = nI n from k_ins hn] at e9
      subst e9
      refine lv_icmp_ge (tgt := 79) hx hb dX2_plan_9 (by decide) (fun c_0 => ?_) (fun c_0 => ?_)
      · skip
        refine lv_iload_n hx hb dX2_plan_79 rfl (lv_at hl 2 rfl) ?_
        exact k_iret hx hb hr hlocks ⟨hK, hP, hD, hS, hA, hE, hN⟩ rfl dX2_plan_80 (Nat.le_of_ble_eq_true rfl) (Nat.le_of_ble_eq_true rfl) (by have e : j = n := Nat.le_antisymm h2 (k_le c_0 (by omega) (by omega)); subst e; exact ⟨rfl, rfl⟩)
      · skip
        refine lv_iload_n hx hb dX2_plan_12 rfl (lv_at hl 3 rfl) ?_
        refine lv_aload_n hx hb dX2_plan_13 rfl (lv_at hl 0 rfl) ?_
        refine va_get (D := g.1) (ci := 2) (v := .ref qp) (C := RX2) (T := TX2) (N := 6) hx hb hts iX2 hown hK hP 0 rfl rfl 2 (by decide) (hts (.fieldLink RX2 15 "FaultIsolation$Rewriter" "planned" "[I") (by decide +kernel)) (fun _ h9 => h9) rfl dX2_plan_14 ?_
        refine va_alen (v := nI 60) hx hb hK hP 2 0 rfl rfl rfl dX2_plan_17 ?_
        refine lv_icmp_ge (tgt := 79) hx hb dX2_plan_18 (by decide) (fun c_1 => ?_) (fun c_1 => ?_)
        · skip
          refine lv_iload_n hx hb dX2_plan_79 rfl (lv_at hl 2 rfl) ?_
          exact k_iret hx hb hr hlocks ⟨hK, hP, hD, hS, hA, hE, hN⟩ rfl dX2_plan_80 (Nat.le_of_ble_eq_true rfl) (Nat.le_of_ble_eq_true rfl) (by have e1 := k_nle c_0 (by omega) (by omega); have e2 := k_le c_1 (by omega) (by decide); omega)
        · skip
          refine lv_iload_n hx hb dX2_plan_21 rfl (lv_at hl 3 rfl) ?_
          refine lv_aload_n hx hb dX2_plan_22 rfl (lv_at hl 0 rfl) ?_
          refine va_get (D := g.1) (ci := 2) (v := .ref ql) (C := RX2) (T := TX2) (N := 6) hx hb hts iX2 hown hK hP 0 rfl rfl 1 (by decide) (hts (.fieldLink RX2 9 "FaultIsolation$Rewriter" "ledTo" "[Z") (by decide +kernel)) (fun _ h9 => h9) rfl dX2_plan_23 ?_
          refine va_alen (v := nI 60) hx hb hK hP 1 1 rfl rfl rfl dX2_plan_26 ?_
          refine lv_icmp_ge (tgt := 44) hx hb dX2_plan_27 (by decide) (fun c_2 => absurd c_2 c_1) (fun _ => ?_)
          refine lv_aload_n hx hb dX2_plan_30 rfl (lv_at hl 0 rfl) ?_
          refine va_get (D := g.1) (ci := 2) (v := .ref ql) (C := RX2) (T := TX2) (N := 6) hx hb hts iX2 hown hK hP 0 rfl rfl 1 (by decide) (hts (.fieldLink RX2 9 "FaultIsolation$Rewriter" "ledTo" "[Z") (by decide +kernel)) (fun _ h9 => h9) rfl dX2_plan_31 ?_
          refine lv_iload_n hx hb dX2_plan_34 rfl (lv_at hl 3 rfl) ?_
          refine va_zald hx hb hK hP 1 1 rfl rfl (vp_in_nI (by have := k_nle c_0 (by omega) (by omega); omega) (by decide)) dX2_plan_35 ?_
          refine lv_topi (fun y9 e9 => ?_)
          rw [show (fl (nI j).toNatClampNeg : Int32) = fl j from (congrArg fl (nI_clamp (by omega)))] at e9
          subst e9
          refine lv_if_eq (tgt := 44) hx hb dX2_plan_36 (by decide) (fun c_3 => ?_) (fun c_3 => ?_)
          · skip
            refine lv_aload_n hx hb dX2_plan_44 rfl (lv_at hl 0 rfl) ?_
            refine va_get (D := g.1) (ci := 2) (v := .ref qp) (C := RX2) (T := TX2) (N := 6) hx hb hts iX2 hown hK hP 0 rfl rfl 2 (by decide) (hts (.fieldLink RX2 15 "FaultIsolation$Rewriter" "planned" "[I") (by decide +kernel)) (fun _ h9 => h9) rfl dX2_plan_45 ?_
            refine lv_iload_n hx hb dX2_plan_48 rfl (lv_at hl 3 rfl) ?_
            refine lv_iload_n hx hb dX2_plan_49 rfl (lv_at hl 2 rfl) ?_
            refine va_iast hx hb hK hP hD hS 2 0 rfl rfl (vp_in_nI (by have := k_nle c_0 (by omega) (by omega); omega) (by decide)) dX2_plan_50 (fun H locs hP hD hS => ?_)
            have hP : va_P g.1 vwCl [(hR, .inr (2, [.int base, .ref ql, .ref qp, .ref qa, .int kn, .int en])), (ql, .inl (g.2.1.2.1, 60, .inl fl)), (qp, .inl (g.2.1.1, 60, .inl (upd (pln N f fl j fp) (nI j).toNatClampNeg (pat N f fl j)))), (qa, .inl (g.2.1.1, 60, .inl fa)), (h, .inr (0, [.ref q, .int (nI (4 * n))])), (q, .inl (g.2.1.1, N, .inl f))] H := hP
            have hD : va_D A [(hR, .inr (2, [.int base, .ref ql, .ref qp, .ref qa, .int kn, .int en])), (ql, .inl (g.2.1.2.1, 60, .inl fl)), (qp, .inl (g.2.1.1, 60, .inl (upd (pln N f fl j fp) (nI j).toNatClampNeg (pat N f fl j)))), (qa, .inl (g.2.1.1, 60, .inl fa)), (h, .inr (0, [.ref q, .int (nI (4 * n))])), (q, .inl (g.2.1.1, N, .inl f))] := hD
            refine lv_aload_n hx hb dX2_plan_51 rfl (lv_at hl 1 rfl) ?_
            refine lv_iconst (v := 4) hx hb dX2_plan_52 (by decide) ?_
            refine lv_iload_n hx hb dX2_plan_53 rfl (lv_at hl 3 rfl) ?_
            refine lv_imul hx hb dX2_plan_54 ?_
            refine lv_topi (fun y9 e9 => ?_)
            rw [show (4 * (nI j) : Int32) = nI (4 * j) from pk_mul _ _] at e9
            subst e9
            refine kiV (As := [.int (nI (4 * j))]) (rest := []) (wc := [(h, .inr (0, [.ref q, .int (nI (4 * n))])), (q, .inl (g.2.1.1, N, .inl f))]) (wr := [(hR, .inr (2, [.int base, .ref ql, .ref qp, .ref qa, .int kn, .int en])), (ql, .inl (g.2.1.2.1, 60, .inl fl)), (qp, .inl (g.2.1.1, 60, .inl (upd (pln N f fl j fp) (nI j).toNatClampNeg (pat N f fl j)))), (qa, .inl (g.2.1.1, 60, .inl fa))]) ⟨hx, hb, hml, hown, hts⟩ (c_X0_word l g h q N f (nI (4 * n)) (nI (4 * j)) hNn) (cwV 1 hts gX2_plan_X0_word rfl rfl rfl (by decide +kernel) ⟨Nat.le_of_ble_eq_true rfl, Nat.le_of_ble_eq_true rfl⟩) ⟨hK, hP, hD, hS, hA, hE, hN⟩ [4, 5] [0, 1, 2, 3] ⟨rfl, rfl, by decide⟩ (q0 := 4) (ci := 0) rfl rfl rfl rfl hl.1 (Nat.le_of_ble_eq_true rfl) dX2_plan_55 ⟨Nat.le_of_ble_eq_true rfl, Nat.le_of_ble_eq_true rfl⟩ rfl (fun r u H locs hw hP hD hS => ?_)
            obtain ⟨hq, hw⟩ := hw
            subst r
            subst hw
            have hP := hP.sub (ws' := [(hR, .inr (2, [.int base, .ref ql, .ref qp, .ref qa, .int kn, .int en])), (ql, .inl (g.2.1.2.1, 60, .inl fl)), (qp, .inl (g.2.1.1, 60, .inl (upd (pln N f fl j fp) (nI j).toNatClampNeg (pat N f fl j)))), (qa, .inl (g.2.1.1, 60, .inl fa)), (h, .inr (0, [.ref q, .int (nI (4 * n))])), (q, .inl (g.2.1.1, N, .inl f))]) [0, 1, 2, 3, 4, 5] rfl
            have hD := hD.sub (ws' := [(hR, .inr (2, [.int base, .ref ql, .ref qp, .ref qa, .int kn, .int en])), (ql, .inl (g.2.1.2.1, 60, .inl fl)), (qp, .inl (g.2.1.1, 60, .inl (upd (pln N f fl j fp) (nI j).toNatClampNeg (pat N f fl j)))), (qa, .inl (g.2.1.1, 60, .inl fa)), (h, .inr (0, [.ref q, .int (nI (4 * n))])), (q, .inl (g.2.1.1, N, .inl f))]) [0, 1, 2, 3, 4, 5] (by decide) rfl
            refine lv_istore (lv' := [(4, .int (sp_X0_word N f (nI (4 * j)))), (0, .ref hR), (1, .ref h), (2, .int (pat N f fl j)), (3, .int (nI j))]) hx hb dX2_plan_58 hl (by decide) rfl (fun ls hl => ?_)
            refine lv_iload_n hx hb dX2_plan_60 rfl (lv_at hl 3 rfl) ?_
            refine lv_iload hx hb dX2_plan_61 (lv_at hl 0 rfl) ?_
            refine kiS (As := [.int (pat N f fl j), .int (sp_X0_word N f (nI (4 * j)))]) (rest := []) (wc := []) (wr := [(hR, .inr (2, [.int base, .ref ql, .ref qp, .ref qa, .int kn, .int en])), (ql, .inl (g.2.1.2.1, 60, .inl fl)), (qp, .inl (g.2.1.1, 60, .inl (upd (pln N f fl j fp) (nI j).toNatClampNeg (pat N f fl j)))), (qa, .inl (g.2.1.1, 60, .inl fa)), (h, .inr (0, [.ref q, .int (nI (4 * n))])), (q, .inl (g.2.1.1, N, .inl f))]) ⟨hx, hb, hml, hown, hts⟩ (c_X2_firstWritten l g (pat N f fl j) (sp_X0_word N f (nI (4 * j)))) (va_cwS 2 hts gX2_plan_X2_firstWritten rfl rfl rfl (by decide +kernel) ⟨Nat.le_of_ble_eq_true rfl, Nat.le_of_ble_eq_true rfl⟩) ⟨hK, hP, hD, hS, hA, hE, hN⟩ [] [0, 1, 2, 3, 4, 5] ⟨rfl, rfl, by decide⟩ rfl hl.1 (Nat.le_of_ble_eq_true rfl) dX2_plan_63 ⟨Nat.le_of_ble_eq_true rfl, Nat.le_of_ble_eq_true rfl⟩ rfl (fun r u H locs hw hP hD hS => ?_)
            obtain ⟨hq, hw⟩ := hw
            subst r
            subst hw
            have hP := hP.sub (ws' := [(hR, .inr (2, [.int base, .ref ql, .ref qp, .ref qa, .int kn, .int en])), (ql, .inl (g.2.1.2.1, 60, .inl fl)), (qp, .inl (g.2.1.1, 60, .inl (upd (pln N f fl j fp) (nI j).toNatClampNeg (pat N f fl j)))), (qa, .inl (g.2.1.1, 60, .inl fa)), (h, .inr (0, [.ref q, .int (nI (4 * n))])), (q, .inl (g.2.1.1, N, .inl f))]) [0, 1, 2, 3, 4, 5] rfl
            have hD := hD.sub (ws' := [(hR, .inr (2, [.int base, .ref ql, .ref qp, .ref qa, .int kn, .int en])), (ql, .inl (g.2.1.2.1, 60, .inl fl)), (qp, .inl (g.2.1.1, 60, .inl (upd (pln N f fl j fp) (nI j).toNatClampNeg (pat N f fl j)))), (qa, .inl (g.2.1.1, 60, .inl fa)), (h, .inr (0, [.ref q, .int (nI (4 * n))])), (q, .inl (g.2.1.1, N, .inl f))]) [0, 1, 2, 3, 4, 5] (by decide) rfl
            refine lv_iload hx hb dX2_plan_66 (lv_at hl 0 rfl) ?_
            refine kiS (As := [.int (sp_X0_word N f (nI (4 * j)))]) (rest := [.int (sp_X2_firstWritten (pat N f fl j) (sp_X0_word N f (nI (4 * j))))]) (wc := []) (wr := [(hR, .inr (2, [.int base, .ref ql, .ref qp, .ref qa, .int kn, .int en])), (ql, .inl (g.2.1.2.1, 60, .inl fl)), (qp, .inl (g.2.1.1, 60, .inl (upd (pln N f fl j fp) (nI j).toNatClampNeg (pat N f fl j)))), (qa, .inl (g.2.1.1, 60, .inl fa)), (h, .inr (0, [.ref q, .int (nI (4 * n))])), (q, .inl (g.2.1.1, N, .inl f))]) ⟨hx, hb, hml, hown, hts⟩ (c_X2_sizeOf l g (sp_X0_word N f (nI (4 * j)))) (va_cwS 1 hts gX2_plan_X2_sizeOf rfl rfl rfl (by decide +kernel) ⟨Nat.le_of_ble_eq_true rfl, Nat.le_of_ble_eq_true rfl⟩) ⟨hK, hP, hD, hS, hA, hE, hN⟩ [] [0, 1, 2, 3, 4, 5] ⟨rfl, rfl, by decide⟩ rfl hl.1 (Nat.le_of_ble_eq_true rfl) dX2_plan_68 ⟨Nat.le_of_ble_eq_true rfl, Nat.le_of_ble_eq_true rfl⟩ rfl (fun r u H locs hw hP hD hS => ?_)
            obtain ⟨hq, hw⟩ := hw
            subst r
            subst hw
            have hP := hP.sub (ws' := [(hR, .inr (2, [.int base, .ref ql, .ref qp, .ref qa, .int kn, .int en])), (ql, .inl (g.2.1.2.1, 60, .inl fl)), (qp, .inl (g.2.1.1, 60, .inl (upd (pln N f fl j fp) (nI j).toNatClampNeg (pat N f fl j)))), (qa, .inl (g.2.1.1, 60, .inl fa)), (h, .inr (0, [.ref q, .int (nI (4 * n))])), (q, .inl (g.2.1.1, N, .inl f))]) [0, 1, 2, 3, 4, 5] rfl
            have hD := hD.sub (ws' := [(hR, .inr (2, [.int base, .ref ql, .ref qp, .ref qa, .int kn, .int en])), (ql, .inl (g.2.1.2.1, 60, .inl fl)), (qp, .inl (g.2.1.1, 60, .inl (upd (pln N f fl j fp) (nI j).toNatClampNeg (pat N f fl j)))), (qa, .inl (g.2.1.1, 60, .inl fa)), (h, .inr (0, [.ref q, .int (nI (4 * n))])), (q, .inl (g.2.1.1, N, .inl f))]) [0, 1, 2, 3, 4, 5] (by decide) rfl
            refine lv_iadd hx hb dX2_plan_71 ?_
            refine lv_istore_n (lv' := [(2, .int ((sp_X2_firstWritten (pat N f fl j) (sp_X0_word N f (nI (4 * j)))) + (sp_X2_sizeOf (sp_X0_word N f (nI (4 * j)))))), (4, .int (sp_X0_word N f (nI (4 * j)))), (0, .ref hR), (1, .ref h), (3, .int (nI j))]) hx hb dX2_plan_72 rfl hl (by decide) rfl (fun ls hl => ?_)
            refine lv_iinc (v := (nI (j + 1))) (lv' := [(3, .int (nI (j + 1))), (2, .int ((sp_X2_firstWritten (pat N f fl j) (sp_X0_word N f (nI (4 * j)))) + (sp_X2_sizeOf (sp_X0_word N f (nI (4 * j)))))), (4, .int (sp_X0_word N f (nI (4 * j)))), (0, .ref hR), (1, .ref h)]) hx hb dX2_plan_73 hl (k := 4) rfl (nI_add _ _) (by decide) rfl (fun ls hl => ?_)
            refine lv_goto (tgt := 4) hx hb dX2_plan_76 (by decide) ?_
            rw [show ((sp_X2_firstWritten (pat N f fl j) (sp_X0_word N f (nI (4 * j)))) + (sp_X2_sizeOf (sp_X0_word N f (nI (4 * j)))) : Int32) = pat N f fl (j + 1) from (by simp only [pat, pAl, if_neg c_0, if_neg c_1, if_pos c_3])] at hl
            rw [show (upd (pln N f fl j fp) (nI j).toNatClampNeg (pat N f fl j) : Nat → Int32) = pln N f fl (j + 1) fp from (pln_upd (by simp only [pst, pAl, if_neg c_0, if_neg c_1, if_pos c_3]) (by omega))] at hP hD
            exact ih (j + 1) (k_nle c_0 (by omega) (by omega)) (by have := k_nle c_0 (by omega) (by omega); omega) _ _ _ hP hD hS (lv_sub hl [3, 4, 1, 0] rfl)
          · skip
            refine lv_iload_n hx hb dX2_plan_39 rfl (lv_at hl 2 rfl) ?_
            refine kiS (As := [.int (pat N f fl j)]) (rest := []) (wc := []) (wr := [(hR, .inr (2, [.int base, .ref ql, .ref qp, .ref qa, .int kn, .int en])), (ql, .inl (g.2.1.2.1, 60, .inl fl)), (qp, .inl (g.2.1.1, 60, .inl (pln N f fl j fp))), (qa, .inl (g.2.1.1, 60, .inl fa)), (h, .inr (0, [.ref q, .int (nI (4 * n))])), (q, .inl (g.2.1.1, N, .inl f))]) ⟨hx, hb, hml, hown, hts⟩ (c_X2_bundleStartFrom l g (pat N f fl j)) (va_cwS 1 hts gX2_plan_X2_bundleStartFrom rfl rfl rfl (by decide +kernel) ⟨Nat.le_of_ble_eq_true rfl, Nat.le_of_ble_eq_true rfl⟩) ⟨hK, hP, hD, hS, hA, hE, hN⟩ [] [0, 1, 2, 3, 4, 5] ⟨rfl, rfl, by decide⟩ rfl hl.1 (Nat.le_of_ble_eq_true rfl) dX2_plan_40 ⟨Nat.le_of_ble_eq_true rfl, Nat.le_of_ble_eq_true rfl⟩ rfl (fun r u H locs hw hP hD hS => ?_)
            obtain ⟨hq, hw⟩ := hw
            subst r
            subst hw
            have hP := hP.sub (ws' := [(hR, .inr (2, [.int base, .ref ql, .ref qp, .ref qa, .int kn, .int en])), (ql, .inl (g.2.1.2.1, 60, .inl fl)), (qp, .inl (g.2.1.1, 60, .inl (pln N f fl j fp))), (qa, .inl (g.2.1.1, 60, .inl fa)), (h, .inr (0, [.ref q, .int (nI (4 * n))])), (q, .inl (g.2.1.1, N, .inl f))]) [0, 1, 2, 3, 4, 5] rfl
            have hD := hD.sub (ws' := [(hR, .inr (2, [.int base, .ref ql, .ref qp, .ref qa, .int kn, .int en])), (ql, .inl (g.2.1.2.1, 60, .inl fl)), (qp, .inl (g.2.1.1, 60, .inl (pln N f fl j fp))), (qa, .inl (g.2.1.1, 60, .inl fa)), (h, .inr (0, [.ref q, .int (nI (4 * n))])), (q, .inl (g.2.1.1, N, .inl f))]) [0, 1, 2, 3, 4, 5] (by decide) rfl
            refine lv_istore_n (lv' := [(2, .int (sp_X2_bundleStartFrom (pat N f fl j))), (0, .ref hR), (1, .ref h), (3, .int (nI j))]) hx hb dX2_plan_43 rfl hl (by decide) rfl (fun ls hl => ?_)
            refine lv_aload_n hx hb dX2_plan_44 rfl (lv_at hl 1 rfl) ?_
            refine va_get (D := g.1) (ci := 2) (v := .ref qp) (C := RX2) (T := TX2) (N := 6) hx hb hts iX2 hown hK hP 0 rfl rfl 2 (by decide) (hts (.fieldLink RX2 15 "FaultIsolation$Rewriter" "planned" "[I") (by decide +kernel)) (fun _ h9 => h9) rfl dX2_plan_45 ?_
            refine lv_iload_n hx hb dX2_plan_48 rfl (lv_at hl 3 rfl) ?_
            refine lv_iload_n hx hb dX2_plan_49 rfl (lv_at hl 0 rfl) ?_
            refine va_iast hx hb hK hP hD hS 2 0 rfl rfl (vp_in_nI (by have := k_nle c_0 (by omega) (by omega); omega) (by decide)) dX2_plan_50 (fun H locs hP hD hS => ?_)
            have hP : va_P g.1 vwCl [(hR, .inr (2, [.int base, .ref ql, .ref qp, .ref qa, .int kn, .int en])), (ql, .inl (g.2.1.2.1, 60, .inl fl)), (qp, .inl (g.2.1.1, 60, .inl (upd (pln N f fl j fp) (nI j).toNatClampNeg (sp_X2_bundleStartFrom (pat N f fl j))))), (qa, .inl (g.2.1.1, 60, .inl fa)), (h, .inr (0, [.ref q, .int (nI (4 * n))])), (q, .inl (g.2.1.1, N, .inl f))] H := hP
            have hD : va_D A [(hR, .inr (2, [.int base, .ref ql, .ref qp, .ref qa, .int kn, .int en])), (ql, .inl (g.2.1.2.1, 60, .inl fl)), (qp, .inl (g.2.1.1, 60, .inl (upd (pln N f fl j fp) (nI j).toNatClampNeg (sp_X2_bundleStartFrom (pat N f fl j))))), (qa, .inl (g.2.1.1, 60, .inl fa)), (h, .inr (0, [.ref q, .int (nI (4 * n))])), (q, .inl (g.2.1.1, N, .inl f))] := hD
            refine lv_aload_n hx hb dX2_plan_51 rfl (lv_at hl 2 rfl) ?_
            refine lv_iconst (v := 4) hx hb dX2_plan_52 (by decide) ?_
            refine lv_iload_n hx hb dX2_plan_53 rfl (lv_at hl 3 rfl) ?_
            refine lv_imul hx hb dX2_plan_54 ?_
            refine lv_topi (fun y9 e9 => ?_)
            rw [show (4 * (nI j) : Int32) = nI (4 * j) from pk_mul _ _] at e9
            subst e9
            refine kiV (As := [.int (nI (4 * j))]) (rest := []) (wc := [(h, .inr (0, [.ref q, .int (nI (4 * n))])), (q, .inl (g.2.1.1, N, .inl f))]) (wr := [(hR, .inr (2, [.int base, .ref ql, .ref qp, .ref qa, .int kn, .int en])), (ql, .inl (g.2.1.2.1, 60, .inl fl)), (qp, .inl (g.2.1.1, 60, .inl (upd (pln N f fl j fp) (nI j).toNatClampNeg (sp_X2_bundleStartFrom (pat N f fl j))))), (qa, .inl (g.2.1.1, 60, .inl fa))]) ⟨hx, hb, hml, hown, hts⟩ (c_X0_word l g h q N f (nI (4 * n)) (nI (4 * j)) hNn) (cwV 1 hts gX2_plan_X0_word rfl rfl rfl (by decide +kernel) ⟨Nat.le_of_ble_eq_true rfl, Nat.le_of_ble_eq_true rfl⟩) ⟨hK, hP, hD, hS, hA, hE, hN⟩ [4, 5] [0, 1, 2, 3] ⟨rfl, rfl, by decide⟩ (q0 := 4) (ci := 0) rfl rfl rfl rfl hl.1 (Nat.le_of_ble_eq_true rfl) dX2_plan_55 ⟨Nat.le_of_ble_eq_true rfl, Nat.le_of_ble_eq_true rfl⟩ rfl (fun r u H locs hw hP hD hS => ?_)
            obtain ⟨hq, hw⟩ := hw
            subst r
            subst hw
            have hP := hP.sub (ws' := [(hR, .inr (2, [.int base, .ref ql, .ref qp, .ref qa, .int kn, .int en])), (ql, .inl (g.2.1.2.1, 60, .inl fl)), (qp, .inl (g.2.1.1, 60, .inl (upd (pln N f fl j fp) (nI j).toNatClampNeg (sp_X2_bundleStartFrom (pat N f fl j))))), (qa, .inl (g.2.1.1, 60, .inl fa)), (h, .inr (0, [.ref q, .int (nI (4 * n))])), (q, .inl (g.2.1.1, N, .inl f))]) [0, 1, 2, 3, 4, 5] rfl
            have hD := hD.sub (ws' := [(hR, .inr (2, [.int base, .ref ql, .ref qp, .ref qa, .int kn, .int en])), (ql, .inl (g.2.1.2.1, 60, .inl fl)), (qp, .inl (g.2.1.1, 60, .inl (upd (pln N f fl j fp) (nI j).toNatClampNeg (sp_X2_bundleStartFrom (pat N f fl j))))), (qa, .inl (g.2.1.1, 60, .inl fa)), (h, .inr (0, [.ref q, .int (nI (4 * n))])), (q, .inl (g.2.1.1, N, .inl f))]) [0, 1, 2, 3, 4, 5] (by decide) rfl
            refine lv_istore (lv' := [(4, .int (sp_X0_word N f (nI (4 * j)))), (2, .int (sp_X2_bundleStartFrom (pat N f fl j))), (0, .ref hR), (1, .ref h), (3, .int (nI j))]) hx hb dX2_plan_58 hl (by decide) rfl (fun ls hl => ?_)
            refine lv_iload_n hx hb dX2_plan_60 rfl (lv_at hl 1 rfl) ?_
            refine lv_iload hx hb dX2_plan_61 (lv_at hl 0 rfl) ?_
            refine kiS (As := [.int (sp_X2_bundleStartFrom (pat N f fl j)), .int (sp_X0_word N f (nI (4 * j)))]) (rest := []) (wc := []) (wr := [(hR, .inr (2, [.int base, .ref ql, .ref qp, .ref qa, .int kn, .int en])), (ql, .inl (g.2.1.2.1, 60, .inl fl)), (qp, .inl (g.2.1.1, 60, .inl (upd (pln N f fl j fp) (nI j).toNatClampNeg (sp_X2_bundleStartFrom (pat N f fl j))))), (qa, .inl (g.2.1.1, 60, .inl fa)), (h, .inr (0, [.ref q, .int (nI (4 * n))])), (q, .inl (g.2.1.1, N, .inl f))]) ⟨hx, hb, hml, hown, hts⟩ (c_X2_firstWritten l g (sp_X2_bundleStartFrom (pat N f fl j)) (sp_X0_word N f (nI (4 * j)))) (va_cwS 2 hts gX2_plan_X2_firstWritten rfl rfl rfl (by decide +kernel) ⟨Nat.le_of_ble_eq_true rfl, Nat.le_of_ble_eq_true rfl⟩) ⟨hK, hP, hD, hS, hA, hE, hN⟩ [] [0, 1, 2, 3, 4, 5] ⟨rfl, rfl, by decide⟩ rfl hl.1 (Nat.le_of_ble_eq_true rfl) dX2_plan_63 ⟨Nat.le_of_ble_eq_true rfl, Nat.le_of_ble_eq_true rfl⟩ rfl (fun r u H locs hw hP hD hS => ?_)
            obtain ⟨hq, hw⟩ := hw
            subst r
            subst hw
            have hP := hP.sub (ws' := [(hR, .inr (2, [.int base, .ref ql, .ref qp, .ref qa, .int kn, .int en])), (ql, .inl (g.2.1.2.1, 60, .inl fl)), (qp, .inl (g.2.1.1, 60, .inl (upd (pln N f fl j fp) (nI j).toNatClampNeg (sp_X2_bundleStartFrom (pat N f fl j))))), (qa, .inl (g.2.1.1, 60, .inl fa)), (h, .inr (0, [.ref q, .int (nI (4 * n))])), (q, .inl (g.2.1.1, N, .inl f))]) [0, 1, 2, 3, 4, 5] rfl
            have hD := hD.sub (ws' := [(hR, .inr (2, [.int base, .ref ql, .ref qp, .ref qa, .int kn, .int en])), (ql, .inl (g.2.1.2.1, 60, .inl fl)), (qp, .inl (g.2.1.1, 60, .inl (upd (pln N f fl j fp) (nI j).toNatClampNeg (sp_X2_bundleStartFrom (pat N f fl j))))), (qa, .inl (g.2.1.1, 60, .inl fa)), (h, .inr (0, [.ref q, .int (nI (4 * n))])), (q, .inl (g.2.1.1, N, .inl f))]) [0, 1, 2, 3, 4, 5] (by decide) rfl
            refine lv_iload hx hb dX2_plan_66 (lv_at hl 0 rfl) ?_
            refine kiS (As := [.int (sp_X0_word N f (nI (4 * j)))]) (rest := [.int (sp_X2_firstWritten (sp_X2_bundleStartFrom (pat N f fl j)) (sp_X0_word N f (nI (4 * j))))]) (wc := []) (wr := [(hR, .inr (2, [.int base, .ref ql, .ref qp, .ref qa, .int kn, .int en])), (ql, .inl (g.2.1.2.1, 60, .inl fl)), (qp, .inl (g.2.1.1, 60, .inl (upd (pln N f fl j fp) (nI j).toNatClampNeg (sp_X2_bundleStartFrom (pat N f fl j))))), (qa, .inl (g.2.1.1, 60, .inl fa)), (h, .inr (0, [.ref q, .int (nI (4 * n))])), (q, .inl (g.2.1.1, N, .inl f))]) ⟨hx, hb, hml, hown, hts⟩ (c_X2_sizeOf l g (sp_X0_word N f (nI (4 * j)))) (va_cwS 1 hts gX2_plan_X2_sizeOf rfl rfl rfl (by decide +kernel) ⟨Nat.le_of_ble_eq_true rfl, Nat.le_of_ble_eq_true rfl⟩) ⟨hK, hP, hD, hS, hA, hE, hN⟩ [] [0, 1, 2, 3, 4, 5] ⟨rfl, rfl, by decide⟩ rfl hl.1 (Nat.le_of_ble_eq_true rfl) dX2_plan_68 ⟨Nat.le_of_ble_eq_true rfl, Nat.le_of_ble_eq_true rfl⟩ rfl (fun r u H locs hw hP hD hS => ?_)
            obtain ⟨hq, hw⟩ := hw
            subst r
            subst hw
            have hP := hP.sub (ws' := [(hR, .inr (2, [.int base, .ref ql, .ref qp, .ref qa, .int kn, .int en])), (ql, .inl (g.2.1.2.1, 60, .inl fl)), (qp, .inl (g.2.1.1, 60, .inl (upd (pln N f fl j fp) (nI j).toNatClampNeg (sp_X2_bundleStartFrom (pat N f fl j))))), (qa, .inl (g.2.1.1, 60, .inl fa)), (h, .inr (0, [.ref q, .int (nI (4 * n))])), (q, .inl (g.2.1.1, N, .inl f))]) [0, 1, 2, 3, 4, 5] rfl
            have hD := hD.sub (ws' := [(hR, .inr (2, [.int base, .ref ql, .ref qp, .ref qa, .int kn, .int en])), (ql, .inl (g.2.1.2.1, 60, .inl fl)), (qp, .inl (g.2.1.1, 60, .inl (upd (pln N f fl j fp) (nI j).toNatClampNeg (sp_X2_bundleStartFrom (pat N f fl j))))), (qa, .inl (g.2.1.1, 60, .inl fa)), (h, .inr (0, [.ref q, .int (nI (4 * n))])), (q, .inl (g.2.1.1, N, .inl f))]) [0, 1, 2, 3, 4, 5] (by decide) rfl
            refine lv_iadd hx hb dX2_plan_71 ?_
            refine lv_istore_n (lv' := [(2, .int ((sp_X2_firstWritten (sp_X2_bundleStartFrom (pat N f fl j)) (sp_X0_word N f (nI (4 * j)))) + (sp_X2_sizeOf (sp_X0_word N f (nI (4 * j)))))), (4, .int (sp_X0_word N f (nI (4 * j)))), (0, .ref hR), (1, .ref h), (3, .int (nI j))]) hx hb dX2_plan_72 rfl hl (by decide) rfl (fun ls hl => ?_)
            refine lv_iinc (v := (nI (j + 1))) (lv' := [(3, .int (nI (j + 1))), (2, .int ((sp_X2_firstWritten (sp_X2_bundleStartFrom (pat N f fl j)) (sp_X0_word N f (nI (4 * j)))) + (sp_X2_sizeOf (sp_X0_word N f (nI (4 * j)))))), (4, .int (sp_X0_word N f (nI (4 * j)))), (0, .ref hR), (1, .ref h)]) hx hb dX2_plan_73 hl (k := 4) rfl (nI_add _ _) (by decide) rfl (fun ls hl => ?_)
            refine lv_goto (tgt := 4) hx hb dX2_plan_76 (by decide) ?_
            rw [show ((sp_X2_firstWritten (sp_X2_bundleStartFrom (pat N f fl j)) (sp_X0_word N f (nI (4 * j)))) + (sp_X2_sizeOf (sp_X0_word N f (nI (4 * j)))) : Int32) = pat N f fl (j + 1) from (by simp only [pat, pAl, if_neg c_0, if_neg c_1, if_neg c_3])] at hl
            rw [show (upd (pln N f fl j fp) (nI j).toNatClampNeg (sp_X2_bundleStartFrom (pat N f fl j)) : Nat → Int32) = pln N f fl (j + 1) fp from (pln_upd (by simp only [pst, pAl, if_neg c_0, if_neg c_1, if_neg c_3]) (by omega))] at hP hD
            exact ih (j + 1) (k_nle c_0 (by omega) (by omega)) (by have := k_nle c_0 (by omega) (by omega); omega) _ _ _ hP hD hS (lv_sub hl [3, 4, 1, 0] rfl)
  rw [show (fp : Nat → Int32) = pln N f fl 0 fp from pln_0.symm] at hP hD
  exact loop_4 (n - 0 + 1) 0 (Nat.zero_le _) (Nat.lt_succ_self _) _ _ _ hP hD hS (lv_sub hl [2, 3, 1, 0] rfl)
