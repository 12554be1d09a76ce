theorem k_cnt (x : Int32) : sp_X5_registersOf x = 0 ∨ sp_X5_registersOf x = 1 ∨ sp_X5_registersOf x = 2 ∨ sp_X5_registersOf x = 3 := by
  unfold sp_X5_registersOf
  split
  · exact Or.inl rfl
  · rename_i h0
    split
    · exact Or.inl rfl
    · rename_i h1
      obtain ⟨j, hj, rfl⟩ := vp_in_of (k_in (N := 19) h0 h1 (by decide)) (by decide)
      rw [nI_clamp (Nat.lt_trans hj (by decide))]
      have key : ∀ j : Fin 19, kT j.val = 0 ∨ kT j.val = 1 ∨ kT j.val = 2 ∨ kT j.val = 3 := by decide +kernel
      exact key ⟨j, hj⟩
theorem k_in4 {x : Int32} {N : Nat} (k : Nat) (hk : k < 4) (h0 : ¬ x < 0) (h1 : ¬ nI N - 4 < x) (hN : N < 2 ^ 31) : vp_in (x + nI k) N := by
  obtain ⟨j, hj, rfl⟩ := nI_of h0
  rw [nI_add]
  refine vp_in_nI ?_ hN
  have h2 : (nI N - 4).toInt = (N : Int) - 4 := by
    rw [show (4 : Int32) = nI 4 from rfl]
    rw [Int32.toInt_sub, nI_toInt hN, nI_toInt (by decide)]
    exact Int.bmod_eq_of_le (by omega) (by omega)
  have h3 : ¬ ((nI N - 4).toInt < (nI j).toInt) := fun h => h1 (Int32.lt_iff_toInt_lt.mpr h)
  rw [h2, nI_toInt hj] at h3
  omega
theorem k_in40 {x : Int32} {N : Nat} (h0 : ¬ x < 0) (h1 : ¬ nI N - 4 < x) (hN : N < 2 ^ 31) : vp_in x N := by
  have h := k_in4 0 (by decide) h0 h1 hN
  rwa [show nI 0 = 0 from rfl, Int32.add_zero] at h
def sp_X0_hasRegistersOnly (N : Nat) (f : Nat → Int32) (i : Int32) : Int32 := if (sp_X5_registersOf (sp_X0_word N f i)) = 0 then 1 else (if (sp_X5_registersOf (sp_X0_word N f i)) = 1 then (if (sp_X5_isRegister (sp_X0_read N f (i + 1))) = 0 then 0 else 1) else (if (sp_X5_registersOf (sp_X0_word N f i)) = 2 then (if (sp_X5_isRegister (sp_X0_read N f (i + 1))) = 0 then 0 else (if (sp_X5_isRegister (sp_X0_read N f (i + 2))) = 0 then 0 else 1)) else (if (sp_X5_isRegister (sp_X0_read N f (i + 1))) = 0 then 0 else (if (sp_X5_isRegister (sp_X0_read N f (i + 2))) = 0 then 0 else (if (sp_X5_isRegister (sp_X0_read N f (i + 3))) = 0 then 0 else 1)))))
theorem sp_X0_hasRegistersOnly_b (N : Nat) (f : Nat → Int32) (i : Int32) : sp_X0_hasRegistersOnly N f i = 0 ∨ sp_X0_hasRegistersOnly N f i = 1 := by
  unfold sp_X0_hasRegistersOnly
  repeat' split
  all_goals first | (with_reducible exact Or.inl rfl) | (with_reducible exact Or.inr rfl) | (with_reducible apply sp_X5_isRegister_b)
set_option maxHeartbeats 4000000 in
set_option maxRecDepth 100000 in
theorem c_X0_hasRegistersOnly (l : Launch) (g : KG) (h : Nat) (q : Nat) (N : Nat) (f : Nat → Int32) (len : Int32) (i : Int32) (hNn : N < 2 ^ 31) : Ci l g yX0_hasRegistersOnly wsX0_hasRegistersOnly ({ frames := 2, cells := 0, slots := 0, locals := 42 }) [.ref h, .int i] [(h, .inr (0, [.ref q, .int len])), (q, .inl (g.2.1.1, N, .inl f))] (fun r u => r = sp_X0_hasRegistersOnly N f i ∧ u = [(h, .inr (0, [.ref q, .int len])), (q, .inl (g.2.1.1, N, .inl f))]) 0 0 := by
  intro sz
  refine Met.ofW (cc := cX0_hasRegistersOnly) (maxL := 4) (ret := (some .boolean)) (by decide) rfl ?_
  intro p e s m args below meth c s₁ B hml hv
  obtain ⟨rfl, hsz, hP, hK, hD0, hE, hN⟩ := hv
  have hx := B.exec
  have hb := B.bytes
  have hr := B.returns
  have hts := atoms_spec (ws := wsX0_hasRegistersOnly) B.pre
  have hown : s.vm.findClass RX0 = some m.cls := findClass_of_methodNamed B.named
  have hlocks := B.notSynchronized
  subst hsz
  have hD := hD0.self (sz := s.heap.size)
  generalize hAe : va_A [(h, .inr (0, [.ref q, .int len])), (q, .inl (g.2.1.1, N, .inl f))] s.heap.size = A at hD hE ⊢
  have hA : ∀ q : Nat, s.heap.size ≤ q → A q := fun q h => by rw [← hAe]; exact Or.inr h
  have hS : va_S A s.heap s.heap [] := va_S.rf
  have hl := lv_entry ([.ref h, .int i]) (n := 4) (Nat.le_of_ble_eq_true rfl)
  rw [lg_entry_eq]
  generalize (lg_sl ([.ref h, .int i]) ++ List.replicate (4 - (lg_sl ([.ref h, .int i])).length) Slot.unset).toArray = ls at hl ⊢
  have hl : lv_has ls 4 [(0, .ref h), (1, .int i)] := hl
  refine lv_aload_n hx hb dX0_hasRegistersOnly_0 rfl (lv_at hl 0 rfl) ?_
  refine lv_iload_n hx hb dX0_hasRegistersOnly_1 rfl (lv_at hl 1 rfl) ?_
  refine kiV (As := [.int i]) (rest := []) (wc := [(h, .inr (0, [.ref q, .int len])), (q, .inl (g.2.1.1, N, .inl f))]) (wr := []) ⟨hx, hb, hml, hown, hts⟩ (c_X0_word l g h q N f len i hNn) (cwV 1 hts gX0_hasRegistersOnly_X0_word rfl rfl rfl (by decide +kernel) ⟨Nat.le_of_ble_eq_true rfl, Nat.le_of_ble_eq_true rfl⟩) ⟨hK, hP, hD, hS, hA, hE, hN⟩ [0, 1] [] ⟨rfl, rfl, by decide⟩ (q0 := 0) (ci := 0) rfl rfl rfl rfl hl.1 (Nat.le_of_ble_eq_true rfl) dX0_hasRegistersOnly_2 ⟨Nat.le_of_ble_eq_true rfl, Nat.le_of_ble_eq_true rfl⟩ rfl (fun r u H locs hw hP hD hS => ?_)
  obtain ⟨hq, hw⟩ := hw
  subst r
  subst hw
  have hP := hP.sub (ws' := [(h, .inr (0, [.ref q, .int len])), (q, .inl (g.2.1.1, N, .inl f))]) [0, 1] rfl
  have hD := hD.sub (ws' := [(h, .inr (0, [.ref q, .int len])), (q, .inl (g.2.1.1, N, .inl f))]) [0, 1] (by decide) rfl
  refine kiSN (As := [.int (sp_X0_word N f i)]) (rest := []) (wc := []) (wr := [(h, .inr (0, [.ref q, .int len])), (q, .inl (g.2.1.1, N, .inl f))]) ⟨hx, hb, hml, hown, hts⟩ (c_X5_registersOf l g (sp_X0_word N f i)) ⟨va_cnB (host := RX5) 1 hts gX0_hasRegistersOnly_X5_registersOf_n42 rfl rfl rfl (hN.1 (RX0, 42, yX5_registersOf) (List.mem_of_getElem? (i := 0) rfl)) (hts (.initialized RX5) (by decide +kernel)) (by decide +kernel) ⟨Nat.le_of_ble_eq_true rfl, Nat.le_of_ble_eq_true rfl⟩, hts (.static yX5_registersOf) (by decide +kernel), trivial⟩ ⟨hK, hP, hD, hS, hA, hE, hN⟩ [] [0, 1] ⟨rfl, rfl, by decide⟩ rfl hl.1 (Nat.le_of_ble_eq_true rfl) dX0_hasRegistersOnly_5 ⟨Nat.le_of_ble_eq_true rfl, Nat.le_of_ble_eq_true rfl⟩ rfl (fun r u H locs hw hP hD hS => ?_)
  obtain ⟨hq, hw⟩ := hw
  subst r
  subst hw
  have hP := hP.sub (ws' := [(h, .inr (0, [.ref q, .int len])), (q, .inl (g.2.1.1, N, .inl f))]) [0, 1] rfl
  have hD := hD.sub (ws' := [(h, .inr (0, [.ref q, .int len])), (q, .inl (g.2.1.1, N, .inl f))]) [0, 1] (by decide) rfl
  refine lv_istore_n (lv' := [(2, .int (sp_X5_registersOf (sp_X0_word N f i))), (0, .ref h), (1, .int i)]) hx hb dX0_hasRegistersOnly_8 rfl hl (by decide) rfl (fun ls hl => ?_)
  refine lv_iconst (v := 1) hx hb dX0_hasRegistersOnly_9 (by decide) ?_
  refine lv_istore_n (lv' := [(3, .int 1), (2, .int (sp_X5_registersOf (sp_X0_word N f i))), (0, .ref h), (1, .int i)]) hx hb dX0_hasRegistersOnly_10 rfl hl (by decide) rfl (fun ls hl => ?_)
  rcases (k_cnt (sp_X0_word N f i)) with s_0 | s_1 | s_2 | s_3
  · skip
    rw [s_0] at hl
    refine lv_iload_n hx hb dX0_hasRegistersOnly_11 rfl (lv_at hl 0 rfl) ?_
    refine lv_iload_n hx hb dX0_hasRegistersOnly_12 rfl (lv_at hl 1 rfl) ?_
    refine lv_icmp_gt (tgt := 37) hx hb dX0_hasRegistersOnly_13 (by decide) (fun _ => ?_) (fun c_4 => absurd c_4 (by decide))
    refine lv_iconst (v := 1) hx hb dX0_hasRegistersOnly_37 (by decide) ?_
    exact k_iret hx hb hr hlocks ⟨hK, hP, hD, hS, hA, hE, hN⟩ rfl dX0_hasRegistersOnly_38 (Nat.le_of_ble_eq_true rfl) (Nat.le_of_ble_eq_true rfl) ⟨(by simp only [sp_X0_hasRegistersOnly, if_pos s_0]), rfl⟩
  · skip
    have c_5 : ¬ (sp_X5_registersOf (sp_X0_word N f i)) = 0 := by rw [s_1]; decide
    rw [s_1] at hl
    refine lv_iload_n hx hb dX0_hasRegistersOnly_11 rfl (lv_at hl 0 rfl) ?_
    refine lv_iload_n hx hb dX0_hasRegistersOnly_12 rfl (lv_at hl 1 rfl) ?_
    refine lv_icmp_gt (tgt := 37) hx hb dX0_hasRegistersOnly_13 (by decide) (fun c_6 => absurd c_6 (by decide)) (fun _ => ?_)
    refine lv_aload_n hx hb dX0_hasRegistersOnly_16 rfl (lv_at hl 2 rfl) ?_
    refine lv_iload_n hx hb dX0_hasRegistersOnly_17 rfl (lv_at hl 3 rfl) ?_
    refine lv_iload_n hx hb dX0_hasRegistersOnly_18 rfl (lv_at hl 0 rfl) ?_
    refine lv_iadd hx hb dX0_hasRegistersOnly_19 ?_
    refine kiV (As := [.int (i + 1)]) (rest := []) (wc := [(h, .inr (0, [.ref q, .int len])), (q, .inl (g.2.1.1, N, .inl f))]) (wr := []) ⟨hx, hb, hml, hown, hts⟩ (c_X0_read l g h q N f len (i + 1) hNn) (cwV 1 hts gX0_hasRegistersOnly_X0_read rfl rfl rfl (by decide +kernel) ⟨Nat.le_of_ble_eq_true rfl, Nat.le_of_ble_eq_true rfl⟩) ⟨hK, hP, hD, hS, hA, hE, hN⟩ [0, 1] [] ⟨rfl, rfl, by decide⟩ (q0 := 0) (ci := 0) rfl rfl rfl rfl hl.1 (Nat.le_of_ble_eq_true rfl) dX0_hasRegistersOnly_20 ⟨Nat.le_of_ble_eq_true rfl, Nat.le_of_ble_eq_true rfl⟩ rfl (fun r u H locs hw hP hD hS => ?_)
    obtain ⟨hq, hw⟩ := hw
    subst r
    subst hw
    have hP := hP.sub (ws' := [(h, .inr (0, [.ref q, .int len])), (q, .inl (g.2.1.1, N, .inl f))]) [0, 1] rfl
    have hD := hD.sub (ws' := [(h, .inr (0, [.ref q, .int len])), (q, .inl (g.2.1.1, N, .inl f))]) [0, 1] (by decide) rfl
    refine kiSN (As := [.int (sp_X0_read N f (i + 1))]) (rest := []) (wc := []) (wr := [(h, .inr (0, [.ref q, .int len])), (q, .inl (g.2.1.1, N, .inl f))]) ⟨hx, hb, hml, hown, hts⟩ (c_X5_isRegister l g (sp_X0_read N f (i + 1))) ⟨va_cnB (host := RX5) 1 hts gX0_hasRegistersOnly_X5_isRegister_n45 rfl rfl rfl (hN.1 (RX0, 45, yX5_isRegister) (List.mem_of_getElem? (i := 1) rfl)) (hts (.initialized RX5) (by decide +kernel)) (by decide +kernel) ⟨Nat.le_of_ble_eq_true rfl, Nat.le_of_ble_eq_true rfl⟩, hts (.static yX5_isRegister) (by decide +kernel), trivial⟩ ⟨hK, hP, hD, hS, hA, hE, hN⟩ [] [0, 1] ⟨rfl, rfl, by decide⟩ rfl hl.1 (Nat.le_of_ble_eq_true rfl) dX0_hasRegistersOnly_23 ⟨Nat.le_of_ble_eq_true rfl, Nat.le_of_ble_eq_true rfl⟩ rfl (fun r u H locs hw hP hD hS => ?_)
    obtain ⟨hq, hw⟩ := hw
    subst r
    subst hw
    have hP := hP.sub (ws' := [(h, .inr (0, [.ref q, .int len])), (q, .inl (g.2.1.1, N, .inl f))]) [0, 1] rfl
    have hD := hD.sub (ws' := [(h, .inr (0, [.ref q, .int len])), (q, .inl (g.2.1.1, N, .inl f))]) [0, 1] (by decide) rfl
    refine lv_if_ne (tgt := 31) hx hb dX0_hasRegistersOnly_26 (by decide) (fun c_7 => ?_) (fun c_7 => ?_)
    · skip
      refine lv_iinc (v := 2) (lv' := [(3, .int 2), (2, .int 1), (0, .ref h), (1, .int i)]) hx hb dX0_hasRegistersOnly_31 hl (k := 0) rfl rfl (by decide) rfl (fun ls hl => ?_)
      refine lv_goto (tgt := 11) hx hb dX0_hasRegistersOnly_34 (by decide) ?_
      refine lv_iload_n hx hb dX0_hasRegistersOnly_11 rfl (lv_at hl 0 rfl) ?_
      refine lv_iload_n hx hb dX0_hasRegistersOnly_12 rfl (lv_at hl 1 rfl) ?_
      refine lv_icmp_gt (tgt := 37) hx hb dX0_hasRegistersOnly_13 (by decide) (fun _ => ?_) (fun c_8 => absurd c_8 (by decide))
      refine lv_iconst (v := 1) hx hb dX0_hasRegistersOnly_37 (by decide) ?_
      exact k_iret hx hb hr hlocks ⟨hK, hP, hD, hS, hA, hE, hN⟩ rfl dX0_hasRegistersOnly_38 (Nat.le_of_ble_eq_true rfl) (Nat.le_of_ble_eq_true rfl) ⟨(by simp only [sp_X0_hasRegistersOnly, if_neg c_5, if_pos s_1, if_neg c_7]), rfl⟩
    · skip
      refine lv_iconst (v := 0) hx hb dX0_hasRegistersOnly_29 (by decide) ?_
      exact k_iret hx hb hr hlocks ⟨hK, hP, hD, hS, hA, hE, hN⟩ rfl dX0_hasRegistersOnly_30 (Nat.le_of_ble_eq_true rfl) (Nat.le_of_ble_eq_true rfl) ⟨(by simp only [sp_X0_hasRegistersOnly, if_neg c_5, if_pos s_1, if_pos c_7]), rfl⟩
  · skip
    have c_9 : ¬ (sp_X5_registersOf (sp_X0_word N f i)) = 0 := by rw [s_2]; decide
    have c_10 : ¬ (sp_X5_registersOf (sp_X0_word N f i)) = 1 := by rw [s_2]; decide
    rw [s_2] at hl
    refine lv_iload_n hx hb dX0_hasRegistersOnly_11 rfl (lv_at hl 0 rfl) ?_
    refine lv_iload_n hx hb dX0_hasRegistersOnly_12 rfl (lv_at hl 1 rfl) ?_
    refine lv_icmp_gt (tgt := 37) hx hb dX0_hasRegistersOnly_13 (by decide) (fun c_11 => absurd c_11 (by decide)) (fun _ => ?_)
    refine lv_aload_n hx hb dX0_hasRegistersOnly_16 rfl (lv_at hl 2 rfl) ?_
    refine lv_iload_n hx hb dX0_hasRegistersOnly_17 rfl (lv_at hl 3 rfl) ?_
    refine lv_iload_n hx hb dX0_hasRegistersOnly_18 rfl (lv_at hl 0 rfl) ?_
    refine lv_iadd hx hb dX0_hasRegistersOnly_19 ?_
    refine kiV (As := [.int (i + 1)]) (rest := []) (wc := [(h, .inr (0, [.ref q, .int len])), (q, .inl (g.2.1.1, N, .inl f))]) (wr := []) ⟨hx, hb, hml, hown, hts⟩ (c_X0_read l g h q N f len (i + 1) hNn) (cwV 1 hts gX0_hasRegistersOnly_X0_read rfl rfl rfl (by decide +kernel) ⟨Nat.le_of_ble_eq_true rfl, Nat.le_of_ble_eq_true rfl⟩) ⟨hK, hP, hD, hS, hA, hE, hN⟩ [0, 1] [] ⟨rfl, rfl, by decide⟩ (q0 := 0) (ci := 0) rfl rfl rfl rfl hl.1 (Nat.le_of_ble_eq_true rfl) dX0_hasRegistersOnly_20 ⟨Nat.le_of_ble_eq_true rfl, Nat.le_of_ble_eq_true rfl⟩ rfl (fun r u H locs hw hP hD hS => ?_)
    obtain ⟨hq, hw⟩ := hw
    subst r
    subst hw
    have hP := hP.sub (ws' := [(h, .inr (0, [.ref q, .int len])), (q, .inl (g.2.1.1, N, .inl f))]) [0, 1] rfl
    have hD := hD.sub (ws' := [(h, .inr (0, [.ref q, .int len])), (q, .inl (g.2.1.1, N, .inl f))]) [0, 1] (by decide) rfl
    refine kiSN (As := [.int (sp_X0_read N f (i + 1))]) (rest := []) (wc := []) (wr := [(h, .inr (0, [.ref q, .int len])), (q, .inl (g.2.1.1, N, .inl f))]) ⟨hx, hb, hml, hown, hts⟩ (c_X5_isRegister l g (sp_X0_read N f (i + 1))) ⟨va_cnB (host := RX5) 1 hts gX0_hasRegistersOnly_X5_isRegister_n45 rfl rfl rfl (hN.1 (RX0, 45, yX5_isRegister) (List.mem_of_getElem? (i := 1) rfl)) (hts (.initialized RX5) (by decide +kernel)) (by decide +kernel) ⟨Nat.le_of_ble_eq_true rfl, Nat.le_of_ble_eq_true rfl⟩, hts (.static yX5_isRegister) (by decide +kernel), trivial⟩ ⟨hK, hP, hD, hS, hA, hE, hN⟩ [] [0, 1] ⟨rfl, rfl, by decide⟩ rfl hl.1 (Nat.le_of_ble_eq_true rfl) dX0_hasRegistersOnly_23 ⟨Nat.le_of_ble_eq_true rfl, Nat.le_of_ble_eq_true rfl⟩ rfl (fun r u H locs hw hP hD hS => ?_)
    obtain ⟨hq, hw⟩ := hw
    subst r
    subst hw
    have hP := hP.sub (ws' := [(h, .inr (0, [.ref q, .int len])), (q, .inl (g.2.1.1, N, .inl f))]) [0, 1] rfl
    have hD := hD.sub (ws' := [(h, .inr (0, [.ref q, .int len])), (q, .inl (g.2.1.1, N, .inl f))]) [0, 1] (by decide) rfl
    refine lv_if_ne (tgt := 31) hx hb dX0_hasRegistersOnly_26 (by decide) (fun c_12 => ?_) (fun c_12 => ?_)
    · skip
      refine lv_iinc (v := 2) (lv' := [(3, .int 2), (2, .int 2), (0, .ref h), (1, .int i)]) hx hb dX0_hasRegistersOnly_31 hl (k := 0) rfl rfl (by decide) rfl (fun ls hl => ?_)
      refine lv_goto (tgt := 11) hx hb dX0_hasRegistersOnly_34 (by decide) ?_
      refine lv_iload_n hx hb dX0_hasRegistersOnly_11 rfl (lv_at hl 0 rfl) ?_
      refine lv_iload_n hx hb dX0_hasRegistersOnly_12 rfl (lv_at hl 1 rfl) ?_
      refine lv_icmp_gt (tgt := 37) hx hb dX0_hasRegistersOnly_13 (by decide) (fun c_13 => absurd c_13 (by decide)) (fun _ => ?_)
      refine lv_aload_n hx hb dX0_hasRegistersOnly_16 rfl (lv_at hl 2 rfl) ?_
      refine lv_iload_n hx hb dX0_hasRegistersOnly_17 rfl (lv_at hl 3 rfl) ?_
      refine lv_iload_n hx hb dX0_hasRegistersOnly_18 rfl (lv_at hl 0 rfl) ?_
      refine lv_iadd hx hb dX0_hasRegistersOnly_19 ?_
      refine kiV (As := [.int (i + 2)]) (rest := []) (wc := [(h, .inr (0, [.ref q, .int len])), (q, .inl (g.2.1.1, N, .inl f))]) (wr := []) ⟨hx, hb, hml, hown, hts⟩ (c_X0_read l g h q N f len (i + 2) hNn) (cwV 1 hts gX0_hasRegistersOnly_X0_read rfl rfl rfl (by decide +kernel) ⟨Nat.le_of_ble_eq_true rfl, Nat.le_of_ble_eq_true rfl⟩) ⟨hK, hP, hD, hS, hA, hE, hN⟩ [0, 1] [] ⟨rfl, rfl, by decide⟩ (q0 := 0) (ci := 0) rfl rfl rfl rfl hl.1 (Nat.le_of_ble_eq_true rfl) dX0_hasRegistersOnly_20 ⟨Nat.le_of_ble_eq_true rfl, Nat.le_of_ble_eq_true rfl⟩ rfl (fun r u H locs hw hP hD hS => ?_)
      obtain ⟨hq, hw⟩ := hw
      subst r
      subst hw
      have hP := hP.sub (ws' := [(h, .inr (0, [.ref q, .int len])), (q, .inl (g.2.1.1, N, .inl f))]) [0, 1] rfl
      have hD := hD.sub (ws' := [(h, .inr (0, [.ref q, .int len])), (q, .inl (g.2.1.1, N, .inl f))]) [0, 1] (by decide) rfl
      refine kiSN (As := [.int (sp_X0_read N f (i + 2))]) (rest := []) (wc := []) (wr := [(h, .inr (0, [.ref q, .int len])), (q, .inl (g.2.1.1, N, .inl f))]) ⟨hx, hb, hml, hown, hts⟩ (c_X5_isRegister l g (sp_X0_read N f (i + 2))) ⟨va_cnB (host := RX5) 1 hts gX0_hasRegistersOnly_X5_isRegister_n45 rfl rfl rfl (hN.1 (RX0, 45, yX5_isRegister) (List.mem_of_getElem? (i := 1) rfl)) (hts (.initialized RX5) (by decide +kernel)) (by decide +kernel) ⟨Nat.le_of_ble_eq_true rfl, Nat.le_of_ble_eq_true rfl⟩, hts (.static yX5_isRegister) (by decide +kernel), trivial⟩ ⟨hK, hP, hD, hS, hA, hE, hN⟩ [] [0, 1] ⟨rfl, rfl, by decide⟩ rfl hl.1 (Nat.le_of_ble_eq_true rfl) dX0_hasRegistersOnly_23 ⟨Nat.le_of_ble_eq_true rfl, Nat.le_of_ble_eq_true rfl⟩ rfl (fun r u H locs hw hP hD hS => ?_)
      obtain ⟨hq, hw⟩ := hw
      subst r
      subst hw
      have hP := hP.sub (ws' := [(h, .inr (0, [.ref q, .int len])), (q, .inl (g.2.1.1, N, .inl f))]) [0, 1] rfl
      have hD := hD.sub (ws' := [(h, .inr (0, [.ref q, .int len])), (q, .inl (g.2.1.1, N, .inl f))]) [0, 1] (by decide) rfl
      refine lv_if_ne (tgt := 31) hx hb dX0_hasRegistersOnly_26 (by decide) (fun c_14 => ?_) (fun c_14 => ?_)
      · skip
        refine lv_iinc (v := 3) (lv' := [(3, .int 3), (2, .int 2), (0, .ref h), (1, .int i)]) hx hb dX0_hasRegistersOnly_31 hl (k := 0) rfl rfl (by decide) rfl (fun ls hl => ?_)
        refine lv_goto (tgt := 11) hx hb dX0_hasRegistersOnly_34 (by decide) ?_
        refine lv_iload_n hx hb dX0_hasRegistersOnly_11 rfl (lv_at hl 0 rfl) ?_
        refine lv_iload_n hx hb dX0_hasRegistersOnly_12 rfl (lv_at hl 1 rfl) ?_
        refine lv_icmp_gt (tgt := 37) hx hb dX0_hasRegistersOnly_13 (by decide) (fun _ => ?_) (fun c_15 => absurd c_15 (by decide))
        refine lv_iconst (v := 1) hx hb dX0_hasRegistersOnly_37 (by decide) ?_
        exact k_iret hx hb hr hlocks ⟨hK, hP, hD, hS, hA, hE, hN⟩ rfl dX0_hasRegistersOnly_38 (Nat.le_of_ble_eq_true rfl) (Nat.le_of_ble_eq_true rfl) ⟨(by simp only [sp_X0_hasRegistersOnly, if_neg c_9, if_neg c_10, if_pos s_2, if_neg c_12, if_neg c_14]), rfl⟩
      · skip
        refine lv_iconst (v := 0) hx hb dX0_hasRegistersOnly_29 (by decide) ?_
        exact k_iret hx hb hr hlocks ⟨hK, hP, hD, hS, hA, hE, hN⟩ rfl dX0_hasRegistersOnly_30 (Nat.le_of_ble_eq_true rfl) (Nat.le_of_ble_eq_true rfl) ⟨(by simp only [sp_X0_hasRegistersOnly, if_neg c_9, if_neg c_10, if_pos s_2, if_neg c_12, if_pos c_14]), rfl⟩
    · skip
      refine lv_iconst (v := 0) hx hb dX0_hasRegistersOnly_29 (by decide) ?_
      exact k_iret hx hb hr hlocks ⟨hK, hP, hD, hS, hA, hE, hN⟩ rfl dX0_hasRegistersOnly_30 (Nat.le_of_ble_eq_true rfl) (Nat.le_of_ble_eq_true rfl) ⟨(by simp only [sp_X0_hasRegistersOnly, if_neg c_9, if_neg c_10, if_pos s_2, if_pos c_12]), rfl⟩
  · skip
    have c_16 : ¬ (sp_X5_registersOf (sp_X0_word N f i)) = 0 := by rw [s_3]; decide
    have c_17 : ¬ (sp_X5_registersOf (sp_X0_word N f i)) = 1 := by rw [s_3]; decide
    have c_18 : ¬ (sp_X5_registersOf (sp_X0_word N f i)) = 2 := by rw [s_3]; decide
    rw [s_3] at hl
    refine lv_iload_n hx hb dX0_hasRegistersOnly_11 rfl (lv_at hl 0 rfl) ?_
    refine lv_iload_n hx hb dX0_hasRegistersOnly_12 rfl (lv_at hl 1 rfl) ?_
    refine lv_icmp_gt (tgt := 37) hx hb dX0_hasRegistersOnly_13 (by decide) (fun c_19 => absurd c_19 (by decide)) (fun _ => ?_)
    refine lv_aload_n hx hb dX0_hasRegistersOnly_16 rfl (lv_at hl 2 rfl) ?_
    refine lv_iload_n hx hb dX0_hasRegistersOnly_17 rfl (lv_at hl 3 rfl) ?_
    refine lv_iload_n hx hb dX0_hasRegistersOnly_18 rfl (lv_at hl 0 rfl) ?_
    refine lv_iadd hx hb dX0_hasRegistersOnly_19 ?_
    refine kiV (As := [.int (i + 1)]) (rest := []) (wc := [(h, .inr (0, [.ref q, .int len])), (q, .inl (g.2.1.1, N, .inl f))]) (wr := []) ⟨hx, hb, hml, hown, hts⟩ (c_X0_read l g h q N f len (i + 1) hNn) (cwV 1 hts gX0_hasRegistersOnly_X0_read rfl rfl rfl (by decide +kernel) ⟨Nat.le_of_ble_eq_true rfl, Nat.le_of_ble_eq_true rfl⟩) ⟨hK, hP, hD, hS, hA, hE, hN⟩ [0, 1] [] ⟨rfl, rfl, by decide⟩ (q0 := 0) (ci := 0) rfl rfl rfl rfl hl.1 (Nat.le_of_ble_eq_true rfl) dX0_hasRegistersOnly_20 ⟨Nat.le_of_ble_eq_true rfl, Nat.le_of_ble_eq_true rfl⟩ rfl (fun r u H locs hw hP hD hS => ?_)
    obtain ⟨hq, hw⟩ := hw
    subst r
    subst hw
    have hP := hP.sub (ws' := [(h, .inr (0, [.ref q, .int len])), (q, .inl (g.2.1.1, N, .inl f))]) [0, 1] rfl
    have hD := hD.sub (ws' := [(h, .inr (0, [.ref q, .int len])), (q, .inl (g.2.1.1, N, .inl f))]) [0, 1] (by decide) rfl
    refine kiSN (As := [.int (sp_X0_read N f (i + 1))]) (rest := []) (wc := []) (wr := [(h, .inr (0, [.ref q, .int len])), (q, .inl (g.2.1.1, N, .inl f))]) ⟨hx, hb, hml, hown, hts⟩ (c_X5_isRegister l g (sp_X0_read N f (i + 1))) ⟨va_cnB (host := RX5) 1 hts gX0_hasRegistersOnly_X5_isRegister_n45 rfl rfl rfl (hN.1 (RX0, 45, yX5_isRegister) (List.mem_of_getElem? (i := 1) rfl)) (hts (.initialized RX5) (by decide +kernel)) (by decide +kernel) ⟨Nat.le_of_ble_eq_true rfl, Nat.le_of_ble_eq_true rfl⟩, hts (.static yX5_isRegister) (by decide +kernel), trivial⟩ ⟨hK, hP, hD, hS, hA, hE, hN⟩ [] [0, 1] ⟨rfl, rfl, by decide⟩ rfl hl.1 (Nat.le_of_ble_eq_true rfl) dX0_hasRegistersOnly_23 ⟨Nat.le_of_ble_eq_true rfl, Nat.le_of_ble_eq_true rfl⟩ rfl (fun r u H locs hw hP hD hS => ?_)
    obtain ⟨hq, hw⟩ := hw
    subst r
    subst hw
    have hP := hP.sub (ws' := [(h, .inr (0, [.ref q, .int len])), (q, .inl (g.2.1.1, N, .inl f))]) [0, 1] rfl
    have hD := hD.sub (ws' := [(h, .inr (0, [.ref q, .int len])), (q, .inl (g.2.1.1, N, .inl f))]) [0, 1] (by decide) rfl
    refine lv_if_ne (tgt := 31) hx hb dX0_hasRegistersOnly_26 (by decide) (fun c_20 => ?_) (fun c_20 => ?_)
    · skip
      refine lv_iinc (v := 2) (lv' := [(3, .int 2), (2, .int 3), (0, .ref h), (1, .int i)]) hx hb dX0_hasRegistersOnly_31 hl (k := 0) rfl rfl (by decide) rfl (fun ls hl => ?_)
      refine lv_goto (tgt := 11) hx hb dX0_hasRegistersOnly_34 (by decide) ?_
      refine lv_iload_n hx hb dX0_hasRegistersOnly_11 rfl (lv_at hl 0 rfl) ?_
      refine lv_iload_n hx hb dX0_hasRegistersOnly_12 rfl (lv_at hl 1 rfl) ?_
      refine lv_icmp_gt (tgt := 37) hx hb dX0_hasRegistersOnly_13 (by decide) (fun c_21 => absurd c_21 (by decide)) (fun _ => ?_)
      refine lv_aload_n hx hb dX0_hasRegistersOnly_16 rfl (lv_at hl 2 rfl) ?_
      refine lv_iload_n hx hb dX0_hasRegistersOnly_17 rfl (lv_at hl 3 rfl) ?_
      refine lv_iload_n hx hb dX0_hasRegistersOnly_18 rfl (lv_at hl 0 rfl) ?_
      refine lv_iadd hx hb dX0_hasRegistersOnly_19 ?_
      refine kiV (As := [.int (i + 2)]) (rest := []) (wc := [(h, .inr (0, [.ref q, .int len])), (q, .inl (g.2.1.1, N, .inl f))]) (wr := []) ⟨hx, hb, hml, hown, hts⟩ (c_X0_read l g h q N f len (i + 2) hNn) (cwV 1 hts gX0_hasRegistersOnly_X0_read rfl rfl rfl (by decide +kernel) ⟨Nat.le_of_ble_eq_true rfl, Nat.le_of_ble_eq_true rfl⟩) ⟨hK, hP, hD, hS, hA, hE, hN⟩ [0, 1] [] ⟨rfl, rfl, by decide⟩ (q0 := 0) (ci := 0) rfl rfl rfl rfl hl.1 (Nat.le_of_ble_eq_true rfl) dX0_hasRegistersOnly_20 ⟨Nat.le_of_ble_eq_true rfl, Nat.le_of_ble_eq_true rfl⟩ rfl (fun r u H locs hw hP hD hS => ?_)
      obtain ⟨hq, hw⟩ := hw
      subst r
      subst hw
      have hP := hP.sub (ws' := [(h, .inr (0, [.ref q, .int len])), (q, .inl (g.2.1.1, N, .inl f))]) [0, 1] rfl
      have hD := hD.sub (ws' := [(h, .inr (0, [.ref q, .int len])), (q, .inl (g.2.1.1, N, .inl f))]) [0, 1] (by decide) rfl
      refine kiSN (As := [.int (sp_X0_read N f (i + 2))]) (rest := []) (wc := []) (wr := [(h, .inr (0, [.ref q, .int len])), (q, .inl (g.2.1.1, N, .inl f))]) ⟨hx, hb, hml, hown, hts⟩ (c_X5_isRegister l g (sp_X0_read N f (i + 2))) ⟨va_cnB (host := RX5) 1 hts gX0_hasRegistersOnly_X5_isRegister_n45 rfl rfl rfl (hN.1 (RX0, 45, yX5_isRegister) (List.mem_of_getElem? (i := 1) rfl)) (hts (.initialized RX5) (by decide +kernel)) (by decide +kernel) ⟨Nat.le_of_ble_eq_true rfl, Nat.le_of_ble_eq_true rfl⟩, hts (.static yX5_isRegister) (by decide +kernel), trivial⟩ ⟨hK, hP, hD, hS, hA, hE, hN⟩ [] [0, 1] ⟨rfl, rfl, by decide⟩ rfl hl.1 (Nat.le_of_ble_eq_true rfl) dX0_hasRegistersOnly_23 ⟨Nat.le_of_ble_eq_true rfl, Nat.le_of_ble_eq_true rfl⟩ rfl (fun r u H locs hw hP hD hS => ?_)
      obtain ⟨hq, hw⟩ := hw
      subst r
      subst hw
      have hP := hP.sub (ws' := [(h, .inr (0, [.ref q, .int len])), (q, .inl (g.2.1.1, N, .inl f))]) [0, 1] rfl
      have hD := hD.sub (ws' := [(h, .inr (0, [.ref q, .int len])), (q, .inl (g.2.1.1, N, .inl f))]) [0, 1] (by decide) rfl
      refine lv_if_ne (tgt := 31) hx hb dX0_hasRegistersOnly_26 (by decide) (fun c_22 => ?_) (fun c_22 => ?_)
      · skip
        refine lv_iinc (v := 3) (lv' := [(3, .int 3), (2, .int 3), (0, .ref h), (1, .int i)]) hx hb dX0_hasRegistersOnly_31 hl (k := 0) rfl rfl (by decide) rfl (fun ls hl => ?_)
        refine lv_goto (tgt := 11) hx hb dX0_hasRegistersOnly_34 (by decide) ?_
        refine lv_iload_n hx hb dX0_hasRegistersOnly_11 rfl (lv_at hl 0 rfl) ?_
        refine lv_iload_n hx hb dX0_hasRegistersOnly_12 rfl (lv_at hl 1 rfl) ?_
        refine lv_icmp_gt (tgt := 37) hx hb dX0_hasRegistersOnly_13 (by decide) (fun c_23 => absurd c_23 (by decide)) (fun _ => ?_)
        refine lv_aload_n hx hb dX0_hasRegistersOnly_16 rfl (lv_at hl 2 rfl) ?_
        refine lv_iload_n hx hb dX0_hasRegistersOnly_17 rfl (lv_at hl 3 rfl) ?_
        refine lv_iload_n hx hb dX0_hasRegistersOnly_18 rfl (lv_at hl 0 rfl) ?_
        refine lv_iadd hx hb dX0_hasRegistersOnly_19 ?_
        refine kiV (As := [.int (i + 3)]) (rest := []) (wc := [(h, .inr (0, [.ref q, .int len])), (q, .inl (g.2.1.1, N, .inl f))]) (wr := []) ⟨hx, hb, hml, hown, hts⟩ (c_X0_read l g h q N f len (i + 3) hNn) (cwV 1 hts gX0_hasRegistersOnly_X0_read rfl rfl rfl (by decide +kernel) ⟨Nat.le_of_ble_eq_true rfl, Nat.le_of_ble_eq_true rfl⟩) ⟨hK, hP, hD, hS, hA, hE, hN⟩ [0, 1] [] ⟨rfl, rfl, by decide⟩ (q0 := 0) (ci := 0) rfl rfl rfl rfl hl.1 (Nat.le_of_ble_eq_true rfl) dX0_hasRegistersOnly_20 ⟨Nat.le_of_ble_eq_true rfl, Nat.le_of_ble_eq_true rfl⟩ rfl (fun r u H locs hw hP hD hS => ?_)
        obtain ⟨hq, hw⟩ := hw
        subst r
        subst hw
        have hP := hP.sub (ws' := [(h, .inr (0, [.ref q, .int len])), (q, .inl (g.2.1.1, N, .inl f))]) [0, 1] rfl
        have hD := hD.sub (ws' := [(h, .inr (0, [.ref q, .int len])), (q, .inl (g.2.1.1, N, .inl f))]) [0, 1] (by decide) rfl
        refine kiSN (As := [.int (sp_X0_read N f (i + 3))]) (rest := []) (wc := []) (wr := [(h, .inr (0, [.ref q, .int len])), (q, .inl (g.2.1.1, N, .inl f))]) ⟨hx, hb, hml, hown, hts⟩ (c_X5_isRegister l g (sp_X0_read N f (i + 3))) ⟨va_cnB (host := RX5) 1 hts gX0_hasRegistersOnly_X5_isRegister_n45 rfl rfl rfl (hN.1 (RX0, 45, yX5_isRegister) (List.mem_of_getElem? (i := 1) rfl)) (hts (.initialized RX5) (by decide +kernel)) (by decide +kernel) ⟨Nat.le_of_ble_eq_true rfl, Nat.le_of_ble_eq_true rfl⟩, hts (.static yX5_isRegister) (by decide +kernel), trivial⟩ ⟨hK, hP, hD, hS, hA, hE, hN⟩ [] [0, 1] ⟨rfl, rfl, by decide⟩ rfl hl.1 (Nat.le_of_ble_eq_true rfl) dX0_hasRegistersOnly_23 ⟨Nat.le_of_ble_eq_true rfl, Nat.le_of_ble_eq_true rfl⟩ rfl (fun r u H locs hw hP hD hS => ?_)
        obtain ⟨hq, hw⟩ := hw
        subst r
        subst hw
        have hP := hP.sub (ws' := [(h, .inr (0, [.ref q, .int len])), (q, .inl (g.2.1.1, N, .inl f))]) [0, 1] rfl
        have hD := hD.sub (ws' := [(h, .inr (0, [.ref q, .int len])), (q, .inl (g.2.1.1, N, .inl f))]) [0, 1] (by decide) rfl
        refine lv_if_ne (tgt := 31) hx hb dX0_hasRegistersOnly_26 (by decide) (fun c_24 => ?_) (fun c_24 => ?_)
        · skip
          refine lv_iinc (v := 4) (lv' := [(3, .int 4), (2, .int 3), (0, .ref h), (1, .int i)]) hx hb dX0_hasRegistersOnly_31 hl (k := 0) rfl rfl (by decide) rfl (fun ls hl => ?_)
          refine lv_goto (tgt := 11) hx hb dX0_hasRegistersOnly_34 (by decide) ?_
          refine lv_iload_n hx hb dX0_hasRegistersOnly_11 rfl (lv_at hl 0 rfl) ?_
          refine lv_iload_n hx hb dX0_hasRegistersOnly_12 rfl (lv_at hl 1 rfl) ?_
          refine lv_icmp_gt (tgt := 37) hx hb dX0_hasRegistersOnly_13 (by decide) (fun _ => ?_) (fun c_25 => absurd c_25 (by decide))
          refine lv_iconst (v := 1) hx hb dX0_hasRegistersOnly_37 (by decide) ?_
          exact k_iret hx hb hr hlocks ⟨hK, hP, hD, hS, hA, hE, hN⟩ rfl dX0_hasRegistersOnly_38 (Nat.le_of_ble_eq_true rfl) (Nat.le_of_ble_eq_true rfl) ⟨(by simp only [sp_X0_hasRegistersOnly, if_neg c_16, if_neg c_17, if_neg c_18, if_neg c_20, if_neg c_22, if_neg c_24]), rfl⟩
        · skip
          refine lv_iconst (v := 0) hx hb dX0_hasRegistersOnly_29 (by decide) ?_
          exact k_iret hx hb hr hlocks ⟨hK, hP, hD, hS, hA, hE, hN⟩ rfl dX0_hasRegistersOnly_30 (Nat.le_of_ble_eq_true rfl) (Nat.le_of_ble_eq_true rfl) ⟨(by simp only [sp_X0_hasRegistersOnly, if_neg c_16, if_neg c_17, if_neg c_18, if_neg c_20, if_neg c_22, if_pos c_24]), rfl⟩
      · skip
        refine lv_iconst (v := 0) hx hb dX0_hasRegistersOnly_29 (by decide) ?_
        exact k_iret hx hb hr hlocks ⟨hK, hP, hD, hS, hA, hE, hN⟩ rfl dX0_hasRegistersOnly_30 (Nat.le_of_ble_eq_true rfl) (Nat.le_of_ble_eq_true rfl) ⟨(by simp only [sp_X0_hasRegistersOnly, if_neg c_16, if_neg c_17, if_neg c_18, if_neg c_20, if_pos c_22]), rfl⟩
    · skip
      refine lv_iconst (v := 0) hx hb dX0_hasRegistersOnly_29 (by decide) ?_
      exact k_iret hx hb hr hlocks ⟨hK, hP, hD, hS, hA, hE, hN⟩ rfl dX0_hasRegistersOnly_30 (Nat.le_of_ble_eq_true rfl) (Nat.le_of_ble_eq_true rfl) ⟨(by simp only [sp_X0_hasRegistersOnly, if_neg c_16, if_neg c_17, if_neg c_18, if_pos c_20]), rfl⟩
def sp_X0_usesRegister (N : Nat) (f : Nat → Int32) (i : Int32) (r0 : Int32) : Int32 := if (sp_X5_registersOf (sp_X0_word N f i)) = 0 then 0 else (if (sp_X5_registersOf (sp_X0_word N f i)) = 1 then (if (sp_X0_read N f (i + 1)) = r0 then 1 else 0) else (if (sp_X5_registersOf (sp_X0_word N f i)) = 2 then (if (sp_X0_read N f (i + 1)) = r0 then 1 else (if (sp_X0_read N f (i + 2)) = r0 then 1 else 0)) else (if (sp_X0_read N f (i + 1)) = r0 then 1 else (if (sp_X0_read N f (i + 2)) = r0 then 1 else (if (sp_X0_read N f (i + 3)) = r0 then 1 else 0)))))
theorem sp_X0_usesRegister_b (N : Nat) (f : Nat → Int32) (i : Int32) (r0 : Int32) : sp_X0_usesRegister N f i r0 = 0 ∨ sp_X0_usesRegister N f i r0 = 1 := by
  unfold sp_X0_usesRegister
  repeat' split
  all_goals first | (with_reducible exact Or.inl rfl) | (with_reducible exact Or.inr rfl)
set_option maxHeartbeats 4000000 in
set_option maxRecDepth 100000 in
theorem c_X0_usesRegister (l : Launch) (g : KG) (h : Nat) (q : Nat) (N : Nat) (f : Nat → Int32) (len : Int32) (i : Int32) (r0 : Int32) (hNn : N < 2 ^ 31) : Ci l g yX0_usesRegister wsX0_usesRegister ({ frames := 2, cells := 0, slots := 0, locals := 42 }) [.ref h, .int i, .int r0] [(h, .inr (0, [.ref q, .int len])), (q, .inl (g.2.1.1, N, .inl f))] (fun r u => r = sp_X0_usesRegister N f i r0 ∧ u = [(h, .inr (0, [.ref q, .int len])), (q, .inl (g.2.1.1, N, .inl f))]) 0 0 := by
  intro sz
  refine Met.ofW (cc := cX0_usesRegister) (maxL := 5) (ret := (some .boolean)) (by decide) rfl ?_
  intro p e s m args below meth c s₁ B hml hv
  obtain ⟨rfl, hsz, hP, hK, hD0, hE, hN⟩ := hv
  have hx := B.exec
  have hb := B.bytes
  have hr := B.returns
  have hts := atoms_spec (ws := wsX0_usesRegister) B.pre
  have hown : s.vm.findClass RX0 = some m.cls := findClass_of_methodNamed B.named
  have hlocks := B.notSynchronized
  subst hsz
  have hD := hD0.self (sz := s.heap.size)
  generalize hAe : va_A [(h, .inr (0, [.ref q, .int len])), (q, .inl (g.2.1.1, N, .inl f))] s.heap.size = A at hD hE ⊢
  have hA : ∀ q : Nat, s.heap.size ≤ q → A q := fun q h => by rw [← hAe]; exact Or.inr h
  have hS : va_S A s.heap s.heap [] := va_S.rf
  have hl := lv_entry ([.ref h, .int i, .int r0]) (n := 5) (Nat.le_of_ble_eq_true rfl)
  rw [lg_entry_eq]
  generalize (lg_sl ([.ref h, .int i, .int r0]) ++ List.replicate (5 - (lg_sl ([.ref h, .int i, .int r0])).length) Slot.unset).toArray = ls at hl ⊢
  have hl : lv_has ls 5 [(0, .ref h), (1, .int i), (2, .int r0)] := hl
  refine lv_aload_n hx hb dX0_usesRegister_0 rfl (lv_at hl 0 rfl) ?_
  refine lv_iload_n hx hb dX0_usesRegister_1 rfl (lv_at hl 1 rfl) ?_
  refine kiV (As := [.int i]) (rest := []) (wc := [(h, .inr (0, [.ref q, .int len])), (q, .inl (g.2.1.1, N, .inl f))]) (wr := []) ⟨hx, hb, hml, hown, hts⟩ (c_X0_word l g h q N f len i hNn) (cwV 1 hts gX0_usesRegister_X0_word rfl rfl rfl (by decide +kernel) ⟨Nat.le_of_ble_eq_true rfl, Nat.le_of_ble_eq_true rfl⟩) ⟨hK, hP, hD, hS, hA, hE, hN⟩ [0, 1] [] ⟨rfl, rfl, by decide⟩ (q0 := 0) (ci := 0) rfl rfl rfl rfl hl.1 (Nat.le_of_ble_eq_true rfl) dX0_usesRegister_2 ⟨Nat.le_of_ble_eq_true rfl, Nat.le_of_ble_eq_true rfl⟩ rfl (fun r u H locs hw hP hD hS => ?_)
  obtain ⟨hq, hw⟩ := hw
  subst r
  subst hw
  have hP := hP.sub (ws' := [(h, .inr (0, [.ref q, .int len])), (q, .inl (g.2.1.1, N, .inl f))]) [0, 1] rfl
  have hD := hD.sub (ws' := [(h, .inr (0, [.ref q, .int len])), (q, .inl (g.2.1.1, N, .inl f))]) [0, 1] (by decide) rfl
  refine kiSN (As := [.int (sp_X0_word N f i)]) (rest := []) (wc := []) (wr := [(h, .inr (0, [.ref q, .int len])), (q, .inl (g.2.1.1, N, .inl f))]) ⟨hx, hb, hml, hown, hts⟩ (c_X5_registersOf l g (sp_X0_word N f i)) ⟨va_cnB (host := RX5) 1 hts gX0_usesRegister_X5_registersOf_n42 rfl rfl rfl (hN.1 (RX0, 42, yX5_registersOf) (List.mem_of_getElem? (i := 0) rfl)) (hts (.initialized RX5) (by decide +kernel)) (by decide +kernel) ⟨Nat.le_of_ble_eq_true rfl, Nat.le_of_ble_eq_true rfl⟩, hts (.static yX5_registersOf) (by decide +kernel), trivial⟩ ⟨hK, hP, hD, hS, hA, hE, hN⟩ [] [0, 1] ⟨rfl, rfl, by decide⟩ rfl hl.1 (Nat.le_of_ble_eq_true rfl) dX0_usesRegister_5 ⟨Nat.le_of_ble_eq_true rfl, Nat.le_of_ble_eq_true rfl⟩ rfl (fun r u H locs hw hP hD hS => ?_)
  obtain ⟨hq, hw⟩ := hw
  subst r
  subst hw
  have hP := hP.sub (ws' := [(h, .inr (0, [.ref q, .int len])), (q, .inl (g.2.1.1, N, .inl f))]) [0, 1] rfl
  have hD := hD.sub (ws' := [(h, .inr (0, [.ref q, .int len])), (q, .inl (g.2.1.1, N, .inl f))]) [0, 1] (by decide) rfl
  refine lv_istore_n (lv' := [(3, .int (sp_X5_registersOf (sp_X0_word N f i))), (0, .ref h), (1, .int i), (2, .int r0)]) hx hb dX0_usesRegister_8 rfl hl (by decide) rfl (fun ls hl => ?_)
  refine lv_iconst (v := 1) hx hb dX0_usesRegister_9 (by decide) ?_
  refine lv_istore (lv' := [(4, .int 1), (3, .int (sp_X5_registersOf (sp_X0_word N f i))), (0, .ref h), (1, .int i), (2, .int r0)]) hx hb dX0_usesRegister_10 hl (by decide) rfl (fun ls hl => ?_)
  rcases (k_cnt (sp_X0_word N f i)) with s_0 | s_1 | s_2 | s_3
  · skip
    rw [s_0] at hl
    refine lv_iload hx hb dX0_usesRegister_12 (lv_at hl 0 rfl) ?_
    refine lv_iload_n hx hb dX0_usesRegister_14 rfl (lv_at hl 1 rfl) ?_
    refine lv_icmp_gt (tgt := 38) hx hb dX0_usesRegister_15 (by decide) (fun _ => ?_) (fun c_4 => absurd c_4 (by decide))
    refine lv_iconst (v := 0) hx hb dX0_usesRegister_38 (by decide) ?_
    exact k_iret hx hb hr hlocks ⟨hK, hP, hD, hS, hA, hE, hN⟩ rfl dX0_usesRegister_39 (Nat.le_of_ble_eq_true rfl) (Nat.le_of_ble_eq_true rfl) ⟨(by simp only [sp_X0_usesRegister, if_pos s_0]), rfl⟩
  · skip
    have c_5 : ¬ (sp_X5_registersOf (sp_X0_word N f i)) = 0 := by rw [s_1]; decide
    rw [s_1] at hl
    refine lv_iload hx hb dX0_usesRegister_12 (lv_at hl 0 rfl) ?_
    refine lv_iload_n hx hb dX0_usesRegister_14 rfl (lv_at hl 1 rfl) ?_
    refine lv_icmp_gt (tgt := 38) hx hb dX0_usesRegister_15 (by decide) (fun c_6 => absurd c_6 (by decide)) (fun _ => ?_)
    refine lv_aload_n hx hb dX0_usesRegister_18 rfl (lv_at hl 2 rfl) ?_
    refine lv_iload_n hx hb dX0_usesRegister_19 rfl (lv_at hl 3 rfl) ?_
    refine lv_iload hx hb dX0_usesRegister_20 (lv_at hl 0 rfl) ?_
    refine lv_iadd hx hb dX0_usesRegister_22 ?_
    refine kiV (As := [.int (i + 1)]) (rest := []) (wc := [(h, .inr (0, [.ref q, .int len])), (q, .inl (g.2.1.1, N, .inl f))]) (wr := []) ⟨hx, hb, hml, hown, hts⟩ (c_X0_read l g h q N f len (i + 1) hNn) (cwV 1 hts gX0_usesRegister_X0_read rfl rfl rfl (by decide +kernel) ⟨Nat.le_of_ble_eq_true rfl, Nat.le_of_ble_eq_true rfl⟩) ⟨hK, hP, hD, hS, hA, hE, hN⟩ [0, 1] [] ⟨rfl, rfl, by decide⟩ (q0 := 0) (ci := 0) rfl rfl rfl rfl hl.1 (Nat.le_of_ble_eq_true rfl) dX0_usesRegister_23 ⟨Nat.le_of_ble_eq_true rfl, Nat.le_of_ble_eq_true rfl⟩ rfl (fun r u H locs hw hP hD hS => ?_)
    obtain ⟨hq, hw⟩ := hw
    subst r
    subst hw
    have hP := hP.sub (ws' := [(h, .inr (0, [.ref q, .int len])), (q, .inl (g.2.1.1, N, .inl f))]) [0, 1] rfl
    have hD := hD.sub (ws' := [(h, .inr (0, [.ref q, .int len])), (q, .inl (g.2.1.1, N, .inl f))]) [0, 1] (by decide) rfl
    refine lv_iload_n hx hb dX0_usesRegister_26 rfl (lv_at hl 4 rfl) ?_
    refine lv_icmp_ne (tgt := 32) hx hb dX0_usesRegister_27 (by decide) (fun c_7 => ?_) (fun c_7 => ?_)
    · skip
      refine lv_iinc (v := 2) (lv' := [(4, .int 2), (3, .int 1), (0, .ref h), (1, .int i), (2, .int r0)]) hx hb dX0_usesRegister_32 hl (k := 0) rfl rfl (by decide) rfl (fun ls hl => ?_)
      refine lv_goto (tgt := 12) hx hb dX0_usesRegister_35 (by decide) ?_
      refine lv_iload hx hb dX0_usesRegister_12 (lv_at hl 0 rfl) ?_
      refine lv_iload_n hx hb dX0_usesRegister_14 rfl (lv_at hl 1 rfl) ?_
      refine lv_icmp_gt (tgt := 38) hx hb dX0_usesRegister_15 (by decide) (fun _ => ?_) (fun c_8 => absurd c_8 (by decide))
      refine lv_iconst (v := 0) hx hb dX0_usesRegister_38 (by decide) ?_
      exact k_iret hx hb hr hlocks ⟨hK, hP, hD, hS, hA, hE, hN⟩ rfl dX0_usesRegister_39 (Nat.le_of_ble_eq_true rfl) (Nat.le_of_ble_eq_true rfl) ⟨(by simp only [sp_X0_usesRegister, if_neg c_5, if_pos s_1, if_neg c_7]), rfl⟩
    · skip
      refine lv_iconst (v := 1) hx hb dX0_usesRegister_30 (by decide) ?_
      exact k_iret hx hb hr hlocks ⟨hK, hP, hD, hS, hA, hE, hN⟩ rfl dX0_usesRegister_31 (Nat.le_of_ble_eq_true rfl) (Nat.le_of_ble_eq_true rfl) ⟨(by simp only [sp_X0_usesRegister, if_neg c_5, if_pos s_1, if_pos c_7]), rfl⟩
  · skip
    have c_9 : ¬ (sp_X5_registersOf (sp_X0_word N f i)) = 0 := by rw [s_2]; decide
    have c_10 : ¬ (sp_X5_registersOf (sp_X0_word N f i)) = 1 := by rw [s_2]; decide
    rw [s_2] at hl
    refine lv_iload hx hb dX0_usesRegister_12 (lv_at hl 0 rfl) ?_
    refine lv_iload_n hx hb dX0_usesRegister_14 rfl (lv_at hl 1 rfl) ?_
    refine lv_icmp_gt (tgt := 38) hx hb dX0_usesRegister_15 (by decide) (fun c_11 => absurd c_11 (by decide)) (fun _ => ?_)
    refine lv_aload_n hx hb dX0_usesRegister_18 rfl (lv_at hl 2 rfl) ?_
    refine lv_iload_n hx hb dX0_usesRegister_19 rfl (lv_at hl 3 rfl) ?_
    refine lv_iload hx hb dX0_usesRegister_20 (lv_at hl 0 rfl) ?_
    refine lv_iadd hx hb dX0_usesRegister_22 ?_
    refine kiV (As := [.int (i + 1)]) (rest := []) (wc := [(h, .inr (0, [.ref q, .int len])), (q, .inl (g.2.1.1, N, .inl f))]) (wr := []) ⟨hx, hb, hml, hown, hts⟩ (c_X0_read l g h q N f len (i + 1) hNn) (cwV 1 hts gX0_usesRegister_X0_read rfl rfl rfl (by decide +kernel) ⟨Nat.le_of_ble_eq_true rfl, Nat.le_of_ble_eq_true rfl⟩) ⟨hK, hP, hD, hS, hA, hE, hN⟩ [0, 1] [] ⟨rfl, rfl, by decide⟩ (q0 := 0) (ci := 0) rfl rfl rfl rfl hl.1 (Nat.le_of_ble_eq_true rfl) dX0_usesRegister_23 ⟨Nat.le_of_ble_eq_true rfl, Nat.le_of_ble_eq_true rfl⟩ rfl (fun r u H locs hw hP hD hS => ?_)
    obtain ⟨hq, hw⟩ := hw
    subst r
    subst hw
    have hP := hP.sub (ws' := [(h, .inr (0, [.ref q, .int len])), (q, .inl (g.2.1.1, N, .inl f))]) [0, 1] rfl
    have hD := hD.sub (ws' := [(h, .inr (0, [.ref q, .int len])), (q, .inl (g.2.1.1, N, .inl f))]) [0, 1] (by decide) rfl
    refine lv_iload_n hx hb dX0_usesRegister_26 rfl (lv_at hl 4 rfl) ?_
    refine lv_icmp_ne (tgt := 32) hx hb dX0_usesRegister_27 (by decide) (fun c_12 => ?_) (fun c_12 => ?_)
    · skip
      refine lv_iinc (v := 2) (lv' := [(4, .int 2), (3, .int 2), (0, .ref h), (1, .int i), (2, .int r0)]) hx hb dX0_usesRegister_32 hl (k := 0) rfl rfl (by decide) rfl (fun ls hl => ?_)
      refine lv_goto (tgt := 12) hx hb dX0_usesRegister_35 (by decide) ?_
      refine lv_iload hx hb dX0_usesRegister_12 (lv_at hl 0 rfl) ?_
      refine lv_iload_n hx hb dX0_usesRegister_14 rfl (lv_at hl 1 rfl) ?_
      refine lv_icmp_gt (tgt := 38) hx hb dX0_usesRegister_15 (by decide) (fun c_13 => absurd c_13 (by decide)) (fun _ => ?_)
      refine lv_aload_n hx hb dX0_usesRegister_18 rfl (lv_at hl 2 rfl) ?_
      refine lv_iload_n hx hb dX0_usesRegister_19 rfl (lv_at hl 3 rfl) ?_
      refine lv_iload hx hb dX0_usesRegister_20 (lv_at hl 0 rfl) ?_
      refine lv_iadd hx hb dX0_usesRegister_22 ?_
      refine kiV (As := [.int (i + 2)]) (rest := []) (wc := [(h, .inr (0, [.ref q, .int len])), (q, .inl (g.2.1.1, N, .inl f))]) (wr := []) ⟨hx, hb, hml, hown, hts⟩ (c_X0_read l g h q N f len (i + 2) hNn) (cwV 1 hts gX0_usesRegister_X0_read rfl rfl rfl (by decide +kernel) ⟨Nat.le_of_ble_eq_true rfl, Nat.le_of_ble_eq_true rfl⟩) ⟨hK, hP, hD, hS, hA, hE, hN⟩ [0, 1] [] ⟨rfl, rfl, by decide⟩ (q0 := 0) (ci := 0) rfl rfl rfl rfl hl.1 (Nat.le_of_ble_eq_true rfl) dX0_usesRegister_23 ⟨Nat.le_of_ble_eq_true rfl, Nat.le_of_ble_eq_true rfl⟩ rfl (fun r u H locs hw hP hD hS => ?_)
      obtain ⟨hq, hw⟩ := hw
      subst r
      subst hw
      have hP := hP.sub (ws' := [(h, .inr (0, [.ref q, .int len])), (q, .inl (g.2.1.1, N, .inl f))]) [0, 1] rfl
      have hD := hD.sub (ws' := [(h, .inr (0, [.ref q, .int len])), (q, .inl (g.2.1.1, N, .inl f))]) [0, 1] (by decide) rfl
      refine lv_iload_n hx hb dX0_usesRegister_26 rfl (lv_at hl 4 rfl) ?_
      refine lv_icmp_ne (tgt := 32) hx hb dX0_usesRegister_27 (by decide) (fun c_14 => ?_) (fun c_14 => ?_)
      · skip
        refine lv_iinc (v := 3) (lv' := [(4, .int 3), (3, .int 2), (0, .ref h), (1, .int i), (2, .int r0)]) hx hb dX0_usesRegister_32 hl (k := 0) rfl rfl (by decide) rfl (fun ls hl => ?_)
        refine lv_goto (tgt := 12) hx hb dX0_usesRegister_35 (by decide) ?_
        refine lv_iload hx hb dX0_usesRegister_12 (lv_at hl 0 rfl) ?_
        refine lv_iload_n hx hb dX0_usesRegister_14 rfl (lv_at hl 1 rfl) ?_
        refine lv_icmp_gt (tgt := 38) hx hb dX0_usesRegister_15 (by decide) (fun _ => ?_) (fun c_15 => absurd c_15 (by decide))
        refine lv_iconst (v := 0) hx hb dX0_usesRegister_38 (by decide) ?_
        exact k_iret hx hb hr hlocks ⟨hK, hP, hD, hS, hA, hE, hN⟩ rfl dX0_usesRegister_39 (Nat.le_of_ble_eq_true rfl) (Nat.le_of_ble_eq_true rfl) ⟨(by simp only [sp_X0_usesRegister, if_neg c_9, if_neg c_10, if_pos s_2, if_neg c_12, if_neg c_14]), rfl⟩
      · skip
        refine lv_iconst (v := 1) hx hb dX0_usesRegister_30 (by decide) ?_
        exact k_iret hx hb hr hlocks ⟨hK, hP, hD, hS, hA, hE, hN⟩ rfl dX0_usesRegister_31 (Nat.le_of_ble_eq_true rfl) (Nat.le_of_ble_eq_true rfl) ⟨(by simp only [sp_X0_usesRegister, if_neg c_9, if_neg c_10, if_pos s_2, if_neg c_12, if_pos c_14]), rfl⟩
    · skip
      refine lv_iconst (v := 1) hx hb dX0_usesRegister_30 (by decide) ?_
      exact k_iret hx hb hr hlocks ⟨hK, hP, hD, hS, hA, hE, hN⟩ rfl dX0_usesRegister_31 (Nat.le_of_ble_eq_true rfl) (Nat.le_of_ble_eq_true rfl) ⟨(by simp only [sp_X0_usesRegister, if_neg c_9, if_neg c_10, if_pos s_2, if_pos c_12]), rfl⟩
  · skip
    have c_16 : ¬ (sp_X5_registersOf (sp_X0_word N f i)) = 0 := by rw [s_3]; decide
    have c_17 : ¬ (sp_X5_registersOf (sp_X0_word N f i)) = 1 := by rw [s_3]; decide
    have c_18 : ¬ (sp_X5_registersOf (sp_X0_word N f i)) = 2 := by rw [s_3]; decide
    rw [s_3] at hl
    refine lv_iload hx hb dX0_usesRegister_12 (lv_at hl 0 rfl) ?_
    refine lv_iload_n hx hb dX0_usesRegister_14 rfl (lv_at hl 1 rfl) ?_
    refine lv_icmp_gt (tgt := 38) hx hb dX0_usesRegister_15 (by decide) (fun c_19 => absurd c_19 (by decide)) (fun _ => ?_)
    refine lv_aload_n hx hb dX0_usesRegister_18 rfl (lv_at hl 2 rfl) ?_
    refine lv_iload_n hx hb dX0_usesRegister_19 rfl (lv_at hl 3 rfl) ?_
    refine lv_iload hx hb dX0_usesRegister_20 (lv_at hl 0 rfl) ?_
    refine lv_iadd hx hb dX0_usesRegister_22 ?_
    refine kiV (As := [.int (i + 1)]) (rest := []) (wc := [(h, .inr (0, [.ref q, .int len])), (q, .inl (g.2.1.1, N, .inl f))]) (wr := []) ⟨hx, hb, hml, hown, hts⟩ (c_X0_read l g h q N f len (i + 1) hNn) (cwV 1 hts gX0_usesRegister_X0_read rfl rfl rfl (by decide +kernel) ⟨Nat.le_of_ble_eq_true rfl, Nat.le_of_ble_eq_true rfl⟩) ⟨hK, hP, hD, hS, hA, hE, hN⟩ [0, 1] [] ⟨rfl, rfl, by decide⟩ (q0 := 0) (ci := 0) rfl rfl rfl rfl hl.1 (Nat.le_of_ble_eq_true rfl) dX0_usesRegister_23 ⟨Nat.le_of_ble_eq_true rfl, Nat.le_of_ble_eq_true rfl⟩ rfl (fun r u H locs hw hP hD hS => ?_)
    obtain ⟨hq, hw⟩ := hw
    subst r
    subst hw
    have hP := hP.sub (ws' := [(h, .inr (0, [.ref q, .int len])), (q, .inl (g.2.1.1, N, .inl f))]) [0, 1] rfl
    have hD := hD.sub (ws' := [(h, .inr (0, [.ref q, .int len])), (q, .inl (g.2.1.1, N, .inl f))]) [0, 1] (by decide) rfl
    refine lv_iload_n hx hb dX0_usesRegister_26 rfl (lv_at hl 4 rfl) ?_
    refine lv_icmp_ne (tgt := 32) hx hb dX0_usesRegister_27 (by decide) (fun c_20 => ?_) (fun c_20 => ?_)
    · skip
      refine lv_iinc (v := 2) (lv' := [(4, .int 2), (3, .int 3), (0, .ref h), (1, .int i), (2, .int r0)]) hx hb dX0_usesRegister_32 hl (k := 0) rfl rfl (by decide) rfl (fun ls hl => ?_)
      refine lv_goto (tgt := 12) hx hb dX0_usesRegister_35 (by decide) ?_
      refine lv_iload hx hb dX0_usesRegister_12 (lv_at hl 0 rfl) ?_
      refine lv_iload_n hx hb dX0_usesRegister_14 rfl (lv_at hl 1 rfl) ?_
      refine lv_icmp_gt (tgt := 38) hx hb dX0_usesRegister_15 (by decide) (fun c_21 => absurd c_21 (by decide)) (fun _ => ?_)
      refine lv_aload_n hx hb dX0_usesRegister_18 rfl (lv_at hl 2 rfl) ?_
      refine lv_iload_n hx hb dX0_usesRegister_19 rfl (lv_at hl 3 rfl) ?_
      refine lv_iload hx hb dX0_usesRegister_20 (lv_at hl 0 rfl) ?_
      refine lv_iadd hx hb dX0_usesRegister_22 ?_
      refine kiV (As := [.int (i + 2)]) (rest := []) (wc := [(h, .inr (0, [.ref q, .int len])), (q, .inl (g.2.1.1, N, .inl f))]) (wr := []) ⟨hx, hb, hml, hown, hts⟩ (c_X0_read l g h q N f len (i + 2) hNn) (cwV 1 hts gX0_usesRegister_X0_read rfl rfl rfl (by decide +kernel) ⟨Nat.le_of_ble_eq_true rfl, Nat.le_of_ble_eq_true rfl⟩) ⟨hK, hP, hD, hS, hA, hE, hN⟩ [0, 1] [] ⟨rfl, rfl, by decide⟩ (q0 := 0) (ci := 0) rfl rfl rfl rfl hl.1 (Nat.le_of_ble_eq_true rfl) dX0_usesRegister_23 ⟨Nat.le_of_ble_eq_true rfl, Nat.le_of_ble_eq_true rfl⟩ rfl (fun r u H locs hw hP hD hS => ?_)
      obtain ⟨hq, hw⟩ := hw
      subst r
      subst hw
      have hP := hP.sub (ws' := [(h, .inr (0, [.ref q, .int len])), (q, .inl (g.2.1.1, N, .inl f))]) [0, 1] rfl
      have hD := hD.sub (ws' := [(h, .inr (0, [.ref q, .int len])), (q, .inl (g.2.1.1, N, .inl f))]) [0, 1] (by decide) rfl
      refine lv_iload_n hx hb dX0_usesRegister_26 rfl (lv_at hl 4 rfl) ?_
      refine lv_icmp_ne (tgt := 32) hx hb dX0_usesRegister_27 (by decide) (fun c_22 => ?_) (fun c_22 => ?_)
      · skip
        refine lv_iinc (v := 3) (lv' := [(4, .int 3), (3, .int 3), (0, .ref h), (1, .int i), (2, .int r0)]) hx hb dX0_usesRegister_32 hl (k := 0) rfl rfl (by decide) rfl (fun ls hl => ?_)
        refine lv_goto (tgt := 12) hx hb dX0_usesRegister_35 (by decide) ?_
        refine lv_iload hx hb dX0_usesRegister_12 (lv_at hl 0 rfl) ?_
        refine lv_iload_n hx hb dX0_usesRegister_14 rfl (lv_at hl 1 rfl) ?_
        refine lv_icmp_gt (tgt := 38) hx hb dX0_usesRegister_15 (by decide) (fun c_23 => absurd c_23 (by decide)) (fun _ => ?_)
        refine lv_aload_n hx hb dX0_usesRegister_18 rfl (lv_at hl 2 rfl) ?_
        refine lv_iload_n hx hb dX0_usesRegister_19 rfl (lv_at hl 3 rfl) ?_
        refine lv_iload hx hb dX0_usesRegister_20 (lv_at hl 0 rfl) ?_
        refine lv_iadd hx hb dX0_usesRegister_22 ?_
        refine kiV (As := [.int (i + 3)]) (rest := []) (wc := [(h, .inr (0, [.ref q, .int len])), (q, .inl (g.2.1.1, N, .inl f))]) (wr := []) ⟨hx, hb, hml, hown, hts⟩ (c_X0_read l g h q N f len (i + 3) hNn) (cwV 1 hts gX0_usesRegister_X0_read rfl rfl rfl (by decide +kernel) ⟨Nat.le_of_ble_eq_true rfl, Nat.le_of_ble_eq_true rfl⟩) ⟨hK, hP, hD, hS, hA, hE, hN⟩ [0, 1] [] ⟨rfl, rfl, by decide⟩ (q0 := 0) (ci := 0) rfl rfl rfl rfl hl.1 (Nat.le_of_ble_eq_true rfl) dX0_usesRegister_23 ⟨Nat.le_of_ble_eq_true rfl, Nat.le_of_ble_eq_true rfl⟩ rfl (fun r u H locs hw hP hD hS => ?_)
        obtain ⟨hq, hw⟩ := hw
        subst r
        subst hw
        have hP := hP.sub (ws' := [(h, .inr (0, [.ref q, .int len])), (q, .inl (g.2.1.1, N, .inl f))]) [0, 1] rfl
        have hD := hD.sub (ws' := [(h, .inr (0, [.ref q, .int len])), (q, .inl (g.2.1.1, N, .inl f))]) [0, 1] (by decide) rfl
        refine lv_iload_n hx hb dX0_usesRegister_26 rfl (lv_at hl 4 rfl) ?_
        refine lv_icmp_ne (tgt := 32) hx hb dX0_usesRegister_27 (by decide) (fun c_24 => ?_) (fun c_24 => ?_)
        · skip
          refine lv_iinc (v := 4) (lv' := [(4, .int 4), (3, .int 3), (0, .ref h), (1, .int i), (2, .int r0)]) hx hb dX0_usesRegister_32 hl (k := 0) rfl rfl (by decide) rfl (fun ls hl => ?_)
          refine lv_goto (tgt := 12) hx hb dX0_usesRegister_35 (by decide) ?_
          refine lv_iload hx hb dX0_usesRegister_12 (lv_at hl 0 rfl) ?_
          refine lv_iload_n hx hb dX0_usesRegister_14 rfl (lv_at hl 1 rfl) ?_
          refine lv_icmp_gt (tgt := 38) hx hb dX0_usesRegister_15 (by decide) (fun _ => ?_) (fun c_25 => absurd c_25 (by decide))
          refine lv_iconst (v := 0) hx hb dX0_usesRegister_38 (by decide) ?_
          exact k_iret hx hb hr hlocks ⟨hK, hP, hD, hS, hA, hE, hN⟩ rfl dX0_usesRegister_39 (Nat.le_of_ble_eq_true rfl) (Nat.le_of_ble_eq_true rfl) ⟨(by simp only [sp_X0_usesRegister, if_neg c_16, if_neg c_17, if_neg c_18, if_neg c_20, if_neg c_22, if_neg c_24]), rfl⟩
        · skip
          refine lv_iconst (v := 1) hx hb dX0_usesRegister_30 (by decide) ?_
          exact k_iret hx hb hr hlocks ⟨hK, hP, hD, hS, hA, hE, hN⟩ rfl dX0_usesRegister_31 (Nat.le_of_ble_eq_true rfl) (Nat.le_of_ble_eq_true rfl) ⟨(by simp only [sp_X0_usesRegister, if_neg c_16, if_neg c_17, if_neg c_18, if_neg c_20, if_neg c_22, if_pos c_24]), rfl⟩
      · skip
        refine lv_iconst (v := 1) hx hb dX0_usesRegister_30 (by decide) ?_
        exact k_iret hx hb hr hlocks ⟨hK, hP, hD, hS, hA, hE, hN⟩ rfl dX0_usesRegister_31 (Nat.le_of_ble_eq_true rfl) (Nat.le_of_ble_eq_true rfl) ⟨(by simp only [sp_X0_usesRegister, if_neg c_16, if_neg c_17, if_neg c_18, if_neg c_20, if_pos c_22]), rfl⟩
    · skip
      refine lv_iconst (v := 1) hx hb dX0_usesRegister_30 (by decide) ?_
      exact k_iret hx hb hr hlocks ⟨hK, hP, hD, hS, hA, hE, hN⟩ rfl dX0_usesRegister_31 (Nat.le_of_ble_eq_true rfl) (Nat.le_of_ble_eq_true rfl) ⟨(by simp only [sp_X0_usesRegister, if_neg c_16, if_neg c_17, if_neg c_18, if_pos c_20]), rfl⟩
def sp_X0_write_cells (N : Nat) (f : Nat → Int32) (i : Int32) (w : Int32) (a : Int32) (b : Int32) (c0 : Int32) : Nat → Int32 := if i < 0 then f else (if ((nI N) - 4) < i then f else (upd (upd (upd (upd f i.toNatClampNeg w) (i + 1).toNatClampNeg a) (i + 2).toNatClampNeg b) (i + 3).toNatClampNeg c0))
set_option maxHeartbeats 4000000 in
set_option maxRecDepth 100000 in
theorem c_X0_write (l : Launch) (g : KG) (h : Nat) (q : Nat) (N : Nat) (f : Nat → Int32) (len : Int32) (i : Int32) (w : Int32) (a : Int32) (b : Int32) (c0 : Int32) (hNn : N < 2 ^ 31) : Cv l g yX0_write wsX0_write ({ frames := 0, cells := 0, slots := 0, locals := 0 }) [.ref h, .int i, .int w, .int a, .int b, .int c0] [(h, .inr (0, [.ref q, .int len])), (q, .inl (g.2.1.1, N, .inl f))] (fun u => u = [(h, .inr (0, [.ref q, .int len])), (q, .inl (g.2.1.1, N, .inl (sp_X0_write_cells N f i w a b c0)))]) 0 0 := by
  intro sz
  refine Met.ofW (cc := cX0_write) (maxL := 6) (ret := none) (by decide) rfl ?_
  intro p e s m args below meth c s₁ B hml hv
  obtain ⟨rfl, hsz, hP, hK, hD0, hE, hN⟩ := hv
  have hx := B.exec
  have hb := B.bytes
  have hr := B.returns
  have hts := atoms_spec (ws := wsX0_write) B.pre
  have hown : s.vm.findClass RX0 = some m.cls := findClass_of_methodNamed B.named
  have hlocks := B.notSynchronized
  have iX0 : ∀ w ∈ u_ws RX0 TX0 2, w ∈ wsX0_write := by decide +kernel
  subst hsz
  have hD := hD0.self (sz := s.heap.size)
  generalize hAe : va_A [(h, .inr (0, [.ref q, .int len])), (q, .inl (g.2.1.1, N, .inl f))] s.heap.size = A at hD hE ⊢
  have hA : ∀ q : Nat, s.heap.size ≤ q → A q := fun q h => by rw [← hAe]; exact Or.inr h
  have hS : va_S A s.heap s.heap [] := va_S.rf
  have hl := lv_entry ([.ref h, .int i, .int w, .int a, .int b, .int c0]) (n := 6) (Nat.le_of_ble_eq_true rfl)
  rw [lg_entry_eq]
  generalize (lg_sl ([.ref h, .int i, .int w, .int a, .int b, .int c0]) ++ List.replicate (6 - (lg_sl ([.ref h, .int i, .int w, .int a, .int b, .int c0])).length) Slot.unset).toArray = ls at hl ⊢
  have hl : lv_has ls 6 [(0, .ref h), (1, .int i), (2, .int w), (3, .int a), (4, .int b), (5, .int c0)] := hl
  refine lv_iload_n hx hb dX0_write_0 rfl (lv_at hl 1 rfl) ?_
  refine lv_if_lt (tgt := 51) hx hb dX0_write_1 (by decide) (fun c_0 => ?_) (fun c_0 => ?_)
  · skip
    exact k_vret hx hb hr hlocks ⟨hK, hP, hD, hS, hA, hE, hN⟩ dX0_write_51 (Nat.le_of_ble_eq_true rfl) (Nat.le_of_ble_eq_true rfl) (by simp only [sp_X0_write_cells, if_pos c_0])
  · skip
    refine lv_iload_n hx hb dX0_write_4 rfl (lv_at hl 1 rfl) ?_
    refine lv_aload_n hx hb dX0_write_5 rfl (lv_at hl 0 rfl) ?_
    refine va_get (D := g.1) (ci := 0) (v := .ref q) (C := RX0) (T := TX0) (N := 2) hx hb hts iX0 hown hK hP 0 rfl rfl 0 (by decide) (hts (.fieldLink RX0 15 "FaultIsolation$Code" "cells" "[I") (by decide +kernel)) (fun _ h9 => h9) rfl dX0_write_6 ?_
    refine va_alen (v := nI N) hx hb hK hP 1 0 rfl rfl rfl dX0_write_9 ?_
    refine lv_iconst (v := 4) hx hb dX0_write_10 (by decide) ?_
    refine lv_isub hx hb dX0_write_11 ?_
    refine lv_icmp_gt (tgt := 51) hx hb dX0_write_12 (by decide) (fun c_1 => ?_) (fun c_1 => ?_)
    · skip
      exact k_vret hx hb hr hlocks ⟨hK, hP, hD, hS, hA, hE, hN⟩ dX0_write_51 (Nat.le_of_ble_eq_true rfl) (Nat.le_of_ble_eq_true rfl) (by simp only [sp_X0_write_cells, if_neg c_0, if_pos c_1])
    · skip
      refine lv_aload_n hx hb dX0_write_15 rfl (lv_at hl 0 rfl) ?_
      refine va_get (D := g.1) (ci := 0) (v := .ref q) (C := RX0) (T := TX0) (N := 2) hx hb hts iX0 hown hK hP 0 rfl rfl 0 (by decide) (hts (.fieldLink RX0 15 "FaultIsolation$Code" "cells" "[I") (by decide +kernel)) (fun _ h9 => h9) rfl dX0_write_16 ?_
      refine lv_iload_n hx hb dX0_write_19 rfl (lv_at hl 1 rfl) ?_
      refine lv_iload_n hx hb dX0_write_20 rfl (lv_at hl 2 rfl) ?_
      refine va_iast hx hb hK hP hD hS 1 0 rfl rfl (k_in40 c_0 c_1 hNn) dX0_write_21 (fun H locs hP hD hS => ?_)
      have hP : va_P g.1 vwCl [(h, .inr (0, [.ref q, .int len])), (q, .inl (g.2.1.1, N, .inl (upd f i.toNatClampNeg w)))] H := hP
      have hD : va_D A [(h, .inr (0, [.ref q, .int len])), (q, .inl (g.2.1.1, N, .inl (upd f i.toNatClampNeg w)))] := hD
      refine lv_aload_n hx hb dX0_write_22 rfl (lv_at hl 0 rfl) ?_
      refine va_get (D := g.1) (ci := 0) (v := .ref q) (C := RX0) (T := TX0) (N := 2) hx hb hts iX0 hown hK hP 0 rfl rfl 0 (by decide) (hts (.fieldLink RX0 15 "FaultIsolation$Code" "cells" "[I") (by decide +kernel)) (fun _ h9 => h9) rfl dX0_write_23 ?_
      refine lv_iload_n hx hb dX0_write_26 rfl (lv_at hl 1 rfl) ?_
      refine lv_iconst (v := 1) hx hb dX0_write_27 (by decide) ?_
      refine lv_iadd hx hb dX0_write_28 ?_
      refine lv_iload_n hx hb dX0_write_29 rfl (lv_at hl 3 rfl) ?_
      refine va_iast hx hb hK hP hD hS 1 0 rfl rfl (k_in4 1 (by decide) c_0 c_1 hNn) dX0_write_30 (fun H locs hP hD hS => ?_)
      have hP : va_P g.1 vwCl [(h, .inr (0, [.ref q, .int len])), (q, .inl (g.2.1.1, N, .inl (upd (upd f i.toNatClampNeg w) (i + 1).toNatClampNeg a)))] H := hP
      have hD : va_D A [(h, .inr (0, [.ref q, .int len])), (q, .inl (g.2.1.1, N, .inl (upd (upd f i.toNatClampNeg w) (i + 1).toNatClampNeg a)))] := hD
      refine lv_aload_n hx hb dX0_write_31 rfl (lv_at hl 0 rfl) ?_
      refine va_get (D := g.1) (ci := 0) (v := .ref q) (C := RX0) (T := TX0) (N := 2) hx hb hts iX0 hown hK hP 0 rfl rfl 0 (by decide) (hts (.fieldLink RX0 15 "FaultIsolation$Code" "cells" "[I") (by decide +kernel)) (fun _ h9 => h9) rfl dX0_write_32 ?_
      refine lv_iload_n hx hb dX0_write_35 rfl (lv_at hl 1 rfl) ?_
      refine lv_iconst (v := 2) hx hb dX0_write_36 (by decide) ?_
      refine lv_iadd hx hb dX0_write_37 ?_
      refine lv_iload hx hb dX0_write_38 (lv_at hl 4 rfl) ?_
      refine va_iast hx hb hK hP hD hS 1 0 rfl rfl (k_in4 2 (by decide) c_0 c_1 hNn) dX0_write_40 (fun H locs hP hD hS => ?_)
      have hP : va_P g.1 vwCl [(h, .inr (0, [.ref q, .int len])), (q, .inl (g.2.1.1, N, .inl (upd (upd (upd f i.toNatClampNeg w) (i + 1).toNatClampNeg a) (i + 2).toNatClampNeg b)))] H := hP
      have hD : va_D A [(h, .inr (0, [.ref q, .int len])), (q, .inl (g.2.1.1, N, .inl (upd (upd (upd f i.toNatClampNeg w) (i + 1).toNatClampNeg a) (i + 2).toNatClampNeg b)))] := hD
      refine lv_aload_n hx hb dX0_write_41 rfl (lv_at hl 0 rfl) ?_
      refine va_get (D := g.1) (ci := 0) (v := .ref q) (C := RX0) (T := TX0) (N := 2) hx hb hts iX0 hown hK hP 0 rfl rfl 0 (by decide) (hts (.fieldLink RX0 15 "FaultIsolation$Code" "cells" "[I") (by decide +kernel)) (fun _ h9 => h9) rfl dX0_write_42 ?_
      refine lv_iload_n hx hb dX0_write_45 rfl (lv_at hl 1 rfl) ?_
      refine lv_iconst (v := 3) hx hb dX0_write_46 (by decide) ?_
      refine lv_iadd hx hb dX0_write_47 ?_
      refine lv_iload hx hb dX0_write_48 (lv_at hl 5 rfl) ?_
      refine va_iast hx hb hK hP hD hS 1 0 rfl rfl (k_in4 3 (by decide) c_0 c_1 hNn) dX0_write_50 (fun H locs hP hD hS => ?_)
      have hP : va_P g.1 vwCl [(h, .inr (0, [.ref q, .int len])), (q, .inl (g.2.1.1, N, .inl (upd (upd (upd (upd f i.toNatClampNeg w) (i + 1).toNatClampNeg a) (i + 2).toNatClampNeg b) (i + 3).toNatClampNeg c0)))] H := hP
      have hD : va_D A [(h, .inr (0, [.ref q, .int len])), (q, .inl (g.2.1.1, N, .inl (upd (upd (upd (upd f i.toNatClampNeg w) (i + 1).toNatClampNeg a) (i + 2).toNatClampNeg b) (i + 3).toNatClampNeg c0)))] := hD
      exact k_vret hx hb hr hlocks ⟨hK, hP, hD, hS, hA, hE, hN⟩ dX0_write_51 (Nat.le_of_ble_eq_true rfl) (Nat.le_of_ble_eq_true rfl) (by simp only [sp_X0_write_cells, if_neg c_0, if_neg c_1])
