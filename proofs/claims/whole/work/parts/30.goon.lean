abbrev MS : Type := (Nat → Int32) × (Nat → Int32) × Int32 × Int32 × Int32 × Int32 × Int32 × Int32
def ms_next (base : Int32) (N : Nat) (f : Nat → Int32) (len pr : Int32) (x : MS) : MS := (sp_X1_step_registers x.1 x.2.1 x.2.2.1 N f len pr, sp_X1_step_cells x.1 x.2.1 x.2.2.1 N f len pr, sp_X1_step_address x.1 x.2.2.1 N f len pr, sp_X1_step_steps x.2.2.1 x.2.2.2.1 N f len pr, sp_X1_step_strays x.1 base x.2.2.1 x.2.2.2.2.1 N f len pr, sp_X1_step_slips x.1 x.2.2.1 x.2.2.2.2.2.1 N f len pr, sp_X1_step_regionStores x.1 base x.2.2.1 x.2.2.2.2.2.2.1 N f len pr, sp_X1_step_latestStray x.1 base x.2.2.1 x.2.2.2.2.2.2.2 N f len pr)
def ms_ret (N : Nat) (f : Nat → Int32) (len pr : Int32) (x : MS) : Int32 := sp_X1_step x.1 x.2.2.1 N f len pr
def ms_run (base : Int32) (N : Nat) (f : Nat → Int32) (len pr : Int32) : Nat → MS → Int32 × MS
  | 0, x => (0, x)
  | k + 1, x => if ms_ret N f len pr x = 0 then ms_run base N f len pr k (ms_next base N f len pr x) else (ms_ret N f len pr x, ms_next base N f len pr x)
theorem ms_run_s {base : Int32} {N : Nat} {f : Nat → Int32} {len pr : Int32} {x : MS} {n j : Nat} (h : j < n) : ms_run base N f len pr (n - j) x = if ms_ret N f len pr x = 0 then ms_run base N f len pr (n - (j + 1)) (ms_next base N f len pr x) else (ms_ret N f len pr x, ms_next base N f len pr x) := by
  rw [show n - j = (n - (j + 1)) + 1 by omega]
  rfl
theorem ms_end {base : Int32} {N : Nat} {f : Nat → Int32} {len pr : Int32} {x : MS} {n j : Nat} {en : Int32} (h : n ≤ j) : (if en = 0 then ms_run base N f len pr (n - j) x else (en, x)) = (en, x) := by
  rw [show n - j = 0 by omega]
  by_cases z : en = 0
  · rw [if_pos z, z]
    rfl
  · rw [if_neg z]


set_option maxHeartbeats 4000000 in
set_option maxRecDepth 100000 in
theorem c_X1_goOn (l : Launch) (g : KG) (hM : Nat) (qr : Nat) (qm : Nat) (fr : Nat → Int32) (fm : Nat → Int32) (base : Int32) (ad : Int32) (sn : Int32) (sy : Int32) (sl : Int32) (rg : Int32) (ly : Int32) (h : Nat) (q : Nat) (N : Nat) (f : Nat → Int32) (len : Int32) (pr : Int32) (sa : Int32) (n : Nat) (hNn : N < 2 ^ 31) (hn : n ≤ 1000) : Ci l g yX1_goOn wsX1_goOn ({ frames := 4, cells := 0, slots := 0, locals := 90 }) [.ref hM, .ref h, .int pr, .int sa, .int (nI n)] [(hM, .inr (1, [.int base, .ref qr, .ref qm, .int ad, .int sn, .int sy, .int sl, .int rg, .int ly])), (qr, .inl (g.2.1.1, 8, .inl fr)), (qm, .inl (g.2.1.1, 4096, .inl fm)), (h, .inr (0, [.ref q, .int len])), (q, .inl (g.2.1.1, N, .inl f))] (fun r u => r = (ms_run base N f len pr n (fr, fm, sa, 0, 0, 0, 0, -1)).1 ∧ u = [(hM, .inr (1, [.int base, .ref qr, .ref qm, .int ((ms_run base N f len pr n (fr, fm, sa, 0, 0, 0, 0, -1)).2.2.2.1), .int ((ms_run base N f len pr n (fr, fm, sa, 0, 0, 0, 0, -1)).2.2.2.2.1), .int ((ms_run base N f len pr n (fr, fm, sa, 0, 0, 0, 0, -1)).2.2.2.2.2.1), .int ((ms_run base N f len pr n (fr, fm, sa, 0, 0, 0, 0, -1)).2.2.2.2.2.2.1), .int ((ms_run base N f len pr n (fr, fm, sa, 0, 0, 0, 0, -1)).2.2.2.2.2.2.2.1), .int ((ms_run base N f len pr n (fr, fm, sa, 0, 0, 0, 0, -1)).2.2.2.2.2.2.2.2)])), (qr, .inl (g.2.1.1, 8, .inl ((ms_run base N f len pr n (fr, fm, sa, 0, 0, 0, 0, -1)).2.1))), (qm, .inl (g.2.1.1, 4096, .inl ((ms_run base N f len pr n (fr, fm, sa, 0, 0, 0, 0, -1)).2.2.1))), (h, .inr (0, [.ref q, .int len])), (q, .inl (g.2.1.1, N, .inl f))]) 0 0 := by
  intro sz
  refine Met.ofW (cc := cX1_goOn) (maxL := 7) (ret := (some .int)) (by decide) rfl ?_
  intro p e s m args below meth c s₁ B hml hv
  obtain ⟨rfl, hsz, hP, hK, hD0, hE, hN⟩ := hv
  have hx := B.exec
  have hb := B.bytes
  have hr := B.returns
  have hts := atoms_spec (ws := wsX1_goOn) B.pre
  have hown : s.vm.findClass RX1 = some m.cls := findClass_of_methodNamed B.named
  have hlocks := B.notSynchronized
  have iX1 : ∀ w ∈ u_ws RX1 TX1 9, w ∈ wsX1_goOn := by decide +kernel
  subst hsz
  have hD := hD0.self (sz := s.heap.size)
  generalize hAe : va_A [(hM, .inr (1, [.int base, .ref qr, .ref qm, .int ad, .int sn, .int sy, .int sl, .int rg, .int ly])), (qr, .inl (g.2.1.1, 8, .inl fr)), (qm, .inl (g.2.1.1, 4096, .inl fm)), (h, .inr (0, [.ref q, .int len])), (q, .inl (g.2.1.1, N, .inl f))] s.heap.size = A at hD hE ⊢
  have hA : ∀ q : Nat, s.heap.size ≤ q → A q := fun q h => by rw [← hAe]; exact Or.inr h
  have hS : va_S A s.heap s.heap [] := va_S.rf
  have hl := lv_entry ([.ref hM, .ref h, .int pr, .int sa, .int (nI n)]) (n := 7) (Nat.le_of_ble_eq_true rfl)
  rw [lg_entry_eq]
  generalize (lg_sl ([.ref hM, .ref h, .int pr, .int sa, .int (nI n)]) ++ List.replicate (7 - (lg_sl ([.ref hM, .ref h, .int pr, .int sa, .int (nI n)])).length) Slot.unset).toArray = ls at hl ⊢
  have hl : lv_has ls 7 [(0, .ref hM), (1, .ref h), (2, .int pr), (3, .int sa), (4, .int (nI n))] := hl
  refine lv_aload_n hx hb dX1_goOn_0 rfl (lv_at hl 0 rfl) ?_
  refine lv_iload_n hx hb dX1_goOn_1 rfl (lv_at hl 3 rfl) ?_
  refine va_put (D := g.1) (ci := 1) (v := .int sa) (ty := .int) (C := RX1) (T := TX1) (N := 9) hx hb hts iX1 tyX1 tyX1_ok nmX1 hown hK hP hD hS 0 rfl rfl 3 (by decide) (hts (.fieldLink RX1 25 "FaultIsolation$Machine" "address" "I") (by decide +kernel)) (fun _ h9 => h9) rfl (by decide +kernel) rfl rfl (Nat.le_of_ble_eq_true rfl) dX1_goOn_2 (fun H locs hP hD hS => ?_)
  have hP : va_P g.1 vwCl [(hM, .inr (1, [.int base, .ref qr, .ref qm, .int sa, .int sn, .int sy, .int sl, .int rg, .int ly])), (qr, .inl (g.2.1.1, 8, .inl fr)), (qm, .inl (g.2.1.1, 4096, .inl fm)), (h, .inr (0, [.ref q, .int len])), (q, .inl (g.2.1.1, N, .inl f))] H := hP
  have hD : va_D A [(hM, .inr (1, [.int base, .ref qr, .ref qm, .int sa, .int sn, .int sy, .int sl, .int rg, .int ly])), (qr, .inl (g.2.1.1, 8, .inl fr)), (qm, .inl (g.2.1.1, 4096, .inl fm)), (h, .inr (0, [.ref q, .int len])), (q, .inl (g.2.1.1, N, .inl f))] := hD
  refine lv_aload_n hx hb dX1_goOn_5 rfl (lv_at hl 0 rfl) ?_
  refine lv_iconst (v := 0) hx hb dX1_goOn_6 (by decide) ?_
  refine va_put (D := g.1) (ci := 1) (v := .int 0) (ty := .int) (C := RX1) (T := TX1) (N := 9) hx hb hts iX1 tyX1 tyX1_ok nmX1 hown hK hP hD hS 0 rfl rfl 4 (by decide) (hts (.fieldLink RX1 28 "FaultIsolation$Machine" "steps" "I") (by decide +kernel)) (fun _ h9 => h9) rfl (by decide +kernel) rfl rfl (Nat.le_of_ble_eq_true rfl) dX1_goOn_7 (fun H locs hP hD hS => ?_)
  have hP : va_P g.1 vwCl [(hM, .inr (1, [.int base, .ref qr, .ref qm, .int sa, .int 0, .int sy, .int sl, .int rg, .int ly])), (qr, .inl (g.2.1.1, 8, .inl fr)), (qm, .inl (g.2.1.1, 4096, .inl fm)), (h, .inr (0, [.ref q, .int len])), (q, .inl (g.2.1.1, N, .inl f))] H := hP
  have hD : va_D A [(hM, .inr (1, [.int base, .ref qr, .ref qm, .int sa, .int 0, .int sy, .int sl, .int rg, .int ly])), (qr, .inl (g.2.1.1, 8, .inl fr)), (qm, .inl (g.2.1.1, 4096, .inl fm)), (h, .inr (0, [.ref q, .int len])), (q, .inl (g.2.1.1, N, .inl f))] := hD
  refine lv_aload_n hx hb dX1_goOn_10 rfl (lv_at hl 0 rfl) ?_
  refine lv_iconst (v := 0) hx hb dX1_goOn_11 (by decide) ?_
  refine va_put (D := g.1) (ci := 1) (v := .int 0) (ty := .int) (C := RX1) (T := TX1) (N := 9) hx hb hts iX1 tyX1 tyX1_ok nmX1 hown hK hP hD hS 0 rfl rfl 5 (by decide) (hts (.fieldLink RX1 31 "FaultIsolation$Machine" "strays" "I") (by decide +kernel)) (fun _ h9 => h9) rfl (by decide +kernel) rfl rfl (Nat.le_of_ble_eq_true rfl) dX1_goOn_12 (fun H locs hP hD hS => ?_)
  have hP : va_P g.1 vwCl [(hM, .inr (1, [.int base, .ref qr, .ref qm, .int sa, .int 0, .int 0, .int sl, .int rg, .int ly])), (qr, .inl (g.2.1.1, 8, .inl fr)), (qm, .inl (g.2.1.1, 4096, .inl fm)), (h, .inr (0, [.ref q, .int len])), (q, .inl (g.2.1.1, N, .inl f))] H := hP
  have hD : va_D A [(hM, .inr (1, [.int base, .ref qr, .ref qm, .int sa, .int 0, .int 0, .int sl, .int rg, .int ly])), (qr, .inl (g.2.1.1, 8, .inl fr)), (qm, .inl (g.2.1.1, 4096, .inl fm)), (h, .inr (0, [.ref q, .int len])), (q, .inl (g.2.1.1, N, .inl f))] := hD
  refine lv_aload_n hx hb dX1_goOn_15 rfl (lv_at hl 0 rfl) ?_
  refine lv_iconst (v := 0) hx hb dX1_goOn_16 (by decide) ?_
  refine va_put (D := g.1) (ci := 1) (v := .int 0) (ty := .int) (C := RX1) (T := TX1) (N := 9) hx hb hts iX1 tyX1 tyX1_ok nmX1 hown hK hP hD hS 0 rfl rfl 6 (by decide) (hts (.fieldLink RX1 34 "FaultIsolation$Machine" "slips" "I") (by decide +kernel)) (fun _ h9 => h9) rfl (by decide +kernel) rfl rfl (Nat.le_of_ble_eq_true rfl) dX1_goOn_17 (fun H locs hP hD hS => ?_)
  have hP : va_P g.1 vwCl [(hM, .inr (1, [.int base, .ref qr, .ref qm, .int sa, .int 0, .int 0, .int 0, .int rg, .int ly])), (qr, .inl (g.2.1.1, 8, .inl fr)), (qm, .inl (g.2.1.1, 4096, .inl fm)), (h, .inr (0, [.ref q, .int len])), (q, .inl (g.2.1.1, N, .inl f))] H := hP
  have hD : va_D A [(hM, .inr (1, [.int base, .ref qr, .ref qm, .int sa, .int 0, .int 0, .int 0, .int rg, .int ly])), (qr, .inl (g.2.1.1, 8, .inl fr)), (qm, .inl (g.2.1.1, 4096, .inl fm)), (h, .inr (0, [.ref q, .int len])), (q, .inl (g.2.1.1, N, .inl f))] := hD
  refine lv_aload_n hx hb dX1_goOn_20 rfl (lv_at hl 0 rfl) ?_
  refine lv_iconst (v := 0) hx hb dX1_goOn_21 (by decide) ?_
  refine va_put (D := g.1) (ci := 1) (v := .int 0) (ty := .int) (C := RX1) (T := TX1) (N := 9) hx hb hts iX1 tyX1 tyX1_ok nmX1 hown hK hP hD hS 0 rfl rfl 7 (by decide) (hts (.fieldLink RX1 37 "FaultIsolation$Machine" "regionStores" "I") (by decide +kernel)) (fun _ h9 => h9) rfl (by decide +kernel) rfl rfl (Nat.le_of_ble_eq_true rfl) dX1_goOn_22 (fun H locs hP hD hS => ?_)
  have hP : va_P g.1 vwCl [(hM, .inr (1, [.int base, .ref qr, .ref qm, .int sa, .int 0, .int 0, .int 0, .int 0, .int ly])), (qr, .inl (g.2.1.1, 8, .inl fr)), (qm, .inl (g.2.1.1, 4096, .inl fm)), (h, .inr (0, [.ref q, .int len])), (q, .inl (g.2.1.1, N, .inl f))] H := hP
  have hD : va_D A [(hM, .inr (1, [.int base, .ref qr, .ref qm, .int sa, .int 0, .int 0, .int 0, .int 0, .int ly])), (qr, .inl (g.2.1.1, 8, .inl fr)), (qm, .inl (g.2.1.1, 4096, .inl fm)), (h, .inr (0, [.ref q, .int len])), (q, .inl (g.2.1.1, N, .inl f))] := hD
  refine lv_aload_n hx hb dX1_goOn_25 rfl (lv_at hl 0 rfl) ?_
  refine lv_iconst (v := (-1)) hx hb dX1_goOn_26 (by decide) ?_
  refine va_put (D := g.1) (ci := 1) (v := .int (-1)) (ty := .int) (C := RX1) (T := TX1) (N := 9) hx hb hts iX1 tyX1 tyX1_ok nmX1 hown hK hP hD hS 0 rfl rfl 8 (by decide) (hts (.fieldLink RX1 22 "FaultIsolation$Machine" "latestStray" "I") (by decide +kernel)) (fun _ h9 => h9) rfl (by decide +kernel) rfl rfl (Nat.le_of_ble_eq_true rfl) dX1_goOn_27 (fun H locs hP hD hS => ?_)
  have hP : va_P g.1 vwCl [(hM, .inr (1, [.int base, .ref qr, .ref qm, .int sa, .int 0, .int 0, .int 0, .int 0, .int (-1)])), (qr, .inl (g.2.1.1, 8, .inl fr)), (qm, .inl (g.2.1.1, 4096, .inl fm)), (h, .inr (0, [.ref q, .int len])), (q, .inl (g.2.1.1, N, .inl f))] H := hP
  have hD : va_D A [(hM, .inr (1, [.int base, .ref qr, .ref qm, .int sa, .int 0, .int 0, .int 0, .int 0, .int (-1)])), (qr, .inl (g.2.1.1, 8, .inl fr)), (qm, .inl (g.2.1.1, 4096, .inl fm)), (h, .inr (0, [.ref q, .int len])), (q, .inl (g.2.1.1, N, .inl f))] := hD
  refine lv_iconst (v := 0) hx hb dX1_goOn_30 (by decide) ?_
  refine lv_istore (lv' := [(5, .int 0), (0, .ref hM), (1, .ref h), (2, .int pr), (3, .int sa), (4, .int (nI n))]) hx hb dX1_goOn_31 hl (by decide) rfl (fun ls hl => ?_)
  refine lv_iconst (v := 0) hx hb dX1_goOn_33 (by decide) ?_
  refine lv_istore (lv' := [(6, .int 0), (5, .int 0), (0, .ref hM), (1, .ref h), (2, .int pr), (3, .int sa), (4, .int (nI n))]) hx hb dX1_goOn_34 hl (by decide) rfl (fun ls hl => ?_)
  have loop_36 : ∀ (K : Nat) (j : Nat) (en : Int32) (x : MS) (h2 : j ≤ n) (hq : ms_run base N f len pr n (fr, fm, sa, 0, 0, 0, 0, -1) = if en = 0 then ms_run base N f len pr (n - j) x else (en, x)), n - j < K → ∀ (H : Heap) (locs : List Loc) (ls : Array Slot), va_P g.1 vwCl [(hM, .inr (1, [.int base, .ref qr, .ref qm, .int x.2.2.1, .int x.2.2.2.1, .int x.2.2.2.2.1, .int x.2.2.2.2.2.1, .int x.2.2.2.2.2.2.1, .int x.2.2.2.2.2.2.2])), (qr, .inl (g.2.1.1, 8, .inl x.1)), (qm, .inl (g.2.1.1, 4096, .inl x.2.1)), (h, .inr (0, [.ref q, .int len])), (q, .inl (g.2.1.1, N, .inl f))] H → va_D A [(hM, .inr (1, [.int base, .ref qr, .ref qm, .int x.2.2.1, .int x.2.2.2.1, .int x.2.2.2.2.1, .int x.2.2.2.2.2.1, .int x.2.2.2.2.2.2.1, .int x.2.2.2.2.2.2.2])), (qr, .inl (g.2.1.1, 8, .inl x.1)), (qm, .inl (g.2.1.1, 4096, .inl x.2.1)), (h, .inr (0, [.ref q, .int len])), (q, .inl (g.2.1.1, N, .inl f))] → va_S A s.heap H locs → lv_has ls 7 [(0, .ref hM), (1, .ref h), (2, .int pr), (3, .int sa), (4, .int (nI n)), (5, .int en), (6, .int (nI j))] → W p l e (headSpec wsX1_goOn ({ frames := 4, cells := 0, slots := 0, locals := 90 })).room s m ([.ref hM, .ref h, .int pr, .int sa, .int (nI n)] : List Value).toArray below meth c H locs 0 0 (MQ below (va_Qi (fun r u => r = (ms_run base N f len pr n (fr, fm, sa, 0, 0, 0, 0, -1)).1 ∧ u = [(hM, .inr (1, [.int base, .ref qr, .ref qm, .int ((ms_run base N f len pr n (fr, fm, sa, 0, 0, 0, 0, -1)).2.2.2.1), .int ((ms_run base N f len pr n (fr, fm, sa, 0, 0, 0, 0, -1)).2.2.2.2.1), .int ((ms_run base N f len pr n (fr, fm, sa, 0, 0, 0, 0, -1)).2.2.2.2.2.1), .int ((ms_run base N f len pr n (fr, fm, sa, 0, 0, 0, 0, -1)).2.2.2.2.2.2.1), .int ((ms_run base N f len pr n (fr, fm, sa, 0, 0, 0, 0, -1)).2.2.2.2.2.2.2.1), .int ((ms_run base N f len pr n (fr, fm, sa, 0, 0, 0, 0, -1)).2.2.2.2.2.2.2.2)])), (qr, .inl (g.2.1.1, 8, .inl ((ms_run base N f len pr n (fr, fm, sa, 0, 0, 0, 0, -1)).2.1))), (qm, .inl (g.2.1.1, 4096, .inl ((ms_run base N f len pr n (fr, fm, sa, 0, 0, 0, 0, -1)).2.2.1))), (h, .inr (0, [.ref q, .int len])), (q, .inl (g.2.1.1, N, .inl f))]) (SB g A) A) ([.ref hM, .ref h, .int pr, .int sa, .int (nI n)] : List Value).toArray s 0 0 A) (F0 m 36 ls []) := by
    intro K
    induction K with
    | zero => intro j en x h2 hq hm; exact absurd hm (Nat.not_lt_zero _)
    | succ K ih =>
      intro j en x h2 hq hm H locs ls hP hD hS hl
      refine lv_iload hx hb dX1_goOn_36 (lv_at hl 6 rfl) ?_
      refine lv_iload hx hb dX1_goOn_38 (lv_at hl 4 rfl) ?_
      refine lv_icmp_ge (tgt := 62) hx hb dX1_goOn_40 (by decide) (fun c_0 => ?_) (fun c_0 => ?_)
      · skip
        refine lv_iload hx hb dX1_goOn_62 (lv_at hl 5 rfl) ?_
        exact k_iret hx hb hr hlocks ⟨hK, hP, hD, hS, hA, hE, hN⟩ rfl dX1_goOn_64 (Nat.le_of_ble_eq_true rfl) (Nat.le_of_ble_eq_true rfl) (by have hz : ms_run base N f len pr n (fr, fm, sa, 0, 0, 0, 0, -1) = (en, x) := (by rw [hq]; exact ms_end (k_le c_0 (by omega) (by omega))); exact ⟨by rw [hz], by rw [hz]⟩)
      · skip
        refine lv_iload hx hb dX1_goOn_43 (lv_at hl 5 rfl) ?_
        refine lv_if_ne (tgt := 62) hx hb dX1_goOn_45 (by decide) (fun c_1 => ?_) (fun c_1 => ?_)
        · skip
          refine lv_iload hx hb dX1_goOn_62 (lv_at hl 5 rfl) ?_
          exact k_iret hx hb hr hlocks ⟨hK, hP, hD, hS, hA, hE, hN⟩ rfl dX1_goOn_64 (Nat.le_of_ble_eq_true rfl) (Nat.le_of_ble_eq_true rfl) (by have hz : ms_run base N f len pr n (fr, fm, sa, 0, 0, 0, 0, -1) = (en, x) := (by rw [hq, if_neg c_1]); exact ⟨by rw [hz], by rw [hz]⟩)
        · skip
          refine lv_aload_n hx hb dX1_goOn_48 rfl (lv_at hl 0 rfl) ?_
          refine lv_aload_n hx hb dX1_goOn_49 rfl (lv_at hl 1 rfl) ?_
          refine lv_iload_n hx hb dX1_goOn_50 rfl (lv_at hl 2 rfl) ?_
          refine kiV (As := [.ref h, .int pr]) (rest := []) (wc := [(hM, .inr (1, [.int base, .ref qr, .ref qm, .int x.2.2.1, .int x.2.2.2.1, .int x.2.2.2.2.1, .int x.2.2.2.2.2.1, .int x.2.2.2.2.2.2.1, .int x.2.2.2.2.2.2.2])), (qr, .inl (g.2.1.1, 8, .inl x.1)), (qm, .inl (g.2.1.1, 4096, .inl x.2.1)), (h, .inr (0, [.ref q, .int len])), (q, .inl (g.2.1.1, N, .inl f))]) (wr := []) ⟨hx, hb, hml, hown, hts⟩ (c_X1_step l g hM qr qm x.1 x.2.1 base x.2.2.1 x.2.2.2.1 x.2.2.2.2.1 x.2.2.2.2.2.1 x.2.2.2.2.2.2.1 x.2.2.2.2.2.2.2 h q N f len pr hNn) (cwV 2 hts gX1_goOn_X1_step rfl rfl rfl (by decide +kernel) ⟨Nat.le_of_ble_eq_true rfl, Nat.le_of_ble_eq_true rfl⟩) ⟨hK, hP, hD, hS, hA, hE, hN⟩ [0, 1, 2, 3, 4] [] ⟨rfl, rfl, by decide⟩ (q0 := 0) (ci := 1) rfl rfl rfl rfl hl.1 (Nat.le_of_ble_eq_true rfl) dX1_goOn_51 ⟨Nat.le_of_ble_eq_true rfl, Nat.le_of_ble_eq_true rfl⟩ rfl (fun r u H locs hw hP hD hS => ?_)
          obtain ⟨hq, hw⟩ := hw
          subst r
          subst hw
          have hP := hP.sub (ws' := [(hM, .inr (1, [.int base, .ref qr, .ref qm, .int (sp_X1_step_address x.1 x.2.2.1 N f len pr), .int (sp_X1_step_steps x.2.2.1 x.2.2.2.1 N f len pr), .int (sp_X1_step_strays x.1 base x.2.2.1 x.2.2.2.2.1 N f len pr), .int (sp_X1_step_slips x.1 x.2.2.1 x.2.2.2.2.2.1 N f len pr), .int (sp_X1_step_regionStores x.1 base x.2.2.1 x.2.2.2.2.2.2.1 N f len pr), .int (sp_X1_step_latestStray x.1 base x.2.2.1 x.2.2.2.2.2.2.2 N f len pr)])), (qr, .inl (g.2.1.1, 8, .inl (sp_X1_step_registers x.1 x.2.1 x.2.2.1 N f len pr))), (qm, .inl (g.2.1.1, 4096, .inl (sp_X1_step_cells x.1 x.2.1 x.2.2.1 N f len pr))), (h, .inr (0, [.ref q, .int len])), (q, .inl (g.2.1.1, N, .inl f))]) [0, 1, 2, 3, 4] rfl
          have hD := hD.sub (ws' := [(hM, .inr (1, [.int base, .ref qr, .ref qm, .int (sp_X1_step_address x.1 x.2.2.1 N f len pr), .int (sp_X1_step_steps x.2.2.1 x.2.2.2.1 N f len pr), .int (sp_X1_step_strays x.1 base x.2.2.1 x.2.2.2.2.1 N f len pr), .int (sp_X1_step_slips x.1 x.2.2.1 x.2.2.2.2.2.1 N f len pr), .int (sp_X1_step_regionStores x.1 base x.2.2.1 x.2.2.2.2.2.2.1 N f len pr), .int (sp_X1_step_latestStray x.1 base x.2.2.1 x.2.2.2.2.2.2.2 N f len pr)])), (qr, .inl (g.2.1.1, 8, .inl (sp_X1_step_registers x.1 x.2.1 x.2.2.1 N f len pr))), (qm, .inl (g.2.1.1, 4096, .inl (sp_X1_step_cells x.1 x.2.1 x.2.2.1 N f len pr))), (h, .inr (0, [.ref q, .int len])), (q, .inl (g.2.1.1, N, .inl f))]) [0, 1, 2, 3, 4] (by decide) rfl
          refine lv_istore (lv' := [(5, .int (sp_X1_step x.1 x.2.2.1 N f len pr)), (0, .ref hM), (1, .ref h), (2, .int pr), (3, .int sa), (4, .int (nI n)), (6, .int (nI j))]) hx hb dX1_goOn_54 hl (by decide) rfl (fun ls hl => ?_)
          refine lv_iinc (v := (nI (j + 1))) (lv' := [(6, .int (nI (j + 1))), (5, .int (sp_X1_step x.1 x.2.2.1 N f len pr)), (0, .ref hM), (1, .ref h), (2, .int pr), (3, .int sa), (4, .int (nI n))]) hx hb dX1_goOn_56 hl (k := 6) rfl (nI_add _ _) (by decide) rfl (fun ls hl => ?_)
          refine lv_goto (tgt := 36) hx hb dX1_goOn_59 (by decide) ?_
          exact ih (j + 1) (ms_ret N f len pr x) (ms_next base N f len pr x) (k_nle c_0 (by omega) (by omega)) (by rw [hq, if_pos c_1, ms_run_s (k_nle c_0 (by omega) (by omega))]) (by have := k_nle c_0 (by omega) (by omega); omega) _ _ _ hP hD hS (lv_sub hl [2, 3, 4, 5, 6, 1, 0] rfl)
  exact loop_36 (n - 0 + 1) 0 0 (fr, fm, sa, 0, 0, 0, 0, -1) (Nat.zero_le _) (by rw [if_pos rfl]; rfl) (Nat.lt_succ_self _) _ _ _ hP hD hS (lv_sub hl [2, 3, 4, 5, 6, 1, 0] rfl)
