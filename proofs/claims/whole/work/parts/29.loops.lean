theorem k_nle {a b : Nat} (h : ¬ nI b ≤ nI a) (ha : a < 2 ^ 31) (hb : b < 2 ^ 31) : a < b := Nat.lt_of_not_le fun q => h ((nI_leI hb ha).mpr q)
theorem k_le {a b : Nat} (h : nI b ≤ nI a) (ha : a < 2 ^ 31) (hb : b < 2 ^ 31) : b ≤ a := (nI_leI hb ha).mp h
theorem k_min {n N : Nat} (h : n ≤ N) (hN : N < 2 ^ 31) : (if nI N < nI n then nI N else nI n) = nI n := if_neg fun q => absurd ((nI_ltI hN (Nat.lt_of_le_of_lt h hN)).mp q) (Nat.not_lt.mpr h)
theorem k_max0 {n : Nat} (h : n < 2 ^ 31) : (if (0 : Int32) < nI n then nI n else 0) = nI n := by
  by_cases q : (0 : Int32) < nI n
  · rw [if_pos q]
  · rw [if_neg q]
    have h1 : nI n ≤ nI 0 := Int32.not_lt.mp q
    have h2 : n ≤ 0 := (nI_leI h (by decide)).mp h1
    have h3 : n = 0 := Nat.le_zero.mp h2
    subst h3
    rfl
def kz (n i : Nat) (f : Nat → Int32) : Nat → Int32 := fun x => if n ≤ x ∧ x < i then 0 else f x
theorem kz_upd {n j : Nat} {f : Nat → Int32} (h : n ≤ j) (hj : j < 2 ^ 31) : upd (kz n j f) (nI j).toNatClampNeg 0 = kz n (j + 1) f := by
  funext x
  rw [nI_clamp hj]
  by_cases hx : x = j
  · subst hx
    rw [pk_us, kz, if_pos ⟨h, Nat.lt_succ_self _⟩]
  · rw [pk_un hx]
    unfold kz
    by_cases h1 : n ≤ x ∧ x < j
    · rw [if_pos h1, if_pos ⟨h1.1, by omega⟩]
    · rw [if_neg h1, if_neg (by omega)]
theorem kz_0 {n : Nat} {f : Nat → Int32} : kz n n f = f := by
  funext x
  unfold kz
  rw [if_neg (by omega)]
def fu (P : Nat → Int32) : Nat → Nat → Int32
  | 0, _ => -1
  | k + 1, j => if P j = 0 then nI j else fu P k (j + 1)
def fv (P : Nat → Int32) : Nat → Nat → Int32
  | 0, _ => -1
  | k + 1, j => if P j = 0 then nI (4 * j) else fv P k (j + 1)
theorem fu_s {P : Nat → Int32} {n j : Nat} (h : j < n) : fu P (n - j) j = if P j = 0 then nI j else fu P (n - (j + 1)) (j + 1) := by
  rw [show n - j = (n - (j + 1)) + 1 by omega]
  rfl
theorem fv_s {P : Nat → Int32} {n j : Nat} (h : j < n) : fv P (n - j) j = if P j = 0 then nI (4 * j) else fv P (n - (j + 1)) (j + 1) := by
  rw [show n - j = (n - (j + 1)) + 1 by omega]
  rfl
theorem k_ins {n : Nat} (h : n ≤ 60) : sp_X0_instructions (nI (4 * n)) = nI n := by
  unfold sp_X0_instructions
  rw [show (4 : Int32) = nI 4 from rfl, pk_div (by omega) (by decide) (by decide), Nat.mul_div_cancel_left n (by decide)]


set_option maxHeartbeats 4000000 in
set_option maxRecDepth 100000 in
theorem c_X0_resize (l : Launch) (g : KG) (h : Nat) (q : Nat) (N : Nat) (f : Nat → Int32) (len : Int32) (n : Nat) (hNn : N < 2 ^ 31) (hn : n ≤ N) : Cv l g yX0_resize wsX0_resize ({ frames := 1, cells := 0, slots := 0, locals := 21 }) [.ref h, .int (nI n)] [(h, .inr (0, [.ref q, .int len])), (q, .inl (g.2.1.1, N, .inl f))] (fun u => u = [(h, .inr (0, [.ref q, .int (nI n)])), (q, .inl (g.2.1.1, N, .inl (kz n N f)))]) 0 0 := by
  intro sz
  refine Met.ofW (cc := cX0_resize) (maxL := 3) (ret := none) (by decide) rfl ?_
  intro p e s m args below meth c s₁ B hml hv
  obtain ⟨rfl, hsz, hP, hK, hD0, hE, hN⟩ := hv
  have hx := B.exec
  have hb := B.bytes
  have hr := B.returns
  have hts := atoms_spec (ws := wsX0_resize) B.pre
  have hown : s.vm.findClass RX0 = some m.cls := findClass_of_methodNamed B.named
  have hlocks := B.notSynchronized
  have iX0 : ∀ w ∈ u_ws RX0 TX0 2, w ∈ wsX0_resize := by decide +kernel
  subst hsz
  have hD := hD0.self (sz := s.heap.size)
  generalize hAe : va_A [(h, .inr (0, [.ref q, .int len])), (q, .inl (g.2.1.1, N, .inl f))] s.heap.size = A at hD hE ⊢
  have hA : ∀ q : Nat, s.heap.size ≤ q → A q := fun q h => by rw [← hAe]; exact Or.inr h
  have hS : va_S A s.heap s.heap [] := va_S.rf
  have hl := lv_entry ([.ref h, .int (nI n)]) (n := 3) (Nat.le_of_ble_eq_true rfl)
  rw [lg_entry_eq]
  generalize (lg_sl ([.ref h, .int (nI n)]) ++ List.replicate (3 - (lg_sl ([.ref h, .int (nI n)])).length) Slot.unset).toArray = ls at hl ⊢
  have hl : lv_has ls 3 [(0, .ref h), (1, .int (nI n))] := hl
  refine lv_aload_n hx hb dX0_resize_0 rfl (lv_at hl 0 rfl) ?_
  refine lv_iconst (v := 0) hx hb dX0_resize_1 (by decide) ?_
  refine lv_iload_n hx hb dX0_resize_2 rfl (lv_at hl 1 rfl) ?_
  refine lv_aload_n hx hb dX0_resize_3 rfl (lv_at hl 0 rfl) ?_
  refine va_get (D := g.1) (ci := 0) (v := .ref q) (C := RX0) (T := TX0) (N := 2) hx hb hts iX0 hown hK hP 0 rfl rfl 0 (by decide) (hts (.fieldLink RX0 15 "FaultIsolation$Code" "cells" "[I") (by decide +kernel)) (fun _ h9 => h9) rfl dX0_resize_4 ?_
  refine va_alen (v := nI N) hx hb hK hP 1 0 rfl rfl rfl dX0_resize_7 ?_
  refine va_mmin hx hb (hml.trans hl.1.symm) hown (hts (.methodLink RX0 48 Lib.Math.min.name) (by decide +kernel)) (hts (.static Lib.Math.min.name) (by decide +kernel)) (hts (.initialized "java/lang/Math") (by decide +kernel)) (hts (.code Lib.Math.min.name Lib.Math.min.code 2 (some .int)) (by decide +kernel)) (Nat.le_of_ble_eq_true rfl) (Nat.le_of_ble_eq_true rfl) (Nat.le_of_ble_eq_true rfl) (Nat.le_of_ble_eq_true rfl) dX0_resize_8 ?_
  refine lv_topi (fun y9 e9 => ?_)
  rw [show (if (nI N) < (nI n) then (nI N) else (nI n) : Int32) = nI n from k_min hn hNn] at e9
  subst e9
  refine va_mmax hx hb (hml.trans hl.1.symm) hown (hts (.methodLink RX0 9 Lib.Math.max.name) (by decide +kernel)) (hts (.static Lib.Math.max.name) (by decide +kernel)) (hts (.initialized "java/lang/Math") (by decide +kernel)) (hts (.code Lib.Math.max.name Lib.Math.max.code 2 (some .int)) (by decide +kernel)) (Nat.le_of_ble_eq_true rfl) (Nat.le_of_ble_eq_true rfl) (Nat.le_of_ble_eq_true rfl) (Nat.le_of_ble_eq_true rfl) dX0_resize_11 ?_
  refine lv_topi (fun y9 e9 => ?_)
  rw [show (if 0 < (nI n) then (nI n) else 0 : Int32) = nI n from k_max0 (by omega)] at e9
  subst e9
  refine va_put (D := g.1) (ci := 0) (v := .int (nI n)) (ty := .int) (C := RX0) (T := TX0) (N := 2) hx hb hts iX0 tyX0 tyX0_ok nmX0 hown hK hP hD hS 0 rfl rfl 1 (by decide) (hts (.fieldLink RX0 21 "FaultIsolation$Code" "length" "I") (by decide +kernel)) (fun _ h9 => h9) rfl (by decide +kernel) rfl rfl (Nat.le_of_ble_eq_true rfl) dX0_resize_14 (fun H locs hP hD hS => ?_)
  have hP : va_P g.1 vwCl [(h, .inr (0, [.ref q, .int (nI n)])), (q, .inl (g.2.1.1, N, .inl f))] H := hP
  have hD : va_D A [(h, .inr (0, [.ref q, .int (nI n)])), (q, .inl (g.2.1.1, N, .inl f))] := hD
  refine lv_aload_n hx hb dX0_resize_17 rfl (lv_at hl 0 rfl) ?_
  refine va_get (D := g.1) (ci := 0) (v := .int (nI n)) (C := RX0) (T := TX0) (N := 2) hx hb hts iX0 hown hK hP 0 rfl rfl 1 (by decide) (hts (.fieldLink RX0 21 "FaultIsolation$Code" "length" "I") (by decide +kernel)) (fun _ h9 => h9) rfl dX0_resize_18 ?_
  refine lv_istore_n (lv' := [(2, .int (nI n)), (0, .ref h), (1, .int (nI n))]) hx hb dX0_resize_21 rfl hl (by decide) rfl (fun ls hl => ?_)
  have loop_22 : ∀ (K : Nat) (j : Nat) (h1 : n ≤ j) (h2 : j ≤ N), N - j < K → ∀ (H : Heap) (locs : List Loc) (ls : Array Slot), va_P g.1 vwCl [(h, .inr (0, [.ref q, .int (nI n)])), (q, .inl (g.2.1.1, N, .inl (kz n j f)))] H → va_D A [(h, .inr (0, [.ref q, .int (nI n)])), (q, .inl (g.2.1.1, N, .inl (kz n j f)))] → va_S A s.heap H locs → lv_has ls 3 [(0, .ref h), (1, .int (nI n)), (2, .int (nI j))] → W p l e (headSpec wsX0_resize ({ frames := 1, cells := 0, slots := 0, locals := 21 })).room s m ([.ref h, .int (nI n)] : List Value).toArray below meth c H locs 0 0 (MQ below (va_Qv (fun u => u = [(h, .inr (0, [.ref q, .int (nI n)])), (q, .inl (g.2.1.1, N, .inl (kz n N f)))]) (SB g A) A) ([.ref h, .int (nI n)] : List Value).toArray s 0 0 A) (F0 m 22 ls []) := by
    intro K
    induction K with
    | zero => intro j h1 h2 hm; exact absurd hm (Nat.not_lt_zero _)
    | succ K ih =>
      intro j h1 h2 hm H locs ls hP hD hS hl
      refine lv_iload_n hx hb dX0_resize_22 rfl (lv_at hl 2 rfl) ?_
      refine lv_aload_n hx hb dX0_resize_23 rfl (lv_at hl 0 rfl) ?_
      refine va_get (D := g.1) (ci := 0) (v := .ref q) (C := RX0) (T := TX0) (N := 2) hx hb hts iX0 hown hK hP 0 rfl rfl 0 (by decide) (hts (.fieldLink RX0 15 "FaultIsolation$Code" "cells" "[I") (by decide +kernel)) (fun _ h9 => h9) rfl dX0_resize_24 ?_
      refine va_alen (v := nI N) hx hb hK hP 1 0 rfl rfl rfl dX0_resize_27 ?_
      refine lv_icmp_ge (tgt := 44) hx hb dX0_resize_28 (by decide) (fun c_0 => ?_) (fun c_0 => ?_)
      · skip
        exact k_vret hx hb hr hlocks ⟨hK, hP, hD, hS, hA, hE, hN⟩ dX0_resize_44 (Nat.le_of_ble_eq_true rfl) (Nat.le_of_ble_eq_true rfl) (by have e : j = N := Nat.le_antisymm h2 (k_le c_0 (by omega) hNn); subst e; rfl)
      · skip
        refine lv_aload_n hx hb dX0_resize_31 rfl (lv_at hl 0 rfl) ?_
        refine va_get (D := g.1) (ci := 0) (v := .ref q) (C := RX0) (T := TX0) (N := 2) hx hb hts iX0 hown hK hP 0 rfl rfl 0 (by decide) (hts (.fieldLink RX0 15 "FaultIsolation$Code" "cells" "[I") (by decide +kernel)) (fun _ h9 => h9) rfl dX0_resize_32 ?_
        refine lv_iload_n hx hb dX0_resize_35 rfl (lv_at hl 2 rfl) ?_
        refine lv_iconst (v := 0) hx hb dX0_resize_36 (by decide) ?_
        refine va_iast hx hb hK hP hD hS 1 0 rfl rfl (vp_in_nI (k_nle c_0 (by omega) hNn) hNn) dX0_resize_37 (fun H locs hP hD hS => ?_)
        have hP : va_P g.1 vwCl [(h, .inr (0, [.ref q, .int (nI n)])), (q, .inl (g.2.1.1, N, .inl (upd (kz n j f) (nI j).toNatClampNeg 0)))] H := hP
        have hD : va_D A [(h, .inr (0, [.ref q, .int (nI n)])), (q, .inl (g.2.1.1, N, .inl (upd (kz n j f) (nI j).toNatClampNeg 0)))] := hD
        refine lv_iinc (v := (nI (j + 1))) (lv' := [(2, .int (nI (j + 1))), (0, .ref h), (1, .int (nI n))]) hx hb dX0_resize_38 hl (k := 2) rfl (nI_add _ _) (by decide) rfl (fun ls hl => ?_)
        refine lv_goto (tgt := 22) hx hb dX0_resize_41 (by decide) ?_
        rw [show (upd (kz n j f) (nI j).toNatClampNeg 0 : Nat → Int32) = kz n (j + 1) f from kz_upd h1 (by omega)] at hP hD
        exact ih (j + 1) (by omega) (k_nle c_0 (by omega) hNn) (by have := k_nle c_0 (by omega) hNn; omega) _ _ _ hP hD hS (lv_sub hl [1, 2, 0] rfl)
  rw [show (f : Nat → Int32) = kz n n f from kz_0.symm] at hP hD
  exact loop_22 (N - n + 1) n (Nat.le_refl _) hn (Nat.lt_succ_self _) _ _ _ hP hD hS (lv_sub hl [1, 2, 0] rfl)

set_option maxHeartbeats 4000000 in
set_option maxRecDepth 100000 in
theorem c_X1_forgetAll (l : Launch) (g : KG) (hM : Nat) (qr : Nat) (qm : Nat) (fr : Nat → Int32) (fm : Nat → Int32) (base : Int32) (ad : Int32) (sn : Int32) (sy : Int32) (sl : Int32) (rg : Int32) (ly : Int32)  : Cv l g yX1_forgetAll wsX1_forgetAll ({ frames := 0, cells := 0, slots := 0, locals := 0 }) [.ref hM] [(hM, .inr (1, [.int base, .ref qr, .ref qm, .int ad, .int sn, .int sy, .int sl, .int rg, .int ly])), (qr, .inl (g.2.1.1, 8, .inl fr)), (qm, .inl (g.2.1.1, 4096, .inl fm))] (fun u => u = [(hM, .inr (1, [.int base, .ref qr, .ref qm, .int ad, .int sn, .int sy, .int sl, .int rg, .int ly])), (qr, .inl (g.2.1.1, 8, .inl (kz 0 8 fr))), (qm, .inl (g.2.1.1, 4096, .inl (kz 0 4096 fm)))]) 0 0 := by
  intro sz
  refine Met.ofW (cc := cX1_forgetAll) (maxL := 2) (ret := none) (by decide) rfl ?_
  intro p e s m args below meth c s₁ B hml hv
  obtain ⟨rfl, hsz, hP, hK, hD0, hE, hN⟩ := hv
  have hx := B.exec
  have hb := B.bytes
  have hr := B.returns
  have hts := atoms_spec (ws := wsX1_forgetAll) B.pre
  have hown : s.vm.findClass RX1 = some m.cls := findClass_of_methodNamed B.named
  have hlocks := B.notSynchronized
  have iX1 : ∀ w ∈ u_ws RX1 TX1 9, w ∈ wsX1_forgetAll := by decide +kernel
  subst hsz
  have hD := hD0.self (sz := s.heap.size)
  generalize hAe : va_A [(hM, .inr (1, [.int base, .ref qr, .ref qm, .int ad, .int sn, .int sy, .int sl, .int rg, .int ly])), (qr, .inl (g.2.1.1, 8, .inl fr)), (qm, .inl (g.2.1.1, 4096, .inl fm))] s.heap.size = A at hD hE ⊢
  have hA : ∀ q : Nat, s.heap.size ≤ q → A q := fun q h => by rw [← hAe]; exact Or.inr h
  have hS : va_S A s.heap s.heap [] := va_S.rf
  have hl := lv_entry ([.ref hM]) (n := 2) (Nat.le_of_ble_eq_true rfl)
  rw [lg_entry_eq]
  generalize (lg_sl ([.ref hM]) ++ List.replicate (2 - (lg_sl ([.ref hM])).length) Slot.unset).toArray = ls at hl ⊢
  have hl : lv_has ls 2 [(0, .ref hM)] := hl
  refine lv_iconst (v := 0) hx hb dX1_forgetAll_0 (by decide) ?_
  refine lv_istore_n (lv' := [(1, .int 0), (0, .ref hM)]) hx hb dX1_forgetAll_1 rfl hl (by decide) rfl (fun ls hl => ?_)
  have loop_2 : ∀ (K : Nat) (j : Nat) (h2 : j ≤ 8), 8 - j < K → ∀ (H : Heap) (locs : List Loc) (ls : Array Slot), va_P g.1 vwCl [(hM, .inr (1, [.int base, .ref qr, .ref qm, .int ad, .int sn, .int sy, .int sl, .int rg, .int ly])), (qr, .inl (g.2.1.1, 8, .inl (kz 0 j fr))), (qm, .inl (g.2.1.1, 4096, .inl fm))] H → va_D A [(hM, .inr (1, [.int base, .ref qr, .ref qm, .int ad, .int sn, .int sy, .int sl, .int rg, .int ly])), (qr, .inl (g.2.1.1, 8, .inl (kz 0 j fr))), (qm, .inl (g.2.1.1, 4096, .inl fm))] → va_S A s.heap H locs → lv_has ls 2 [(0, .ref hM), (1, .int (nI j))] → W p l e (headSpec wsX1_forgetAll ({ frames := 0, cells := 0, slots := 0, locals := 0 })).room s m ([.ref hM] : List Value).toArray below meth c H locs 0 0 (MQ below (va_Qv (fun u => u = [(hM, .inr (1, [.int base, .ref qr, .ref qm, .int ad, .int sn, .int sy, .int sl, .int rg, .int ly])), (qr, .inl (g.2.1.1, 8, .inl (kz 0 8 fr))), (qm, .inl (g.2.1.1, 4096, .inl (kz 0 4096 fm)))]) (SB g A) A) ([.ref hM] : List Value).toArray s 0 0 A) (F0 m 2 ls []) := by
    intro K
    induction K with
    | zero => intro j h2 hm; exact absurd hm (Nat.not_lt_zero _)
    | succ K ih =>
      intro j h2 hm H locs ls hP hD hS hl
      refine lv_iload_n hx hb dX1_forgetAll_2 rfl (lv_at hl 1 rfl) ?_
      refine lv_aload_n hx hb dX1_forgetAll_3 rfl (lv_at hl 0 rfl) ?_
      refine va_get (D := g.1) (ci := 1) (v := .ref qr) (C := RX1) (T := TX1) (N := 9) hx hb hts iX1 hown hK hP 0 rfl rfl 1 (by decide) (hts (.fieldLink RX1 9 "FaultIsolation$Machine" "registers" "[I") (by decide +kernel)) (fun _ h9 => h9) rfl dX1_forgetAll_4 ?_
      refine va_alen (v := nI 8) hx hb hK hP 1 0 rfl rfl rfl dX1_forgetAll_7 ?_
      refine lv_icmp_ge (tgt := 24) hx hb dX1_forgetAll_8 (by decide) (fun c_0 => ?_) (fun c_0 => ?_)
      · skip
        have e8 : j = 8 := Nat.le_antisymm h2 (k_le c_0 (by omega) (by decide))
        subst e8
        refine lv_iconst (v := 0) hx hb dX1_forgetAll_24 (by decide) ?_
        refine lv_istore_n (lv' := [(1, .int 0), (0, .ref hM)]) hx hb dX1_forgetAll_25 rfl hl (by decide) rfl (fun ls hl => ?_)
        have loop_26 : ∀ (K : Nat) (j : Nat) (h2 : j ≤ 4096), 4096 - j < K → ∀ (H : Heap) (locs : List Loc) (ls : Array Slot), va_P g.1 vwCl [(hM, .inr (1, [.int base, .ref qr, .ref qm, .int ad, .int sn, .int sy, .int sl, .int rg, .int ly])), (qr, .inl (g.2.1.1, 8, .inl (kz 0 8 fr))), (qm, .inl (g.2.1.1, 4096, .inl (kz 0 j fm)))] H → va_D A [(hM, .inr (1, [.int base, .ref qr, .ref qm, .int ad, .int sn, .int sy, .int sl, .int rg, .int ly])), (qr, .inl (g.2.1.1, 8, .inl (kz 0 8 fr))), (qm, .inl (g.2.1.1, 4096, .inl (kz 0 j fm)))] → va_S A s.heap H locs → lv_has ls 2 [(0, .ref hM), (1, .int (nI j))] → W p l e (headSpec wsX1_forgetAll ({ frames := 0, cells := 0, slots := 0, locals := 0 })).room s m ([.ref hM] : List Value).toArray below meth c H locs 0 0 (MQ below (va_Qv (fun u => u = [(hM, .inr (1, [.int base, .ref qr, .ref qm, .int ad, .int sn, .int sy, .int sl, .int rg, .int ly])), (qr, .inl (g.2.1.1, 8, .inl (kz 0 8 fr))), (qm, .inl (g.2.1.1, 4096, .inl (kz 0 4096 fm)))]) (SB g A) A) ([.ref hM] : List Value).toArray s 0 0 A) (F0 m 26 ls []) := by
          intro K
          induction K with
          | zero => intro j h2 hm; exact absurd hm (Nat.not_lt_zero _)
          | succ K ih =>
            intro j h2 hm H locs ls hP hD hS hl
            refine lv_iload_n hx hb dX1_forgetAll_26 rfl (lv_at hl 1 rfl) ?_
            refine lv_aload_n hx hb dX1_forgetAll_27 rfl (lv_at hl 0 rfl) ?_
            refine va_get (D := g.1) (ci := 1) (v := .ref qm) (C := RX1) (T := TX1) (N := 9) hx hb hts iX1 hown hK hP 0 rfl rfl 2 (by decide) (hts (.fieldLink RX1 15 "FaultIsolation$Machine" "cells" "[I") (by decide +kernel)) (fun _ h9 => h9) rfl dX1_forgetAll_28 ?_
            refine va_alen (v := nI 4096) hx hb hK hP 2 0 rfl rfl rfl dX1_forgetAll_31 ?_
            refine lv_icmp_ge (tgt := 48) hx hb dX1_forgetAll_32 (by decide) (fun c_1 => ?_) (fun c_1 => ?_)
            · skip
              have e4096 : j = 4096 := Nat.le_antisymm h2 (k_le c_1 (by omega) (by decide))
              subst e4096
              exact k_vret hx hb hr hlocks ⟨hK, hP, hD, hS, hA, hE, hN⟩ dX1_forgetAll_48 (Nat.le_of_ble_eq_true rfl) (Nat.le_of_ble_eq_true rfl) rfl
            · skip
              refine lv_aload_n hx hb dX1_forgetAll_35 rfl (lv_at hl 0 rfl) ?_
              refine va_get (D := g.1) (ci := 1) (v := .ref qm) (C := RX1) (T := TX1) (N := 9) hx hb hts iX1 hown hK hP 0 rfl rfl 2 (by decide) (hts (.fieldLink RX1 15 "FaultIsolation$Machine" "cells" "[I") (by decide +kernel)) (fun _ h9 => h9) rfl dX1_forgetAll_36 ?_
              refine lv_iload_n hx hb dX1_forgetAll_39 rfl (lv_at hl 1 rfl) ?_
              refine lv_iconst (v := 0) hx hb dX1_forgetAll_40 (by decide) ?_
              refine va_iast hx hb hK hP hD hS 2 0 rfl rfl (vp_in_nI (k_nle c_1 (by omega) (by decide)) (by decide)) dX1_forgetAll_41 (fun H locs hP hD hS => ?_)
              have hP : va_P g.1 vwCl [(hM, .inr (1, [.int base, .ref qr, .ref qm, .int ad, .int sn, .int sy, .int sl, .int rg, .int ly])), (qr, .inl (g.2.1.1, 8, .inl (kz 0 8 fr))), (qm, .inl (g.2.1.1, 4096, .inl (upd (kz 0 j fm) (nI j).toNatClampNeg 0)))] H := hP
              have hD : va_D A [(hM, .inr (1, [.int base, .ref qr, .ref qm, .int ad, .int sn, .int sy, .int sl, .int rg, .int ly])), (qr, .inl (g.2.1.1, 8, .inl (kz 0 8 fr))), (qm, .inl (g.2.1.1, 4096, .inl (upd (kz 0 j fm) (nI j).toNatClampNeg 0)))] := hD
              refine lv_iinc (v := (nI (j + 1))) (lv' := [(1, .int (nI (j + 1))), (0, .ref hM)]) hx hb dX1_forgetAll_42 hl (k := 1) rfl (nI_add _ _) (by decide) rfl (fun ls hl => ?_)
              refine lv_goto (tgt := 26) hx hb dX1_forgetAll_45 (by decide) ?_
              rw [show (upd (kz 0 j fm) (nI j).toNatClampNeg 0 : Nat → Int32) = kz 0 (j + 1) fm from kz_upd (Nat.zero_le _) (by omega)] at hP hD
              exact ih (j + 1) (k_nle c_1 (by omega) (by decide)) (by have := k_nle c_1 (by omega) (by decide); omega) _ _ _ hP hD hS (lv_sub hl [1, 0] rfl)
        rw [show (fm : Nat → Int32) = kz 0 0 fm from kz_0.symm] at hP hD
        exact loop_26 (4096 - 0 + 1) 0 (Nat.zero_le _) (Nat.lt_succ_self _) _ _ _ hP hD hS (lv_sub hl [1, 0] rfl)
      · skip
        refine lv_aload_n hx hb dX1_forgetAll_11 rfl (lv_at hl 0 rfl) ?_
        refine va_get (D := g.1) (ci := 1) (v := .ref qr) (C := RX1) (T := TX1) (N := 9) hx hb hts iX1 hown hK hP 0 rfl rfl 1 (by decide) (hts (.fieldLink RX1 9 "FaultIsolation$Machine" "registers" "[I") (by decide +kernel)) (fun _ h9 => h9) rfl dX1_forgetAll_12 ?_
        refine lv_iload_n hx hb dX1_forgetAll_15 rfl (lv_at hl 1 rfl) ?_
        refine lv_iconst (v := 0) hx hb dX1_forgetAll_16 (by decide) ?_
        refine va_iast hx hb hK hP hD hS 1 0 rfl rfl (vp_in_nI (k_nle c_0 (by omega) (by decide)) (by decide)) dX1_forgetAll_17 (fun H locs hP hD hS => ?_)
        have hP : va_P g.1 vwCl [(hM, .inr (1, [.int base, .ref qr, .ref qm, .int ad, .int sn, .int sy, .int sl, .int rg, .int ly])), (qr, .inl (g.2.1.1, 8, .inl (upd (kz 0 j fr) (nI j).toNatClampNeg 0))), (qm, .inl (g.2.1.1, 4096, .inl fm))] H := hP
        have hD : va_D A [(hM, .inr (1, [.int base, .ref qr, .ref qm, .int ad, .int sn, .int sy, .int sl, .int rg, .int ly])), (qr, .inl (g.2.1.1, 8, .inl (upd (kz 0 j fr) (nI j).toNatClampNeg 0))), (qm, .inl (g.2.1.1, 4096, .inl fm))] := hD
        refine lv_iinc (v := (nI (j + 1))) (lv' := [(1, .int (nI (j + 1))), (0, .ref hM)]) hx hb dX1_forgetAll_18 hl (k := 1) rfl (nI_add _ _) (by decide) rfl (fun ls hl => ?_)
        refine lv_goto (tgt := 2) hx hb dX1_forgetAll_21 (by decide) ?_
        rw [show (upd (kz 0 j fr) (nI j).toNatClampNeg 0 : Nat → Int32) = kz 0 (j + 1) fr from kz_upd (Nat.zero_le _) (by omega)] at hP hD
        exact ih (j + 1) (k_nle c_0 (by omega) (by decide)) (by have := k_nle c_0 (by omega) (by decide); omega) _ _ _ hP hD hS (lv_sub hl [1, 0] rfl)
  rw [show (fr : Nat → Int32) = kz 0 0 fr from kz_0.symm] at hP hD
  exact loop_2 (8 - 0 + 1) 0 (Nat.zero_le _) (Nat.lt_succ_self _) _ _ _ hP hD hS (lv_sub hl [1, 0] rfl)
def fun_fu (N : Nat) (f : Nat → Int32) (n : Nat) : Int32 := if n = 0 then 0 else fu (fun x => sp_X3_isSound N f (nI (4 * n)) (nI (4 * x))) n 0
set_option maxHeartbeats 4000000 in
set_option maxRecDepth 100000 in
theorem c_X3_firstUnsound (l : Launch) (g : KG) (h : Nat) (q : Nat) (N : Nat) (f : Nat → Int32) (n : Nat) (hNn : N < 2 ^ 31) (hn : n ≤ 60) : Ci l g yX3_firstUnsound wsX3_firstUnsound ({ frames := 4, cells := 0, slots := 0, locals := 88 }) [.ref h] [(h, .inr (0, [.ref q, .int (nI (4 * n))])), (q, .inl (g.2.1.1, N, .inl f))] (fun r u => r = fun_fu N f n ∧ u = [(h, .inr (0, [.ref q, .int (nI (4 * n))])), (q, .inl (g.2.1.1, N, .inl f))]) 0 0 := by
  intro sz
  refine Met.ofW (cc := cX3_firstUnsound) (maxL := 3) (ret := (some .int)) (by decide) rfl ?_
  intro p e s m args below meth c s₁ B hml hv
  obtain ⟨rfl, hsz, hP, hK, hD0, hE, hN⟩ := hv
  have hx := B.exec
  have hb := B.bytes
  have hr := B.returns
  have hts := atoms_spec (ws := wsX3_firstUnsound) B.pre
  have hown : s.vm.findClass RX3 = some m.cls := findClass_of_methodNamed B.named
  have hlocks := B.notSynchronized
  subst hsz
  have hD := hD0.self (sz := s.heap.size)
  generalize hAe : va_A [(h, .inr (0, [.ref q, .int (nI (4 * n))])), (q, .inl (g.2.1.1, N, .inl f))] s.heap.size = A at hD hE ⊢
  have hA : ∀ q : Nat, s.heap.size ≤ q → A q := fun q h => by rw [← hAe]; exact Or.inr h
  have hS : va_S A s.heap s.heap [] := va_S.rf
  have hl := lv_entry ([.ref h]) (n := 3) (Nat.le_of_ble_eq_true rfl)
  rw [lg_entry_eq]
  generalize (lg_sl ([.ref h]) ++ List.replicate (3 - (lg_sl ([.ref h])).length) Slot.unset).toArray = ls at hl ⊢
  have hl : lv_has ls 3 [(0, .ref h)] := hl
  refine lv_aload_n hx hb dX3_firstUnsound_0 rfl (lv_at hl 0 rfl) ?_
  refine kiV (As := []) (rest := []) (wc := [(h, .inr (0, [.ref q, .int (nI (4 * n))])), (q, .inl (g.2.1.1, N, .inl f))]) (wr := []) ⟨hx, hb, hml, hown, hts⟩ (c_X0_instructions l g h q N f (nI (4 * n)) hNn) (cwV 0 hts gX3_firstUnsound_X0_instructions rfl rfl rfl (by decide +kernel) ⟨Nat.le_of_ble_eq_true rfl, Nat.le_of_ble_eq_true rfl⟩) ⟨hK, hP, hD, hS, hA, hE, hN⟩ [0, 1] [] ⟨rfl, rfl, by decide⟩ (q0 := 0) (ci := 0) rfl rfl rfl rfl hl.1 (Nat.le_of_ble_eq_true rfl) dX3_firstUnsound_1 ⟨Nat.le_of_ble_eq_true rfl, Nat.le_of_ble_eq_true rfl⟩ rfl (fun r u H locs hw hP hD hS => ?_)
  obtain ⟨hq, hw⟩ := hw
  subst r
  subst hw
  have hP := hP.sub (ws' := [(h, .inr (0, [.ref q, .int (nI (4 * n))])), (q, .inl (g.2.1.1, N, .inl f))]) [0, 1] rfl
  have hD := hD.sub (ws' := [(h, .inr (0, [.ref q, .int (nI (4 * n))])), (q, .inl (g.2.1.1, N, .inl f))]) [0, 1] (by decide) rfl
  refine lv_topi (fun y9 e9 => ?_)
  rw [show (sp_X0_instructions (nI (4 * n)) : Int32) = nI n from k_ins hn] at e9
  subst e9
  refine lv_istore_n (lv' := [(1, .int (nI n)), (0, .ref h)]) hx hb dX3_firstUnsound_4 rfl hl (by decide) rfl (fun ls hl => ?_)
  refine lv_iload_n hx hb dX3_firstUnsound_5 rfl (lv_at hl 0 rfl) ?_
  refine lv_if_ne (tgt := 11) hx hb dX3_firstUnsound_6 (by decide) (fun c_0 => ?_) (fun c_0 => ?_)
  · skip
    refine lv_iconst (v := 0) hx hb dX3_firstUnsound_11 (by decide) ?_
    refine lv_istore_n (lv' := [(2, .int 0), (1, .int (nI n)), (0, .ref h)]) hx hb dX3_firstUnsound_12 rfl hl (by decide) rfl (fun ls hl => ?_)
    have loop_13 : ∀ (K : Nat) (j : Nat) (h2 : j ≤ n) (hq : fun_fu N f n = fu (fun x => sp_X3_isSound N f (nI (4 * n)) (nI (4 * x))) (n - j) j), n - j < K → ∀ (H : Heap) (locs : List Loc) (ls : Array Slot), va_P g.1 vwCl [(h, .inr (0, [.ref q, .int (nI (4 * n))])), (q, .inl (g.2.1.1, N, .inl f))] H → va_D A [(h, .inr (0, [.ref q, .int (nI (4 * n))])), (q, .inl (g.2.1.1, N, .inl f))] → va_S A s.heap H locs → lv_has ls 3 [(0, .ref h), (1, .int (nI n)), (2, .int (nI j))] → W p l e (headSpec wsX3_firstUnsound ({ frames := 4, cells := 0, slots := 0, locals := 88 })).room s m ([.ref h] : List Value).toArray below meth c H locs 0 0 (MQ below (va_Qi (fun r u => r = fun_fu N f n ∧ u = [(h, .inr (0, [.ref q, .int (nI (4 * n))])), (q, .inl (g.2.1.1, N, .inl f))]) (SB g A) A) ([.ref h] : List Value).toArray s 0 0 A) (F0 m 13 ls []) := by
      intro K
      induction K with
      | zero => intro j h2 hq hm; exact absurd hm (Nat.not_lt_zero _)
      | succ K ih =>
        intro j h2 hq hm H locs ls hP hD hS hl
        refine lv_iload_n hx hb dX3_firstUnsound_13 rfl (lv_at hl 2 rfl) ?_
        refine lv_iload_n hx hb dX3_firstUnsound_14 rfl (lv_at hl 1 rfl) ?_
        refine lv_icmp_ge (tgt := 36) hx hb dX3_firstUnsound_15 (by decide) (fun c_1 => ?_) (fun c_1 => ?_)
        · skip
          refine lv_iconst (v := (-1)) hx hb dX3_firstUnsound_36 (by decide) ?_
          exact k_iret hx hb hr hlocks ⟨hK, hP, hD, hS, hA, hE, hN⟩ rfl dX3_firstUnsound_37 (Nat.le_of_ble_eq_true rfl) (Nat.le_of_ble_eq_true rfl) ⟨by rw [hq, show n - j = 0 by have := k_le c_1 (by omega) (by omega); omega]; rfl, rfl⟩
        · skip
          refine lv_aload_n hx hb dX3_firstUnsound_18 rfl (lv_at hl 0 rfl) ?_
          refine lv_iconst (v := 4) hx hb dX3_firstUnsound_19 (by decide) ?_
          refine lv_iload_n hx hb dX3_firstUnsound_20 rfl (lv_at hl 2 rfl) ?_
          refine lv_imul hx hb dX3_firstUnsound_21 ?_
          refine lv_topi (fun y9 e9 => ?_)
          rw [show (4 * (nI j) : Int32) = nI (4 * j) from pk_mul _ _] at e9
          subst e9
          refine kiS (As := [.ref h, .int (nI (4 * j))]) (rest := []) (wc := [(h, .inr (0, [.ref q, .int (nI (4 * n))])), (q, .inl (g.2.1.1, N, .inl f))]) (wr := []) ⟨hx, hb, hml, hown, hts⟩ (c_X3_isSound l g h q N f (nI (4 * n)) (nI (4 * j)) hNn) (va_cwS 2 hts gX3_firstUnsound_X3_isSound rfl rfl rfl (by decide +kernel) ⟨Nat.le_of_ble_eq_true rfl, Nat.le_of_ble_eq_true rfl⟩) ⟨hK, hP, hD, hS, hA, hE, hN⟩ [0, 1] [] ⟨rfl, rfl, by decide⟩ rfl hl.1 (Nat.le_of_ble_eq_true rfl) dX3_firstUnsound_22 ⟨Nat.le_of_ble_eq_true rfl, Nat.le_of_ble_eq_true rfl⟩ rfl (fun r u H locs hw hP hD hS => ?_)
          obtain ⟨hq, hw⟩ := hw
          subst r
          subst hw
          have hP := hP.sub (ws' := [(h, .inr (0, [.ref q, .int (nI (4 * n))])), (q, .inl (g.2.1.1, N, .inl f))]) [0, 1] rfl
          have hD := hD.sub (ws' := [(h, .inr (0, [.ref q, .int (nI (4 * n))])), (q, .inl (g.2.1.1, N, .inl f))]) [0, 1] (by decide) rfl
          refine lv_if_ne (tgt := 30) hx hb dX3_firstUnsound_25 (by decide) (fun c_2 => ?_) (fun c_2 => ?_)
          · skip
            refine lv_iinc (v := (nI (j + 1))) (lv' := [(2, .int (nI (j + 1))), (0, .ref h), (1, .int (nI n))]) hx hb dX3_firstUnsound_30 hl (k := 2) rfl (nI_add _ _) (by decide) rfl (fun ls hl => ?_)
            refine lv_goto (tgt := 13) hx hb dX3_firstUnsound_33 (by decide) ?_
            exact ih (j + 1) (k_nle c_1 (by omega) (by omega)) (by rw [hq, fu_s (k_nle c_1 (by omega) (by omega)), if_neg c_2]) (by have := k_nle c_1 (by omega) (by omega); omega) _ _ _ hP hD hS (lv_sub hl [1, 2, 0] rfl)
          · skip
            refine lv_iload_n hx hb dX3_firstUnsound_28 rfl (lv_at hl 2 rfl) ?_
            exact k_iret hx hb hr hlocks ⟨hK, hP, hD, hS, hA, hE, hN⟩ rfl dX3_firstUnsound_29 (Nat.le_of_ble_eq_true rfl) (Nat.le_of_ble_eq_true rfl) ⟨by rw [hq, fu_s (k_nle c_1 (by omega) (by omega)), if_pos c_2], rfl⟩
    exact loop_13 (n - 0 + 1) 0 (Nat.zero_le _) (by unfold fun_fu; rw [if_neg (fun e => c_0 (by rw [e]; rfl))]; rfl) (Nat.lt_succ_self _) _ _ _ hP hD hS (lv_sub hl [2, 1, 0] rfl)
  · skip
    refine lv_iconst (v := 0) hx hb dX3_firstUnsound_9 (by decide) ?_
    exact k_iret hx hb hr hlocks ⟨hK, hP, hD, hS, hA, hE, hN⟩ rfl dX3_firstUnsound_10 (Nat.le_of_ble_eq_true rfl) (Nat.le_of_ble_eq_true rfl) ⟨by unfold fun_fu; rw [if_pos ((nI_eq (by omega) (by decide)).mp c_0)], rfl⟩
def fun_fv (N : Nat) (f : Nat → Int32) (n : Nat) (base : Int32) : Int32 := if sp_X4_isGoodSize (nI (16 * n)) = 0 then nI (16 * n) else fv (fun x => sp_X4_isTaken N f (nI (16 * n)) (nI (4 * x)) base) (4 * n) 0
set_option maxHeartbeats 4000000 in
set_option maxRecDepth 100000 in
theorem c_X4_firstRefused (l : Launch) (g : KG) (h : Nat) (q : Nat) (N : Nat) (f : Nat → Int32) (n : Nat) (base : Int32) (hNn : N < 2 ^ 31) (hn : n ≤ 64) : Ci l g yX4_firstRefused wsX4_firstRefused ({ frames := 5, cells := 0, slots := 0, locals := 111 }) [.ref h, .int base] [(h, .inr (0, [.ref q, .int (nI (16 * n))])), (q, .inl (g.2.1.1, N, .inl f))] (fun r u => r = fun_fv N f n base ∧ u = [(h, .inr (0, [.ref q, .int (nI (16 * n))])), (q, .inl (g.2.1.1, N, .inl f))]) 0 0 := by
  intro sz
  refine Met.ofW (cc := cX4_firstRefused) (maxL := 4) (ret := (some .int)) (by decide) rfl ?_
  intro p e s m args below meth c s₁ B hml hv
  obtain ⟨rfl, hsz, hP, hK, hD0, hE, hN⟩ := hv
  have hx := B.exec
  have hb := B.bytes
  have hr := B.returns
  have hts := atoms_spec (ws := wsX4_firstRefused) B.pre
  have hown : s.vm.findClass RX4 = some m.cls := findClass_of_methodNamed B.named
  have hlocks := B.notSynchronized
  subst hsz
  have hD := hD0.self (sz := s.heap.size)
  generalize hAe : va_A [(h, .inr (0, [.ref q, .int (nI (16 * n))])), (q, .inl (g.2.1.1, N, .inl f))] s.heap.size = A at hD hE ⊢
  have hA : ∀ q : Nat, s.heap.size ≤ q → A q := fun q h => by rw [← hAe]; exact Or.inr h
  have hS : va_S A s.heap s.heap [] := va_S.rf
  have hl := lv_entry ([.ref h, .int base]) (n := 4) (Nat.le_of_ble_eq_true rfl)
  rw [lg_entry_eq]
  generalize (lg_sl ([.ref h, .int base]) ++ List.replicate (4 - (lg_sl ([.ref h, .int base])).length) Slot.unset).toArray = ls at hl ⊢
  have hl : lv_has ls 4 [(0, .ref h), (1, .int base)] := hl
  refine lv_aload_n hx hb dX4_firstRefused_0 rfl (lv_at hl 0 rfl) ?_
  refine kiV (As := []) (rest := []) (wc := [(h, .inr (0, [.ref q, .int (nI (16 * n))])), (q, .inl (g.2.1.1, N, .inl f))]) (wr := []) ⟨hx, hb, hml, hown, hts⟩ (c_X0_length l g h q N f (nI (16 * n)) hNn) (cwV 0 hts gX4_firstRefused_X0_length rfl rfl rfl (by decide +kernel) ⟨Nat.le_of_ble_eq_true rfl, Nat.le_of_ble_eq_true rfl⟩) ⟨hK, hP, hD, hS, hA, hE, hN⟩ [0, 1] [] ⟨rfl, rfl, by decide⟩ (q0 := 0) (ci := 0) rfl rfl rfl rfl hl.1 (Nat.le_of_ble_eq_true rfl) dX4_firstRefused_1 ⟨Nat.le_of_ble_eq_true rfl, Nat.le_of_ble_eq_true rfl⟩ rfl (fun r u H locs hw hP hD hS => ?_)
  obtain ⟨hq, hw⟩ := hw
  subst r
  subst hw
  have hP := hP.sub (ws' := [(h, .inr (0, [.ref q, .int (nI (16 * n))])), (q, .inl (g.2.1.1, N, .inl f))]) [0, 1] rfl
  have hD := hD.sub (ws' := [(h, .inr (0, [.ref q, .int (nI (16 * n))])), (q, .inl (g.2.1.1, N, .inl f))]) [0, 1] (by decide) rfl
  refine lv_topi (fun y9 e9 => ?_)
  rw [show (sp_X0_length (nI (16 * n)) : Int32) = nI (16 * n) from rfl] at e9
  subst e9
  refine lv_istore_n (lv' := [(2, .int (nI (16 * n))), (0, .ref h), (1, .int base)]) hx hb dX4_firstRefused_4 rfl hl (by decide) rfl (fun ls hl => ?_)
  refine lv_iload_n hx hb dX4_firstRefused_5 rfl (lv_at hl 0 rfl) ?_
  refine kiS (As := [.int (nI (16 * n))]) (rest := []) (wc := []) (wr := [(h, .inr (0, [.ref q, .int (nI (16 * n))])), (q, .inl (g.2.1.1, N, .inl f))]) ⟨hx, hb, hml, hown, hts⟩ (c_X4_isGoodSize l g (nI (16 * n))) (va_cwS 1 hts gX4_firstRefused_X4_isGoodSize rfl rfl rfl (by decide +kernel) ⟨Nat.le_of_ble_eq_true rfl, Nat.le_of_ble_eq_true rfl⟩) ⟨hK, hP, hD, hS, hA, hE, hN⟩ [] [0, 1] ⟨rfl, rfl, by decide⟩ rfl hl.1 (Nat.le_of_ble_eq_true rfl) dX4_firstRefused_6 ⟨Nat.le_of_ble_eq_true rfl, Nat.le_of_ble_eq_true rfl⟩ rfl (fun r u H locs hw hP hD hS => ?_)
  obtain ⟨hq, hw⟩ := hw
  subst r
  subst hw
  have hP := hP.sub (ws' := [(h, .inr (0, [.ref q, .int (nI (16 * n))])), (q, .inl (g.2.1.1, N, .inl f))]) [0, 1] rfl
  have hD := hD.sub (ws' := [(h, .inr (0, [.ref q, .int (nI (16 * n))])), (q, .inl (g.2.1.1, N, .inl f))]) [0, 1] (by decide) rfl
  refine lv_if_ne (tgt := 14) hx hb dX4_firstRefused_9 (by decide) (fun c_0 => ?_) (fun c_0 => ?_)
  · skip
    refine lv_iconst (v := 0) hx hb dX4_firstRefused_14 (by decide) ?_
    refine lv_istore_n (lv' := [(3, .int 0), (2, .int (nI (16 * n))), (0, .ref h), (1, .int base)]) hx hb dX4_firstRefused_15 rfl hl (by decide) rfl (fun ls hl => ?_)
    have loop_16 : ∀ (K : Nat) (j : Nat) (h2 : j ≤ 4 * n) (hq : fun_fv N f n base = fv (fun x => sp_X4_isTaken N f (nI (16 * n)) (nI (4 * x)) base) (4 * n - j) j), 4 * n - j < K → ∀ (H : Heap) (locs : List Loc) (ls : Array Slot), va_P g.1 vwCl [(h, .inr (0, [.ref q, .int (nI (16 * n))])), (q, .inl (g.2.1.1, N, .inl f))] H → va_D A [(h, .inr (0, [.ref q, .int (nI (16 * n))])), (q, .inl (g.2.1.1, N, .inl f))] → va_S A s.heap H locs → lv_has ls 4 [(0, .ref h), (1, .int base), (2, .int (nI (16 * n))), (3, .int (nI (4 * j)))] → W p l e (headSpec wsX4_firstRefused ({ frames := 5, cells := 0, slots := 0, locals := 111 })).room s m ([.ref h, .int base] : List Value).toArray below meth c H locs 0 0 (MQ below (va_Qi (fun r u => r = fun_fv N f n base ∧ u = [(h, .inr (0, [.ref q, .int (nI (16 * n))])), (q, .inl (g.2.1.1, N, .inl f))]) (SB g A) A) ([.ref h, .int base] : List Value).toArray s 0 0 A) (F0 m 16 ls []) := by
      intro K
      induction K with
      | zero => intro j h2 hq hm; exact absurd hm (Nat.not_lt_zero _)
      | succ K ih =>
        intro j h2 hq hm H locs ls hP hD hS hl
        refine lv_iload_n hx hb dX4_firstRefused_16 rfl (lv_at hl 3 rfl) ?_
        refine lv_iload_n hx hb dX4_firstRefused_17 rfl (lv_at hl 2 rfl) ?_
        refine lv_icmp_ge (tgt := 38) hx hb dX4_firstRefused_18 (by decide) (fun c_1 => ?_) (fun c_1 => ?_)
        · skip
          refine lv_iconst (v := (-1)) hx hb dX4_firstRefused_38 (by decide) ?_
          exact k_iret hx hb hr hlocks ⟨hK, hP, hD, hS, hA, hE, hN⟩ rfl dX4_firstRefused_39 (Nat.le_of_ble_eq_true rfl) (Nat.le_of_ble_eq_true rfl) ⟨by rw [hq, show 4 * n - j = 0 by have := k_le c_1 (by omega) (by omega); omega]; rfl, rfl⟩
        · skip
          refine lv_aload_n hx hb dX4_firstRefused_21 rfl (lv_at hl 0 rfl) ?_
          refine lv_iload_n hx hb dX4_firstRefused_22 rfl (lv_at hl 3 rfl) ?_
          refine lv_iload_n hx hb dX4_firstRefused_23 rfl (lv_at hl 1 rfl) ?_
          refine kiS (As := [.ref h, .int (nI (4 * j)), .int base]) (rest := []) (wc := [(h, .inr (0, [.ref q, .int (nI (16 * n))])), (q, .inl (g.2.1.1, N, .inl f))]) (wr := []) ⟨hx, hb, hml, hown, hts⟩ (c_X4_isTaken l g h q N f (nI (16 * n)) (nI (4 * j)) base hNn) (va_cwS 3 hts gX4_firstRefused_X4_isTaken rfl rfl rfl (by decide +kernel) ⟨Nat.le_of_ble_eq_true rfl, Nat.le_of_ble_eq_true rfl⟩) ⟨hK, hP, hD, hS, hA, hE, hN⟩ [0, 1] [] ⟨rfl, rfl, by decide⟩ rfl hl.1 (Nat.le_of_ble_eq_true rfl) dX4_firstRefused_24 ⟨Nat.le_of_ble_eq_true rfl, Nat.le_of_ble_eq_true rfl⟩ rfl (fun r u H locs hw hP hD hS => ?_)
          obtain ⟨hq, hw⟩ := hw
          subst r
          subst hw
          have hP := hP.sub (ws' := [(h, .inr (0, [.ref q, .int (nI (16 * n))])), (q, .inl (g.2.1.1, N, .inl f))]) [0, 1] rfl
          have hD := hD.sub (ws' := [(h, .inr (0, [.ref q, .int (nI (16 * n))])), (q, .inl (g.2.1.1, N, .inl f))]) [0, 1] (by decide) rfl
          refine lv_if_ne (tgt := 32) hx hb dX4_firstRefused_27 (by decide) (fun c_2 => ?_) (fun c_2 => ?_)
          · skip
            refine lv_iinc (v := (nI ((4 * j) + 4))) (lv' := [(3, .int (nI ((4 * j) + 4))), (0, .ref h), (1, .int base), (2, .int (nI (16 * n)))]) hx hb dX4_firstRefused_32 hl (k := 3) rfl (nI_add _ _) (by decide) rfl (fun ls hl => ?_)
            refine lv_goto (tgt := 16) hx hb dX4_firstRefused_35 (by decide) ?_
            rw [show (nI ((4 * j) + 4) : Int32) = nI (4 * (j + 1)) from (by rw [show 4 * (j + 1) = 4 * j + 4 by omega])] at hl
            exact ih (j + 1) (by have := k_nle c_1 (by omega) (by omega); omega) (by rw [hq, fv_s (by have := k_nle c_1 (by omega) (by omega); omega), if_neg c_2]) (by have := k_nle c_1 (by omega) (by omega); omega) _ _ _ hP hD hS (lv_sub hl [1, 2, 3, 0] rfl)
          · skip
            refine lv_iload_n hx hb dX4_firstRefused_30 rfl (lv_at hl 3 rfl) ?_
            exact k_iret hx hb hr hlocks ⟨hK, hP, hD, hS, hA, hE, hN⟩ rfl dX4_firstRefused_31 (Nat.le_of_ble_eq_true rfl) (Nat.le_of_ble_eq_true rfl) ⟨by rw [hq, fv_s (by have := k_nle c_1 (by omega) (by omega); omega), if_pos c_2], rfl⟩
    exact loop_16 (4 * n - 0 + 1) 0 (Nat.zero_le _) (by unfold fun_fv; rw [if_neg c_0]; rfl) (Nat.lt_succ_self _) _ _ _ hP hD hS (lv_sub hl [2, 3, 1, 0] rfl)
  · skip
    refine lv_iload_n hx hb dX4_firstRefused_12 rfl (lv_at hl 0 rfl) ?_
    exact k_iret hx hb hr hlocks ⟨hK, hP, hD, hS, hA, hE, hN⟩ rfl dX4_firstRefused_13 (Nat.le_of_ble_eq_true rfl) (Nat.le_of_ble_eq_true rfl) ⟨by unfold fun_fv; rw [if_pos c_0], rfl⟩
def sp_X2_powerOf2From (i : Int32) : Int32 := if i ≤ 1 then 1 else (if i ≤ 2 then 2 else (if i ≤ 4 then 4 else (if i ≤ 8 then 8 else (if i ≤ 16 then 16 else (if i ≤ 32 then 32 else (if i ≤ 64 then 64 else 128))))))
set_option maxHeartbeats 4000000 in
set_option maxRecDepth 100000 in
theorem c_X2_powerOf2From (l : Launch) (g : KG) (i : Int32)  : Ci l g yX2_powerOf2From wsX2_powerOf2From ({ frames := 0, cells := 0, slots := 0, locals := 0 }) [.int i] [] (fun r u => r = sp_X2_powerOf2From i ∧ u = []) 0 0 := by
  intro sz
  refine Met.ofW (cc := cX2_powerOf2From) (maxL := 2) (ret := (some .int)) (by decide) rfl ?_
  intro p e s m args below meth c s₁ B hml hv
  obtain ⟨rfl, hsz, hP, hK, hD0, hE, hN⟩ := hv
  have hx := B.exec
  have hb := B.bytes
  have hr := B.returns
  have hts := atoms_spec (ws := wsX2_powerOf2From) B.pre
  have hown : s.vm.findClass RX2 = some m.cls := findClass_of_methodNamed B.named
  have hlocks := B.notSynchronized
  subst hsz
  have hD := hD0.self (sz := s.heap.size)
  generalize hAe : va_A [] s.heap.size = A at hD hE ⊢
  have hA : ∀ q : Nat, s.heap.size ≤ q → A q := fun q h => by rw [← hAe]; exact Or.inr h
  have hS : va_S A s.heap s.heap [] := va_S.rf
  have hl := lv_entry ([.int i]) (n := 2) (Nat.le_of_ble_eq_true rfl)
  rw [lg_entry_eq]
  generalize (lg_sl ([.int i]) ++ List.replicate (2 - (lg_sl ([.int i])).length) Slot.unset).toArray = ls at hl ⊢
  have hl : lv_has ls 2 [(0, .int i)] := hl
  refine lv_iconst (v := 1) hx hb dX2_powerOf2From_0 (by decide) ?_
  refine lv_istore_n (lv' := [(1, .int 1), (0, .int i)]) hx hb dX2_powerOf2From_1 rfl hl (by decide) rfl (fun ls hl => ?_)
  refine lv_iload_n hx hb dX2_powerOf2From_2 rfl (lv_at hl 0 rfl) ?_
  refine lv_iload_n hx hb dX2_powerOf2From_3 rfl (lv_at hl 1 rfl) ?_
  refine lv_icmp_ge (tgt := 20) hx hb dX2_powerOf2From_4 (by decide) (fun c_0 => ?_) (fun c_0 => ?_)
  · skip
    refine lv_iload_n hx hb dX2_powerOf2From_20 rfl (lv_at hl 0 rfl) ?_
    exact k_iret hx hb hr hlocks ⟨hK, hP, hD, hS, hA, hE, hN⟩ rfl dX2_powerOf2From_21 (Nat.le_of_ble_eq_true rfl) (Nat.le_of_ble_eq_true rfl) ⟨(by simp only [sp_X2_powerOf2From, if_pos c_0]), rfl⟩
  · skip
    refine lv_iload_n hx hb dX2_powerOf2From_7 rfl (lv_at hl 0 rfl) ?_
    refine lv_bipush (v := 64) hx hb dX2_powerOf2From_8 (by decide) ?_
    refine lv_icmp_gt (tgt := 20) hx hb dX2_powerOf2From_10 (by decide) (fun c_1 => absurd c_1 (by decide)) (fun _ => ?_)
    refine lv_iconst (v := 2) hx hb dX2_powerOf2From_13 (by decide) ?_
    refine lv_iload_n hx hb dX2_powerOf2From_14 rfl (lv_at hl 0 rfl) ?_
    refine lv_imul hx hb dX2_powerOf2From_15 ?_
    refine lv_topi (fun y9 e9 => ?_)
    rw [show (2 * 1 : Int32) = 2 from (by decide)] at e9
    subst e9
    refine lv_istore_n (lv' := [(1, .int 2), (0, .int i)]) hx hb dX2_powerOf2From_16 rfl hl (by decide) rfl (fun ls hl => ?_)
    refine lv_goto (tgt := 2) hx hb dX2_powerOf2From_17 (by decide) ?_
    refine lv_iload_n hx hb dX2_powerOf2From_2 rfl (lv_at hl 0 rfl) ?_
    refine lv_iload_n hx hb dX2_powerOf2From_3 rfl (lv_at hl 1 rfl) ?_
    refine lv_icmp_ge (tgt := 20) hx hb dX2_powerOf2From_4 (by decide) (fun c_2 => ?_) (fun c_2 => ?_)
    · skip
      refine lv_iload_n hx hb dX2_powerOf2From_20 rfl (lv_at hl 0 rfl) ?_
      exact k_iret hx hb hr hlocks ⟨hK, hP, hD, hS, hA, hE, hN⟩ rfl dX2_powerOf2From_21 (Nat.le_of_ble_eq_true rfl) (Nat.le_of_ble_eq_true rfl) ⟨(by simp only [sp_X2_powerOf2From, if_neg c_0, if_pos c_2]), rfl⟩
    · skip
      refine lv_iload_n hx hb dX2_powerOf2From_7 rfl (lv_at hl 0 rfl) ?_
      refine lv_bipush (v := 64) hx hb dX2_powerOf2From_8 (by decide) ?_
      refine lv_icmp_gt (tgt := 20) hx hb dX2_powerOf2From_10 (by decide) (fun c_3 => absurd c_3 (by decide)) (fun _ => ?_)
      refine lv_iconst (v := 2) hx hb dX2_powerOf2From_13 (by decide) ?_
      refine lv_iload_n hx hb dX2_powerOf2From_14 rfl (lv_at hl 0 rfl) ?_
      refine lv_imul hx hb dX2_powerOf2From_15 ?_
      refine lv_topi (fun y9 e9 => ?_)
      rw [show (2 * 2 : Int32) = 4 from (by decide)] at e9
      subst e9
      refine lv_istore_n (lv' := [(1, .int 4), (0, .int i)]) hx hb dX2_powerOf2From_16 rfl hl (by decide) rfl (fun ls hl => ?_)
      refine lv_goto (tgt := 2) hx hb dX2_powerOf2From_17 (by decide) ?_
      refine lv_iload_n hx hb dX2_powerOf2From_2 rfl (lv_at hl 0 rfl) ?_
      refine lv_iload_n hx hb dX2_powerOf2From_3 rfl (lv_at hl 1 rfl) ?_
      refine lv_icmp_ge (tgt := 20) hx hb dX2_powerOf2From_4 (by decide) (fun c_4 => ?_) (fun c_4 => ?_)
      · skip
        refine lv_iload_n hx hb dX2_powerOf2From_20 rfl (lv_at hl 0 rfl) ?_
        exact k_iret hx hb hr hlocks ⟨hK, hP, hD, hS, hA, hE, hN⟩ rfl dX2_powerOf2From_21 (Nat.le_of_ble_eq_true rfl) (Nat.le_of_ble_eq_true rfl) ⟨(by simp only [sp_X2_powerOf2From, if_neg c_0, if_neg c_2, if_pos c_4]), rfl⟩
      · skip
        refine lv_iload_n hx hb dX2_powerOf2From_7 rfl (lv_at hl 0 rfl) ?_
        refine lv_bipush (v := 64) hx hb dX2_powerOf2From_8 (by decide) ?_
        refine lv_icmp_gt (tgt := 20) hx hb dX2_powerOf2From_10 (by decide) (fun c_5 => absurd c_5 (by decide)) (fun _ => ?_)
        refine lv_iconst (v := 2) hx hb dX2_powerOf2From_13 (by decide) ?_
        refine lv_iload_n hx hb dX2_powerOf2From_14 rfl (lv_at hl 0 rfl) ?_
        refine lv_imul hx hb dX2_powerOf2From_15 ?_
        refine lv_topi (fun y9 e9 => ?_)
        rw [show (2 * 4 : Int32) = 8 from (by decide)] at e9
        subst e9
        refine lv_istore_n (lv' := [(1, .int 8), (0, .int i)]) hx hb dX2_powerOf2From_16 rfl hl (by decide) rfl (fun ls hl => ?_)
        refine lv_goto (tgt := 2) hx hb dX2_powerOf2From_17 (by decide) ?_
        refine lv_iload_n hx hb dX2_powerOf2From_2 rfl (lv_at hl 0 rfl) ?_
        refine lv_iload_n hx hb dX2_powerOf2From_3 rfl (lv_at hl 1 rfl) ?_
        refine lv_icmp_ge (tgt := 20) hx hb dX2_powerOf2From_4 (by decide) (fun c_6 => ?_) (fun c_6 => ?_)
        · skip
          refine lv_iload_n hx hb dX2_powerOf2From_20 rfl (lv_at hl 0 rfl) ?_
          exact k_iret hx hb hr hlocks ⟨hK, hP, hD, hS, hA, hE, hN⟩ rfl dX2_powerOf2From_21 (Nat.le_of_ble_eq_true rfl) (Nat.le_of_ble_eq_true rfl) ⟨(by simp only [sp_X2_powerOf2From, if_neg c_0, if_neg c_2, if_neg c_4, if_pos c_6]), rfl⟩
        · skip
          refine lv_iload_n hx hb dX2_powerOf2From_7 rfl (lv_at hl 0 rfl) ?_
          refine lv_bipush (v := 64) hx hb dX2_powerOf2From_8 (by decide) ?_
          refine lv_icmp_gt (tgt := 20) hx hb dX2_powerOf2From_10 (by decide) (fun c_7 => absurd c_7 (by decide)) (fun _ => ?_)
          refine lv_iconst (v := 2) hx hb dX2_powerOf2From_13 (by decide) ?_
          refine lv_iload_n hx hb dX2_powerOf2From_14 rfl (lv_at hl 0 rfl) ?_
          refine lv_imul hx hb dX2_powerOf2From_15 ?_
          refine lv_topi (fun y9 e9 => ?_)
          rw [show (2 * 8 : Int32) = 16 from (by decide)] at e9
          subst e9
          refine lv_istore_n (lv' := [(1, .int 16), (0, .int i)]) hx hb dX2_powerOf2From_16 rfl hl (by decide) rfl (fun ls hl => ?_)
          refine lv_goto (tgt := 2) hx hb dX2_powerOf2From_17 (by decide) ?_
          refine lv_iload_n hx hb dX2_powerOf2From_2 rfl (lv_at hl 0 rfl) ?_
          refine lv_iload_n hx hb dX2_powerOf2From_3 rfl (lv_at hl 1 rfl) ?_
          refine lv_icmp_ge (tgt := 20) hx hb dX2_powerOf2From_4 (by decide) (fun c_8 => ?_) (fun c_8 => ?_)
          · skip
            refine lv_iload_n hx hb dX2_powerOf2From_20 rfl (lv_at hl 0 rfl) ?_
            exact k_iret hx hb hr hlocks ⟨hK, hP, hD, hS, hA, hE, hN⟩ rfl dX2_powerOf2From_21 (Nat.le_of_ble_eq_true rfl) (Nat.le_of_ble_eq_true rfl) ⟨(by simp only [sp_X2_powerOf2From, if_neg c_0, if_neg c_2, if_neg c_4, if_neg c_6, if_pos c_8]), rfl⟩
          · skip
            refine lv_iload_n hx hb dX2_powerOf2From_7 rfl (lv_at hl 0 rfl) ?_
            refine lv_bipush (v := 64) hx hb dX2_powerOf2From_8 (by decide) ?_
            refine lv_icmp_gt (tgt := 20) hx hb dX2_powerOf2From_10 (by decide) (fun c_9 => absurd c_9 (by decide)) (fun _ => ?_)
            refine lv_iconst (v := 2) hx hb dX2_powerOf2From_13 (by decide) ?_
            refine lv_iload_n hx hb dX2_powerOf2From_14 rfl (lv_at hl 0 rfl) ?_
            refine lv_imul hx hb dX2_powerOf2From_15 ?_
            refine lv_topi (fun y9 e9 => ?_)
            rw [show (2 * 16 : Int32) = 32 from (by decide)] at e9
            subst e9
            refine lv_istore_n (lv' := [(1, .int 32), (0, .int i)]) hx hb dX2_powerOf2From_16 rfl hl (by decide) rfl (fun ls hl => ?_)
            refine lv_goto (tgt := 2) hx hb dX2_powerOf2From_17 (by decide) ?_
            refine lv_iload_n hx hb dX2_powerOf2From_2 rfl (lv_at hl 0 rfl) ?_
            refine lv_iload_n hx hb dX2_powerOf2From_3 rfl (lv_at hl 1 rfl) ?_
            refine lv_icmp_ge (tgt := 20) hx hb dX2_powerOf2From_4 (by decide) (fun c_10 => ?_) (fun c_10 => ?_)
            · skip
              refine lv_iload_n hx hb dX2_powerOf2From_20 rfl (lv_at hl 0 rfl) ?_
              exact k_iret hx hb hr hlocks ⟨hK, hP, hD, hS, hA, hE, hN⟩ rfl dX2_powerOf2From_21 (Nat.le_of_ble_eq_true rfl) (Nat.le_of_ble_eq_true rfl) ⟨(by simp only [sp_X2_powerOf2From, if_neg c_0, if_neg c_2, if_neg c_4, if_neg c_6, if_neg c_8, if_pos c_10]), rfl⟩
            · skip
              refine lv_iload_n hx hb dX2_powerOf2From_7 rfl (lv_at hl 0 rfl) ?_
              refine lv_bipush (v := 64) hx hb dX2_powerOf2From_8 (by decide) ?_
              refine lv_icmp_gt (tgt := 20) hx hb dX2_powerOf2From_10 (by decide) (fun c_11 => absurd c_11 (by decide)) (fun _ => ?_)
              refine lv_iconst (v := 2) hx hb dX2_powerOf2From_13 (by decide) ?_
              refine lv_iload_n hx hb dX2_powerOf2From_14 rfl (lv_at hl 0 rfl) ?_
              refine lv_imul hx hb dX2_powerOf2From_15 ?_
              refine lv_topi (fun y9 e9 => ?_)
              rw [show (2 * 32 : Int32) = 64 from (by decide)] at e9
              subst e9
              refine lv_istore_n (lv' := [(1, .int 64), (0, .int i)]) hx hb dX2_powerOf2From_16 rfl hl (by decide) rfl (fun ls hl => ?_)
              refine lv_goto (tgt := 2) hx hb dX2_powerOf2From_17 (by decide) ?_
              refine lv_iload_n hx hb dX2_powerOf2From_2 rfl (lv_at hl 0 rfl) ?_
              refine lv_iload_n hx hb dX2_powerOf2From_3 rfl (lv_at hl 1 rfl) ?_
              refine lv_icmp_ge (tgt := 20) hx hb dX2_powerOf2From_4 (by decide) (fun c_12 => ?_) (fun c_12 => ?_)
              · skip
                refine lv_iload_n hx hb dX2_powerOf2From_20 rfl (lv_at hl 0 rfl) ?_
                exact k_iret hx hb hr hlocks ⟨hK, hP, hD, hS, hA, hE, hN⟩ rfl dX2_powerOf2From_21 (Nat.le_of_ble_eq_true rfl) (Nat.le_of_ble_eq_true rfl) ⟨(by simp only [sp_X2_powerOf2From, if_neg c_0, if_neg c_2, if_neg c_4, if_neg c_6, if_neg c_8, if_neg c_10, if_pos c_12]), rfl⟩
              · skip
                refine lv_iload_n hx hb dX2_powerOf2From_7 rfl (lv_at hl 0 rfl) ?_
                refine lv_bipush (v := 64) hx hb dX2_powerOf2From_8 (by decide) ?_
                refine lv_icmp_gt (tgt := 20) hx hb dX2_powerOf2From_10 (by decide) (fun c_13 => absurd c_13 (by decide)) (fun _ => ?_)
                refine lv_iconst (v := 2) hx hb dX2_powerOf2From_13 (by decide) ?_
                refine lv_iload_n hx hb dX2_powerOf2From_14 rfl (lv_at hl 0 rfl) ?_
                refine lv_imul hx hb dX2_powerOf2From_15 ?_
                refine lv_topi (fun y9 e9 => ?_)
                rw [show (2 * 64 : Int32) = 128 from (by decide)] at e9
                subst e9
                refine lv_istore_n (lv' := [(1, .int 128), (0, .int i)]) hx hb dX2_powerOf2From_16 rfl hl (by decide) rfl (fun ls hl => ?_)
                refine lv_goto (tgt := 2) hx hb dX2_powerOf2From_17 (by decide) ?_
                refine lv_iload_n hx hb dX2_powerOf2From_2 rfl (lv_at hl 0 rfl) ?_
                refine lv_iload_n hx hb dX2_powerOf2From_3 rfl (lv_at hl 1 rfl) ?_
                refine lv_icmp_ge (tgt := 20) hx hb dX2_powerOf2From_4 (by decide) (fun c_14 => ?_) (fun c_14 => ?_)
                · skip
                  refine lv_iload_n hx hb dX2_powerOf2From_20 rfl (lv_at hl 0 rfl) ?_
                  exact k_iret hx hb hr hlocks ⟨hK, hP, hD, hS, hA, hE, hN⟩ rfl dX2_powerOf2From_21 (Nat.le_of_ble_eq_true rfl) (Nat.le_of_ble_eq_true rfl) ⟨(by simp only [sp_X2_powerOf2From, if_neg c_0, if_neg c_2, if_neg c_4, if_neg c_6, if_neg c_8, if_neg c_10, if_neg c_12, if_pos c_14]), rfl⟩
                · skip
                  refine lv_iload_n hx hb dX2_powerOf2From_7 rfl (lv_at hl 0 rfl) ?_
                  refine lv_bipush (v := 64) hx hb dX2_powerOf2From_8 (by decide) ?_
                  refine lv_icmp_gt (tgt := 20) hx hb dX2_powerOf2From_10 (by decide) (fun _ => ?_) (fun c_15 => absurd c_15 (by decide))
                  refine lv_iload_n hx hb dX2_powerOf2From_20 rfl (lv_at hl 0 rfl) ?_
                  exact k_iret hx hb hr hlocks ⟨hK, hP, hD, hS, hA, hE, hN⟩ rfl dX2_powerOf2From_21 (Nat.le_of_ble_eq_true rfl) (Nat.le_of_ble_eq_true rfl) ⟨(by simp only [sp_X2_powerOf2From, if_neg c_0, if_neg c_2, if_neg c_4, if_neg c_6, if_neg c_8, if_neg c_10, if_neg c_12, if_neg c_14]), rfl⟩
