def cp6 (gn : Nat → Int32) (j : Nat) : Nat → Int32 := fun x => if x < j then gn x else 0
theorem cp6_0 {gn : Nat → Int32} : (fun _ => 0) = cp6 gn 0 := by
  funext x
  unfold cp6
  rw [if_neg (by omega)]
theorem cp6_u {gn : Nat → Int32} {j : Nat} : upd (cp6 gn j) j (gn j) = cp6 gn (j + 1) := by
  funext x
  by_cases hx : x = j
  · subst hx
    rw [pk_us, cp6, if_pos (Nat.lt_succ_self _)]
  · rw [pk_un hx]
    unfold cp6
    by_cases h1 : x < j
    · rw [if_pos h1, if_pos (by omega)]
    · rw [if_neg h1, if_neg (by omega)]
def rB (e : Nat) : Nat := p2N (e / 16 + 1)
theorem rB_le (e : Nat) : rB e ≤ 64 ∧ 1 ≤ rB e := p2N_le _
theorem rB_1 {e : Nat} (h : e + 4 ≤ 16) : 1 = rB e := by
  unfold rB p2N
  rw [if_pos (by omega)]
theorem rB_2 {e : Nat} (h0 : e % 4 = 0) (h1 : 16 < e + 4) (h : e + 4 ≤ 32) : 2 = rB e := by
  unfold rB p2N
  rw [if_neg (by omega), if_pos (by omega)]
theorem rB_4 {e : Nat} (h0 : e % 4 = 0) (h1 : 32 < e + 4) (h : e + 4 ≤ 64) : 4 = rB e := by
  unfold rB p2N
  rw [if_neg (by omega), if_neg (by omega), if_pos (by omega)]
theorem rB_8 {e : Nat} (h0 : e % 4 = 0) (h1 : 64 < e + 4) (h : e + 4 ≤ 128) : 8 = rB e := by
  unfold rB p2N
  rw [if_neg (by omega), if_neg (by omega), if_neg (by omega), if_pos (by omega)]
theorem rB_16 {e : Nat} (h0 : e % 4 = 0) (h1 : 128 < e + 4) (h : e + 4 ≤ 256) : 16 = rB e := by
  unfold rB p2N
  rw [if_neg (by omega), if_neg (by omega), if_neg (by omega), if_neg (by omega), if_pos (by omega)]
theorem rB_32 {e : Nat} (h0 : e % 4 = 0) (h1 : 256 < e + 4) (h : e + 4 ≤ 512) : 32 = rB e := by
  unfold rB p2N
  rw [if_neg (by omega), if_neg (by omega), if_neg (by omega), if_neg (by omega), if_neg (by omega), if_pos (by omega)]
theorem rB_64 {e : Nat} (h0 : e % 4 = 0) (h1 : 512 < e + 4) : 64 = rB e := by
  unfold rB p2N
  rw [if_neg (by omega), if_neg (by omega), if_neg (by omega), if_neg (by omega), if_neg (by omega), if_neg (by omega)]
def by6 (E : Nat) (D gb : Nat → Int32) (j : Nat) : Nat → Int32 := fun x => if x < j then (if x < E then D x else 0) else gb x
theorem by6_0 {E : Nat} {D gb : Nat → Int32} : by6 E D gb 0 = gb := by
  funext x
  unfold by6
  rw [if_neg (by omega)]
theorem by6_u {E : Nat} {D gb : Nat → Int32} {j : Nat} {v : Int32} (hv : v = if j < E then D j else 0) : upd (by6 E D gb j) j v = by6 E D gb (j + 1) := by
  funext x
  by_cases hx : x = j
  · subst hx
    rw [pk_us, by6, if_pos (Nat.lt_succ_self _), hv]
  · rw [pk_un hx]
    unfold by6
    by_cases h1 : x < j
    · rw [if_pos h1, if_pos (show x < j + 1 by omega)]
    · rw [if_neg h1, if_neg (show ¬ x < j + 1 by omega)]

set_option maxHeartbeats 4000000 in
set_option maxRecDepth 100000 in
theorem c_X6_rewrite (l : Launch) (g : KG) (hO : Nat) (qP : Nat) (qN : Nat) (qY : Nat) (qD : Nat) (qR : Nat) (qM : Nat) (qT : Nat) (gp : Nat → Int32) (gn : Nat → Int32) (gb : Nat → Int32) (gd : Nat → Int32) (xT : Int32) (xB : Int32) (n : Nat) (xP : Int32) (xS : Int32) (xA : Int32) (xw : Int32) (xa : Int32) (xb : Int32) (xc : Int32) (T : Nat → Nat) (hn : n ≤ 60) (hT0 : fun_fw gp n = -1 → ∀ x, x < n → ¬ sp_X6_isPlace (gp (4 * x)) = 0 → 256 * gp (4 * x + 2) + gp (4 * x + 3) = nI (T x) ∧ T x < 60) : Ci l g yX6_rewrite wsX6_rewrite ({ frames := 4, cells := 1, slots := 60, locals := 83 }) [.ref hO] [(hO, .inr (4, [.int xT, .int xB, .int (nI n), .ref qP, .int xP, .ref qN, .int xS, .ref qY, .ref qD, .int xA, .ref qR, .ref qM, .ref qT, .int xw, .int xa, .int xb, .int xc])), (qP, .inl (g.2.1.1, 240, .inl gp)), (qN, .inl (g.2.1.1, 60, .inl gn)), (qY, .inl (g.2.1.1, 1024, .inl gb)), (qD, .inl (g.2.1.1, 4096, .inl gd))] (fun r u => r = (if fun_fw gp n = -1 then nI (rB (mE gp n n)) else 0) ∧ ∃ (y0_13 : Int32) (y0_14 : Int32) (y0_15 : Int32) (y0_16 : Int32) (y0_9 : Int32) (y4 : Nat → Int32), u = [(hO, .inr (4, [.int (if fun_fw gp n = -1 then 0 else 1), .int xB, .int (nI n), .ref qP, .int (if fun_fw gp n = -1 then nI n else xP), .ref qN, .int (if fun_fw gp n = -1 then nI (16 * rB (mE gp n n)) else xS), .ref qY, .ref qD, .int y0_9, .ref qR, .ref qM, .ref qT, .int y0_13, .int y0_14, .int y0_15, .int y0_16])), (qP, .inl (g.2.1.1, 240, .inl gp)), (qN, .inl (g.2.1.1, 60, .inl (if fun_fw gp n = -1 then na6 gp n (na6 gp n gn n) n else gn))), (qY, .inl (g.2.1.1, 1024, .inl (if fun_fw gp n = -1 then by6 (mE gp n n + 4) (sp_X6_write_draft (dr6 gp n xB (nI (16 * rB (mE gp n n) - 16)) (na6 gp n gn n) T n (sp_X6_write_draft (dr6 gp n xB 0 gn T n gd) (mE gp n n) 0 0 0 0)) (mE gp n n) 0 0 0 0) gb (16 * rB (mE gp n n)) else gb))), (qD, .inl (g.2.1.1, 4096, .inl y4))]) 1 60 := by
  intro sz
  refine Met.ofW (cc := cX6_rewrite) (maxL := 4) (ret := (some .int)) (by decide) rfl ?_
  intro p e s m args below meth c s₁ B hml hv
  obtain ⟨rfl, hsz, hP, hK, hD0, hE, hN⟩ := hv
  have hx := B.exec
  have hb := B.bytes
  have hr := B.returns
  have hts := atoms_spec (ws := wsX6_rewrite) B.pre
  have hown : s.vm.findClass RX6 = some m.cls := findClass_of_methodNamed B.named
  have hlocks := B.notSynchronized
  have iX6 : ∀ w ∈ u_ws RX6 TX6 17, w ∈ wsX6_rewrite := by decide +kernel
  subst hsz
  have hD := hD0.self (sz := s.heap.size)
  generalize hAe : va_A [(hO, .inr (4, [.int xT, .int xB, .int (nI n), .ref qP, .int xP, .ref qN, .int xS, .ref qY, .ref qD, .int xA, .ref qR, .ref qM, .ref qT, .int xw, .int xa, .int xb, .int xc])), (qP, .inl (g.2.1.1, 240, .inl gp)), (qN, .inl (g.2.1.1, 60, .inl gn)), (qY, .inl (g.2.1.1, 1024, .inl gb)), (qD, .inl (g.2.1.1, 4096, .inl gd))] s.heap.size = A at hD hE ⊢
  have hA : ∀ q : Nat, s.heap.size ≤ q → A q := fun q h => by rw [← hAe]; exact Or.inr h
  have hS : va_S A s.heap s.heap [] := va_S.rf
  have hl := lv_entry ([.ref hO]) (n := 4) (Nat.le_of_ble_eq_true rfl)
  rw [lg_entry_eq]
  generalize (lg_sl ([.ref hO]) ++ List.replicate (4 - (lg_sl ([.ref hO])).length) Slot.unset).toArray = ls at hl ⊢
  have hl : lv_has ls 4 [(0, .ref hO)] := hl
  refine lv_aload_n hx hb dX6_rewrite_0 rfl (lv_at hl 0 rfl) ?_
  refine lv_aload_n hx hb dX6_rewrite_1 rfl (lv_at hl 0 rfl) ?_
  refine kiV (As := []) (rest := [.ref hO]) (wc := [(hO, .inr (4, [.int xT, .int xB, .int (nI n), .ref qP, .int xP, .ref qN, .int xS, .ref qY, .ref qD, .int xA, .ref qR, .ref qM, .ref qT, .int xw, .int xa, .int xb, .int xc])), (qP, .inl (g.2.1.1, 240, .inl gp))]) (wr := [(qN, .inl (g.2.1.1, 60, .inl gn)), (qY, .inl (g.2.1.1, 1024, .inl gb)), (qD, .inl (g.2.1.1, 4096, .inl gd))]) ⟨hx, hb, hml, hown, hts⟩ (c_X6_firstWrong l g hO qP qN qY qD qR qM qT gp xT xB n xP xS xA xw xa xb xc hn) (cwV 0 hts gX6_rewrite_X6_firstWrong rfl rfl rfl (by decide +kernel) ⟨Nat.le_of_ble_eq_true rfl, Nat.le_of_ble_eq_true rfl⟩) ⟨hK, hP, hD, hS, hA, hE, hN⟩ [0, 1] [2, 3, 4] ⟨rfl, rfl, by decide⟩ (q0 := 0) (ci := 4) rfl rfl rfl rfl hl.1 (Nat.le_of_ble_eq_true rfl) dX6_rewrite_2 ⟨Nat.le_of_ble_eq_true rfl, Nat.le_of_ble_eq_true rfl⟩ rfl (fun r u H locs hw hP hD hS => ?_)
  obtain ⟨hq, y0_13_0, y0_14_0, y0_15_0, y0_16_0, hw⟩ := hw
  subst r
  subst hw
  have hP := hP.sub (ws' := [(hO, .inr (4, [.int xT, .int xB, .int (nI n), .ref qP, .int xP, .ref qN, .int xS, .ref qY, .ref qD, .int xA, .ref qR, .ref qM, .ref qT, .int y0_13_0, .int y0_14_0, .int y0_15_0, .int y0_16_0])), (qP, .inl (g.2.1.1, 240, .inl gp)), (qN, .inl (g.2.1.1, 60, .inl gn)), (qY, .inl (g.2.1.1, 1024, .inl gb)), (qD, .inl (g.2.1.1, 4096, .inl gd))]) [3, 4, 0, 1, 2] rfl
  have hD := hD.sub (ws' := [(hO, .inr (4, [.int xT, .int xB, .int (nI n), .ref qP, .int xP, .ref qN, .int xS, .ref qY, .ref qD, .int xA, .ref qR, .ref qM, .ref qT, .int y0_13_0, .int y0_14_0, .int y0_15_0, .int y0_16_0])), (qP, .inl (g.2.1.1, 240, .inl gp)), (qN, .inl (g.2.1.1, 60, .inl gn)), (qY, .inl (g.2.1.1, 1024, .inl gb)), (qD, .inl (g.2.1.1, 4096, .inl gd))]) [3, 4, 0, 1, 2] (by decide) rfl
  refine lv_iconst (v := (-1)) hx hb dX6_rewrite_5 (by decide) ?_
  refine lv_icmp_eq (tgt := 13) hx hb dX6_rewrite_6 (by decide) (fun c_1 => ?_) (fun c_1 => ?_)
  · skip
    refine lv_iconst (v := 0) hx hb dX6_rewrite_13 (by decide) ?_
    refine va_put (D := g.1) (ci := 4) (v := .int 0) (ty := .int) (C := RX6) (T := TX6) (N := 17) hx hb hts iX6 tyX6 tyX6_ok nmX6 hown hK hP hD hS 0 rfl rfl 0 (by decide) (hts (.fieldLink RX6 35 "FaultIsolationModel" "thrown" "I") (by decide +kernel)) (fun _ h9 => h9) rfl (by decide +kernel) rfl rfl (Nat.le_of_ble_eq_true rfl) dX6_rewrite_14 (fun H locs hP hD hS => ?_)
    have hP : va_P g.1 vwCl [(hO, .inr (4, [.int 0, .int xB, .int (nI n), .ref qP, .int xP, .ref qN, .int xS, .ref qY, .ref qD, .int xA, .ref qR, .ref qM, .ref qT, .int y0_13_0, .int y0_14_0, .int y0_15_0, .int y0_16_0])), (qP, .inl (g.2.1.1, 240, .inl gp)), (qN, .inl (g.2.1.1, 60, .inl gn)), (qY, .inl (g.2.1.1, 1024, .inl gb)), (qD, .inl (g.2.1.1, 4096, .inl gd))] H := hP
    have hD : va_D A [(hO, .inr (4, [.int 0, .int xB, .int (nI n), .ref qP, .int xP, .ref qN, .int xS, .ref qY, .ref qD, .int xA, .ref qR, .ref qM, .ref qT, .int y0_13_0, .int y0_14_0, .int y0_15_0, .int y0_16_0])), (qP, .inl (g.2.1.1, 240, .inl gp)), (qN, .inl (g.2.1.1, 60, .inl gn)), (qY, .inl (g.2.1.1, 1024, .inl gb)), (qD, .inl (g.2.1.1, 4096, .inl gd))] := hD
    refine lv_aload_n hx hb dX6_rewrite_17 rfl (lv_at hl 0 rfl) ?_
    refine va_get (D := g.1) (ci := 4) (v := .int 0) (C := RX6) (T := TX6) (N := 17) hx hb hts iX6 hown hK hP 0 rfl rfl 0 (by decide) (hts (.fieldLink RX6 35 "FaultIsolationModel" "thrown" "I") (by decide +kernel)) (fun _ h9 => h9) rfl dX6_rewrite_18 ?_
    refine lv_if_le (tgt := 26) hx hb dX6_rewrite_21 (by decide) (fun _ => ?_) (fun c_2 => absurd c_2 (by decide))
    have hT := hT0 c_1
    refine lv_bipush (v := 60) hx hb dX6_rewrite_26 (by decide) ?_
    refine k_newI hx hb (hts (.arrayClass .int) (by decide +kernel)) ⟨hK, hP, hD, hS, hA, hE, hN⟩ 60 rfl (Nat.le_of_ble_eq_true rfl) (Nat.le_of_ble_eq_true rfl) (Nat.le_of_ble_eq_true rfl) dX6_rewrite_28 (fun qn3 H hP hD hS => ?_)
    have hP : va_P g.1 vwCl [(hO, .inr (4, [.int 0, .int xB, .int (nI n), .ref qP, .int xP, .ref qN, .int xS, .ref qY, .ref qD, .int xA, .ref qR, .ref qM, .ref qT, .int y0_13_0, .int y0_14_0, .int y0_15_0, .int y0_16_0])), (qP, .inl (g.2.1.1, 240, .inl gp)), (qN, .inl (g.2.1.1, 60, .inl gn)), (qY, .inl (g.2.1.1, 1024, .inl gb)), (qD, .inl (g.2.1.1, 4096, .inl gd)), (qn3, .inl (g.2.1.1, 60, .inl (fun _ => 0)))] H := hP
    have hD : va_D A [(hO, .inr (4, [.int 0, .int xB, .int (nI n), .ref qP, .int xP, .ref qN, .int xS, .ref qY, .ref qD, .int xA, .ref qR, .ref qM, .ref qT, .int y0_13_0, .int y0_14_0, .int y0_15_0, .int y0_16_0])), (qP, .inl (g.2.1.1, 240, .inl gp)), (qN, .inl (g.2.1.1, 60, .inl gn)), (qY, .inl (g.2.1.1, 1024, .inl gb)), (qD, .inl (g.2.1.1, 4096, .inl gd)), (qn3, .inl (g.2.1.1, 60, .inl (fun _ => 0)))] := hD
    refine lv_astore_n (lv' := [(1, .ref qn3), (0, .ref hO)]) hx hb dX6_rewrite_30 rfl hl (by decide) rfl (fun ls hl => ?_)
    refine lv_iconst (v := 0) hx hb dX6_rewrite_31 (by decide) ?_
    refine lv_istore_n (lv' := [(2, .int 0), (1, .ref qn3), (0, .ref hO)]) hx hb dX6_rewrite_32 rfl hl (by decide) rfl (fun ls hl => ?_)
    have loop_33 : ∀ (K : Nat) (j : Nat) (h2 : j ≤ 60), 60 - j < K → ∀ (H : Heap) (locs : List Loc) (ls : Array Slot), va_P g.1 vwCl [(hO, .inr (4, [.int 0, .int xB, .int (nI n), .ref qP, .int xP, .ref qN, .int xS, .ref qY, .ref qD, .int xA, .ref qR, .ref qM, .ref qT, .int y0_13_0, .int y0_14_0, .int y0_15_0, .int y0_16_0])), (qP, .inl (g.2.1.1, 240, .inl gp)), (qN, .inl (g.2.1.1, 60, .inl gn)), (qY, .inl (g.2.1.1, 1024, .inl gb)), (qD, .inl (g.2.1.1, 4096, .inl gd)), (qn3, .inl (g.2.1.1, 60, .inl (cp6 gn j)))] H → va_D A [(hO, .inr (4, [.int 0, .int xB, .int (nI n), .ref qP, .int xP, .ref qN, .int xS, .ref qY, .ref qD, .int xA, .ref qR, .ref qM, .ref qT, .int y0_13_0, .int y0_14_0, .int y0_15_0, .int y0_16_0])), (qP, .inl (g.2.1.1, 240, .inl gp)), (qN, .inl (g.2.1.1, 60, .inl gn)), (qY, .inl (g.2.1.1, 1024, .inl gb)), (qD, .inl (g.2.1.1, 4096, .inl gd)), (qn3, .inl (g.2.1.1, 60, .inl (cp6 gn j)))] → va_S A s.heap H locs → lv_has ls 4 [(0, .ref hO), (1, .ref qn3), (2, .int (nI j))] → W p l e (headSpec wsX6_rewrite ({ frames := 4, cells := 1, slots := 60, locals := 83 })).room s m ([.ref hO] : List Value).toArray below meth c H locs 1 60 (MQ below (va_Qi (fun r u => r = (if fun_fw gp n = -1 then nI (rB (mE gp n n)) else 0) ∧ ∃ (y0_13 : Int32) (y0_14 : Int32) (y0_15 : Int32) (y0_16 : Int32) (y0_9 : Int32) (y4 : Nat → Int32), u = [(hO, .inr (4, [.int (if fun_fw gp n = -1 then 0 else 1), .int xB, .int (nI n), .ref qP, .int (if fun_fw gp n = -1 then nI n else xP), .ref qN, .int (if fun_fw gp n = -1 then nI (16 * rB (mE gp n n)) else xS), .ref qY, .ref qD, .int y0_9, .ref qR, .ref qM, .ref qT, .int y0_13, .int y0_14, .int y0_15, .int y0_16])), (qP, .inl (g.2.1.1, 240, .inl gp)), (qN, .inl (g.2.1.1, 60, .inl (if fun_fw gp n = -1 then na6 gp n (na6 gp n gn n) n else gn))), (qY, .inl (g.2.1.1, 1024, .inl (if fun_fw gp n = -1 then by6 (mE gp n n + 4) (sp_X6_write_draft (dr6 gp n xB (nI (16 * rB (mE gp n n) - 16)) (na6 gp n gn n) T n (sp_X6_write_draft (dr6 gp n xB 0 gn T n gd) (mE gp n n) 0 0 0 0)) (mE gp n n) 0 0 0 0) gb (16 * rB (mE gp n n)) else gb))), (qD, .inl (g.2.1.1, 4096, .inl y4))]) (SB g A) A) ([.ref hO] : List Value).toArray s 1 60 A) (F0 m 33 ls []) := by
      intro K
      induction K with
      | zero => intro j h2 hm; exact absurd hm (Nat.not_lt_zero _)
      | succ K ih =>
        intro j h2 hm H locs ls hP hD hS hl
        refine lv_iload_n hx hb dX6_rewrite_33 rfl (lv_at hl 2 rfl) ?_
        refine lv_bipush (v := 60) hx hb dX6_rewrite_34 (by decide) ?_
        refine lv_icmp_ge (tgt := 54) hx hb dX6_rewrite_36 (by decide) (fun c_4 => ?_) (fun c_4 => ?_)
        · skip
          have z_4 := k_leT (a := 60) (b := j) c_4 (by omega) (by omega)
          have ej : j = 60 := by omega
          subst ej
          refine lv_aload_n hx hb dX6_rewrite_54 rfl (lv_at hl 0 rfl) ?_
          refine lv_iconst (v := 0) hx hb dX6_rewrite_55 (by decide) ?_
          refine kvV (As := [.int 0]) (rest := []) (wc := [(hO, .inr (4, [.int 0, .int xB, .int (nI n), .ref qP, .int xP, .ref qN, .int xS, .ref qY, .ref qD, .int xA, .ref qR, .ref qM, .ref qT, .int y0_13_0, .int y0_14_0, .int y0_15_0, .int y0_16_0])), (qP, .inl (g.2.1.1, 240, .inl gp)), (qN, .inl (g.2.1.1, 60, .inl gn)), (qD, .inl (g.2.1.1, 4096, .inl gd))]) (wr := [(qY, .inl (g.2.1.1, 1024, .inl gb)), (qn3, .inl (g.2.1.1, 60, .inl (cp6 gn 60)))]) ⟨hx, hb, hml, hown, hts⟩ (c_X6_layOut l g hO qP qN qY qD qR qM qT gp gn gd 0 xB n xP xS xA y0_13_0 y0_14_0 y0_15_0 y0_16_0 0 T hn hT) (cwV 1 hts gX6_rewrite_X6_layOut rfl rfl rfl (by decide +kernel) ⟨Nat.le_of_ble_eq_true rfl, Nat.le_of_ble_eq_true rfl⟩) ⟨hK, hP, hD, hS, hA, hE, hN⟩ [0, 1, 2, 4] [3, 5] ⟨rfl, rfl, by decide⟩ (q0 := 0) (ci := 4) rfl rfl rfl rfl hl.1 (Nat.le_of_ble_eq_true rfl) dX6_rewrite_56 ⟨Nat.le_of_ble_eq_true rfl, Nat.le_of_ble_eq_true rfl⟩ rfl (fun u H locs hw hP hD hS => ?_)
          obtain ⟨y0_13_5, y0_14_5, y0_15_5, y0_16_5, hw⟩ := hw
          subst hw
          have hP := hP.sub (ws' := [(hO, .inr (4, [.int 0, .int xB, .int (nI n), .ref qP, .int xP, .ref qN, .int xS, .ref qY, .ref qD, .int (nI (mE gp n n + 4)), .ref qR, .ref qM, .ref qT, .int y0_13_5, .int y0_14_5, .int y0_15_5, .int y0_16_5])), (qP, .inl (g.2.1.1, 240, .inl gp)), (qN, .inl (g.2.1.1, 60, .inl (na6 gp n gn n))), (qY, .inl (g.2.1.1, 1024, .inl gb)), (qD, .inl (g.2.1.1, 4096, .inl (sp_X6_write_draft (dr6 gp n xB 0 gn T n gd) (mE gp n n) 0 0 0 0))), (qn3, .inl (g.2.1.1, 60, .inl (cp6 gn 60)))]) [2, 3, 4, 0, 5, 1] rfl
          have hD := hD.sub (ws' := [(hO, .inr (4, [.int 0, .int xB, .int (nI n), .ref qP, .int xP, .ref qN, .int xS, .ref qY, .ref qD, .int (nI (mE gp n n + 4)), .ref qR, .ref qM, .ref qT, .int y0_13_5, .int y0_14_5, .int y0_15_5, .int y0_16_5])), (qP, .inl (g.2.1.1, 240, .inl gp)), (qN, .inl (g.2.1.1, 60, .inl (na6 gp n gn n))), (qY, .inl (g.2.1.1, 1024, .inl gb)), (qD, .inl (g.2.1.1, 4096, .inl (sp_X6_write_draft (dr6 gp n xB 0 gn T n gd) (mE gp n n) 0 0 0 0))), (qn3, .inl (g.2.1.1, 60, .inl (cp6 gn 60)))]) [2, 3, 4, 0, 5, 1] (by decide) rfl
          have zE0 : mE gp n n % 4 = 0 ∧ mE gp n n ≤ 16 * n := lpN_ok _ _ n
          have zB := rB_le (mE gp n n)
          have cK : nI (mE gp n n + 4) ≤ 1024 := (nI_leI (b := 1024) (by omega) (by decide)).mpr (by omega)
          have cL : nI (rB (mE gp n n)) ≤ 64 := (nI_leI (b := 64) (by omega) (by decide)).mpr (by omega)
          have join_79 : ∀ (H : Heap) (locs : List Loc) (ls : Array Slot) , va_P g.1 vwCl [(hO, .inr (4, [.int 0, .int xB, .int (nI n), .ref qP, .int xP, .ref qN, .int xS, .ref qY, .ref qD, .int (nI (mE gp n n + 4)), .ref qR, .ref qM, .ref qT, .int y0_13_5, .int y0_14_5, .int y0_15_5, .int y0_16_5])), (qP, .inl (g.2.1.1, 240, .inl gp)), (qN, .inl (g.2.1.1, 60, .inl (na6 gp n gn n))), (qY, .inl (g.2.1.1, 1024, .inl gb)), (qD, .inl (g.2.1.1, 4096, .inl (sp_X6_write_draft (dr6 gp n xB 0 gn T n gd) (mE gp n n) 0 0 0 0))), (qn3, .inl (g.2.1.1, 60, .inl (cp6 gn 60)))] H → va_D A [(hO, .inr (4, [.int 0, .int xB, .int (nI n), .ref qP, .int xP, .ref qN, .int xS, .ref qY, .ref qD, .int (nI (mE gp n n + 4)), .ref qR, .ref qM, .ref qT, .int y0_13_5, .int y0_14_5, .int y0_15_5, .int y0_16_5])), (qP, .inl (g.2.1.1, 240, .inl gp)), (qN, .inl (g.2.1.1, 60, .inl (na6 gp n gn n))), (qY, .inl (g.2.1.1, 1024, .inl gb)), (qD, .inl (g.2.1.1, 4096, .inl (sp_X6_write_draft (dr6 gp n xB 0 gn T n gd) (mE gp n n) 0 0 0 0))), (qn3, .inl (g.2.1.1, 60, .inl (cp6 gn 60)))] → va_S A s.heap H locs → lv_has ls 4 [(0, .ref hO), (1, .ref qn3), (2, .int (nI (rB (mE gp n n))))] → W p l e (headSpec wsX6_rewrite ({ frames := 4, cells := 1, slots := 60, locals := 83 })).room s m ([.ref hO] : List Value).toArray below meth c H locs 1 60 (MQ below (va_Qi (fun r u => r = (if fun_fw gp n = -1 then nI (rB (mE gp n n)) else 0) ∧ ∃ (y0_13 : Int32) (y0_14 : Int32) (y0_15 : Int32) (y0_16 : Int32) (y0_9 : Int32) (y4 : Nat → Int32), u = [(hO, .inr (4, [.int (if fun_fw gp n = -1 then 0 else 1), .int xB, .int (nI n), .ref qP, .int (if fun_fw gp n = -1 then nI n else xP), .ref qN, .int (if fun_fw gp n = -1 then nI (16 * rB (mE gp n n)) else xS), .ref qY, .ref qD, .int y0_9, .ref qR, .ref qM, .ref qT, .int y0_13, .int y0_14, .int y0_15, .int y0_16])), (qP, .inl (g.2.1.1, 240, .inl gp)), (qN, .inl (g.2.1.1, 60, .inl (if fun_fw gp n = -1 then na6 gp n (na6 gp n gn n) n else gn))), (qY, .inl (g.2.1.1, 1024, .inl (if fun_fw gp n = -1 then by6 (mE gp n n + 4) (sp_X6_write_draft (dr6 gp n xB (nI (16 * rB (mE gp n n) - 16)) (na6 gp n gn n) T n (sp_X6_write_draft (dr6 gp n xB 0 gn T n gd) (mE gp n n) 0 0 0 0)) (mE gp n n) 0 0 0 0) gb (16 * rB (mE gp n n)) else gb))), (qD, .inl (g.2.1.1, 4096, .inl y4))]) (SB g A) A) ([.ref hO] : List Value).toArray s 1 60 A) (F0 m 79 ls []) := by
            intro H locs ls  hP hD hS hl
            refine lv_iload_n hx hb dX6_rewrite_79 rfl (lv_at hl 2 rfl) ?_
            refine lv_bipush (v := 64) hx hb dX6_rewrite_80 (by decide) ?_
            refine lv_icmp_le (tgt := 111) hx hb dX6_rewrite_82 (by decide) (fun _ => ?_) (fun c_6 => absurd cL c_6)
            refine lv_aload_n hx hb dX6_rewrite_111 rfl (lv_at hl 0 rfl) ?_
            refine lv_bipush (v := 16) hx hb dX6_rewrite_112 (by decide) ?_
            refine lv_iload_n hx hb dX6_rewrite_114 rfl (lv_at hl 2 rfl) ?_
            refine lv_imul hx hb dX6_rewrite_115 ?_
            refine lv_topi (fun y9 e9 => ?_)
            rw [show (16 * (nI (rB (mE gp n n))) : Int32) = nI (16 * (rB (mE gp n n))) from pk_mul _ _] at e9
            subst e9
            refine lv_bipush (v := 16) hx hb dX6_rewrite_116 (by decide) ?_
            refine lv_isub hx hb dX6_rewrite_118 ?_
            refine lv_topi (fun y9 e9 => ?_)
            rw [show ((nI (16 * (rB (mE gp n n)))) - 16 : Int32) = nI ((16 * (rB (mE gp n n))) - 16) from pk_sub (a := (16 * (rB (mE gp n n)))) (b := 16) (by omega)] at e9
            subst e9
            refine kvV (As := [.int (nI ((16 * (rB (mE gp n n))) - 16))]) (rest := []) (wc := [(hO, .inr (4, [.int 0, .int xB, .int (nI n), .ref qP, .int xP, .ref qN, .int xS, .ref qY, .ref qD, .int (nI (mE gp n n + 4)), .ref qR, .ref qM, .ref qT, .int y0_13_5, .int y0_14_5, .int y0_15_5, .int y0_16_5])), (qP, .inl (g.2.1.1, 240, .inl gp)), (qN, .inl (g.2.1.1, 60, .inl (na6 gp n gn n))), (qD, .inl (g.2.1.1, 4096, .inl (sp_X6_write_draft (dr6 gp n xB 0 gn T n gd) (mE gp n n) 0 0 0 0)))]) (wr := [(qY, .inl (g.2.1.1, 1024, .inl gb)), (qn3, .inl (g.2.1.1, 60, .inl (cp6 gn 60)))]) ⟨hx, hb, hml, hown, hts⟩ (c_X6_layOut l g hO qP qN qY qD qR qM qT gp (na6 gp n gn n) (sp_X6_write_draft (dr6 gp n xB 0 gn T n gd) (mE gp n n) 0 0 0 0) 0 xB n xP xS (nI (mE gp n n + 4)) y0_13_5 y0_14_5 y0_15_5 y0_16_5 (nI ((16 * (rB (mE gp n n))) - 16)) T hn hT) (cwV 1 hts gX6_rewrite_X6_layOut rfl rfl rfl (by decide +kernel) ⟨Nat.le_of_ble_eq_true rfl, Nat.le_of_ble_eq_true rfl⟩) ⟨hK, hP, hD, hS, hA, hE, hN⟩ [0, 1, 2, 4] [3, 5] ⟨rfl, rfl, by decide⟩ (q0 := 0) (ci := 4) rfl rfl rfl rfl hl.1 (Nat.le_of_ble_eq_true rfl) dX6_rewrite_119 ⟨Nat.le_of_ble_eq_true rfl, Nat.le_of_ble_eq_true rfl⟩ rfl (fun u H locs hw hP hD hS => ?_)
            obtain ⟨y0_13_7, y0_14_7, y0_15_7, y0_16_7, hw⟩ := hw
            subst hw
            have hP := hP.sub (ws' := [(hO, .inr (4, [.int 0, .int xB, .int (nI n), .ref qP, .int xP, .ref qN, .int xS, .ref qY, .ref qD, .int (nI (mE gp n n + 4)), .ref qR, .ref qM, .ref qT, .int y0_13_7, .int y0_14_7, .int y0_15_7, .int y0_16_7])), (qP, .inl (g.2.1.1, 240, .inl gp)), (qN, .inl (g.2.1.1, 60, .inl (na6 gp n (na6 gp n gn n) n))), (qY, .inl (g.2.1.1, 1024, .inl gb)), (qD, .inl (g.2.1.1, 4096, .inl (sp_X6_write_draft (dr6 gp n xB (nI ((16 * (rB (mE gp n n))) - 16)) (na6 gp n gn n) T n (sp_X6_write_draft (dr6 gp n xB 0 gn T n gd) (mE gp n n) 0 0 0 0)) (mE gp n n) 0 0 0 0))), (qn3, .inl (g.2.1.1, 60, .inl (cp6 gn 60)))]) [2, 3, 4, 0, 5, 1] rfl
            have hD := hD.sub (ws' := [(hO, .inr (4, [.int 0, .int xB, .int (nI n), .ref qP, .int xP, .ref qN, .int xS, .ref qY, .ref qD, .int (nI (mE gp n n + 4)), .ref qR, .ref qM, .ref qT, .int y0_13_7, .int y0_14_7, .int y0_15_7, .int y0_16_7])), (qP, .inl (g.2.1.1, 240, .inl gp)), (qN, .inl (g.2.1.1, 60, .inl (na6 gp n (na6 gp n gn n) n))), (qY, .inl (g.2.1.1, 1024, .inl gb)), (qD, .inl (g.2.1.1, 4096, .inl (sp_X6_write_draft (dr6 gp n xB (nI ((16 * (rB (mE gp n n))) - 16)) (na6 gp n gn n) T n (sp_X6_write_draft (dr6 gp n xB 0 gn T n gd) (mE gp n n) 0 0 0 0)) (mE gp n n) 0 0 0 0))), (qn3, .inl (g.2.1.1, 60, .inl (cp6 gn 60)))]) [2, 3, 4, 0, 5, 1] (by decide) rfl
            refine lv_aload_n hx hb dX6_rewrite_122 rfl (lv_at hl 0 rfl) ?_
            refine lv_bipush (v := 16) hx hb dX6_rewrite_123 (by decide) ?_
            refine lv_iload_n hx hb dX6_rewrite_125 rfl (lv_at hl 2 rfl) ?_
            refine lv_imul hx hb dX6_rewrite_126 ?_
            refine lv_topi (fun y9 e9 => ?_)
            rw [show (16 * (nI (rB (mE gp n n))) : Int32) = nI (16 * (rB (mE gp n n))) from pk_mul _ _] at e9
            subst e9
            refine va_put (D := g.1) (ci := 4) (v := .int (nI (16 * (rB (mE gp n n))))) (ty := .int) (C := RX6) (T := TX6) (N := 17) hx hb hts iX6 tyX6 tyX6_ok nmX6 hown hK hP hD hS 0 rfl rfl 6 (by decide) (hts (.fieldLink RX6 109 "FaultIsolationModel" "size" "I") (by decide +kernel)) (fun _ h9 => h9) rfl (by decide +kernel) rfl rfl (Nat.le_of_ble_eq_true rfl) dX6_rewrite_127 (fun H locs hP hD hS => ?_)
            have hP : va_P g.1 vwCl [(hO, .inr (4, [.int 0, .int xB, .int (nI n), .ref qP, .int xP, .ref qN, .int (nI (16 * (rB (mE gp n n)))), .ref qY, .ref qD, .int (nI (mE gp n n + 4)), .ref qR, .ref qM, .ref qT, .int y0_13_7, .int y0_14_7, .int y0_15_7, .int y0_16_7])), (qP, .inl (g.2.1.1, 240, .inl gp)), (qN, .inl (g.2.1.1, 60, .inl (na6 gp n (na6 gp n gn n) n))), (qY, .inl (g.2.1.1, 1024, .inl gb)), (qD, .inl (g.2.1.1, 4096, .inl (sp_X6_write_draft (dr6 gp n xB (nI ((16 * (rB (mE gp n n))) - 16)) (na6 gp n gn n) T n (sp_X6_write_draft (dr6 gp n xB 0 gn T n gd) (mE gp n n) 0 0 0 0)) (mE gp n n) 0 0 0 0))), (qn3, .inl (g.2.1.1, 60, .inl (cp6 gn 60)))] H := hP
            have hD : va_D A [(hO, .inr (4, [.int 0, .int xB, .int (nI n), .ref qP, .int xP, .ref qN, .int (nI (16 * (rB (mE gp n n)))), .ref qY, .ref qD, .int (nI (mE gp n n + 4)), .ref qR, .ref qM, .ref qT, .int y0_13_7, .int y0_14_7, .int y0_15_7, .int y0_16_7])), (qP, .inl (g.2.1.1, 240, .inl gp)), (qN, .inl (g.2.1.1, 60, .inl (na6 gp n (na6 gp n gn n) n))), (qY, .inl (g.2.1.1, 1024, .inl gb)), (qD, .inl (g.2.1.1, 4096, .inl (sp_X6_write_draft (dr6 gp n xB (nI ((16 * (rB (mE gp n n))) - 16)) (na6 gp n gn n) T n (sp_X6_write_draft (dr6 gp n xB 0 gn T n gd) (mE gp n n) 0 0 0 0)) (mE gp n n) 0 0 0 0))), (qn3, .inl (g.2.1.1, 60, .inl (cp6 gn 60)))] := hD
            refine lv_iconst (v := 0) hx hb dX6_rewrite_130 (by decide) ?_
            refine lv_istore_n (lv' := [(3, .int 0), (0, .ref hO), (1, .ref qn3), (2, .int (nI (rB (mE gp n n))))]) hx hb dX6_rewrite_131 rfl hl (by decide) rfl (fun ls hl => ?_)
            have loop_132 : ∀ (K : Nat) (j : Nat) (h2 : j ≤ 16 * rB (mE gp n n)), 16 * rB (mE gp n n) - j < K → ∀ (H : Heap) (locs : List Loc) (ls : Array Slot), va_P g.1 vwCl [(hO, .inr (4, [.int 0, .int xB, .int (nI n), .ref qP, .int xP, .ref qN, .int (nI (16 * (rB (mE gp n n)))), .ref qY, .ref qD, .int (nI (mE gp n n + 4)), .ref qR, .ref qM, .ref qT, .int y0_13_7, .int y0_14_7, .int y0_15_7, .int y0_16_7])), (qP, .inl (g.2.1.1, 240, .inl gp)), (qN, .inl (g.2.1.1, 60, .inl (na6 gp n (na6 gp n gn n) n))), (qY, .inl (g.2.1.1, 1024, .inl (by6 (mE gp n n + 4) (sp_X6_write_draft (dr6 gp n xB (nI (16 * rB (mE gp n n) - 16)) (na6 gp n gn n) T n (sp_X6_write_draft (dr6 gp n xB 0 gn T n gd) (mE gp n n) 0 0 0 0)) (mE gp n n) 0 0 0 0) gb j))), (qD, .inl (g.2.1.1, 4096, .inl (sp_X6_write_draft (dr6 gp n xB (nI ((16 * (rB (mE gp n n))) - 16)) (na6 gp n gn n) T n (sp_X6_write_draft (dr6 gp n xB 0 gn T n gd) (mE gp n n) 0 0 0 0)) (mE gp n n) 0 0 0 0))), (qn3, .inl (g.2.1.1, 60, .inl (cp6 gn 60)))] H → va_D A [(hO, .inr (4, [.int 0, .int xB, .int (nI n), .ref qP, .int xP, .ref qN, .int (nI (16 * (rB (mE gp n n)))), .ref qY, .ref qD, .int (nI (mE gp n n + 4)), .ref qR, .ref qM, .ref qT, .int y0_13_7, .int y0_14_7, .int y0_15_7, .int y0_16_7])), (qP, .inl (g.2.1.1, 240, .inl gp)), (qN, .inl (g.2.1.1, 60, .inl (na6 gp n (na6 gp n gn n) n))), (qY, .inl (g.2.1.1, 1024, .inl (by6 (mE gp n n + 4) (sp_X6_write_draft (dr6 gp n xB (nI (16 * rB (mE gp n n) - 16)) (na6 gp n gn n) T n (sp_X6_write_draft (dr6 gp n xB 0 gn T n gd) (mE gp n n) 0 0 0 0)) (mE gp n n) 0 0 0 0) gb j))), (qD, .inl (g.2.1.1, 4096, .inl (sp_X6_write_draft (dr6 gp n xB (nI ((16 * (rB (mE gp n n))) - 16)) (na6 gp n gn n) T n (sp_X6_write_draft (dr6 gp n xB 0 gn T n gd) (mE gp n n) 0 0 0 0)) (mE gp n n) 0 0 0 0))), (qn3, .inl (g.2.1.1, 60, .inl (cp6 gn 60)))] → va_S A s.heap H locs → lv_has ls 4 [(0, .ref hO), (1, .ref qn3), (2, .int (nI (rB (mE gp n n)))), (3, .int (nI j))] → W p l e (headSpec wsX6_rewrite ({ frames := 4, cells := 1, slots := 60, locals := 83 })).room s m ([.ref hO] : List Value).toArray below meth c H locs 1 60 (MQ below (va_Qi (fun r u => r = (if fun_fw gp n = -1 then nI (rB (mE gp n n)) else 0) ∧ ∃ (y0_13 : Int32) (y0_14 : Int32) (y0_15 : Int32) (y0_16 : Int32) (y0_9 : Int32) (y4 : Nat → Int32), u = [(hO, .inr (4, [.int (if fun_fw gp n = -1 then 0 else 1), .int xB, .int (nI n), .ref qP, .int (if fun_fw gp n = -1 then nI n else xP), .ref qN, .int (if fun_fw gp n = -1 then nI (16 * rB (mE gp n n)) else xS), .ref qY, .ref qD, .int y0_9, .ref qR, .ref qM, .ref qT, .int y0_13, .int y0_14, .int y0_15, .int y0_16])), (qP, .inl (g.2.1.1, 240, .inl gp)), (qN, .inl (g.2.1.1, 60, .inl (if fun_fw gp n = -1 then na6 gp n (na6 gp n gn n) n else gn))), (qY, .inl (g.2.1.1, 1024, .inl (if fun_fw gp n = -1 then by6 (mE gp n n + 4) (sp_X6_write_draft (dr6 gp n xB (nI (16 * rB (mE gp n n) - 16)) (na6 gp n gn n) T n (sp_X6_write_draft (dr6 gp n xB 0 gn T n gd) (mE gp n n) 0 0 0 0)) (mE gp n n) 0 0 0 0) gb (16 * rB (mE gp n n)) else gb))), (qD, .inl (g.2.1.1, 4096, .inl y4))]) (SB g A) A) ([.ref hO] : List Value).toArray s 1 60 A) (F0 m 132 ls []) := by
              intro K
              induction K with
              | zero => intro j h2 hm; exact absurd hm (Nat.not_lt_zero _)
              | succ K ih =>
                intro j h2 hm H locs ls hP hD hS hl
                refine lv_iload_n hx hb dX6_rewrite_132 rfl (lv_at hl 3 rfl) ?_
                refine lv_aload_n hx hb dX6_rewrite_133 rfl (lv_at hl 0 rfl) ?_
                refine va_get (D := g.1) (ci := 4) (v := .int (nI (16 * (rB (mE gp n n))))) (C := RX6) (T := TX6) (N := 17) hx hb hts iX6 hown hK hP 0 rfl rfl 6 (by decide) (hts (.fieldLink RX6 109 "FaultIsolationModel" "size" "I") (by decide +kernel)) (fun _ h9 => h9) rfl dX6_rewrite_134 ?_
                refine lv_icmp_ge (tgt := 170) hx hb dX6_rewrite_137 (by decide) (fun c_8 => ?_) (fun c_8 => ?_)
                · skip
                  have z_8 := k_leT (a := 16 * (rB (mE gp n n))) (b := j) c_8 (by omega) (by omega)
                  have ej : j = 16 * rB (mE gp n n) := by omega
                  subst j
                  have hP := hP.sub (ws' := [(hO, .inr (4, [.int 0, .int xB, .int (nI n), .ref qP, .int xP, .ref qN, .int (nI (16 * (rB (mE gp n n)))), .ref qY, .ref qD, .int (nI (mE gp n n + 4)), .ref qR, .ref qM, .ref qT, .int y0_13_7, .int y0_14_7, .int y0_15_7, .int y0_16_7])), (qP, .inl (g.2.1.1, 240, .inl gp)), (qN, .inl (g.2.1.1, 60, .inl (na6 gp n (na6 gp n gn n) n))), (qY, .inl (g.2.1.1, 1024, .inl (by6 (mE gp n n + 4) (sp_X6_write_draft (dr6 gp n xB (nI (16 * rB (mE gp n n) - 16)) (na6 gp n gn n) T n (sp_X6_write_draft (dr6 gp n xB 0 gn T n gd) (mE gp n n) 0 0 0 0)) (mE gp n n) 0 0 0 0) gb (16 * rB (mE gp n n))))), (qD, .inl (g.2.1.1, 4096, .inl (sp_X6_write_draft (dr6 gp n xB (nI ((16 * (rB (mE gp n n))) - 16)) (na6 gp n gn n) T n (sp_X6_write_draft (dr6 gp n xB 0 gn T n gd) (mE gp n n) 0 0 0 0)) (mE gp n n) 0 0 0 0)))]) [0, 1, 2, 3, 4] rfl
                  have hD := hD.sub (ws' := [(hO, .inr (4, [.int 0, .int xB, .int (nI n), .ref qP, .int xP, .ref qN, .int (nI (16 * (rB (mE gp n n)))), .ref qY, .ref qD, .int (nI (mE gp n n + 4)), .ref qR, .ref qM, .ref qT, .int y0_13_7, .int y0_14_7, .int y0_15_7, .int y0_16_7])), (qP, .inl (g.2.1.1, 240, .inl gp)), (qN, .inl (g.2.1.1, 60, .inl (na6 gp n (na6 gp n gn n) n))), (qY, .inl (g.2.1.1, 1024, .inl (by6 (mE gp n n + 4) (sp_X6_write_draft (dr6 gp n xB (nI (16 * rB (mE gp n n) - 16)) (na6 gp n gn n) T n (sp_X6_write_draft (dr6 gp n xB 0 gn T n gd) (mE gp n n) 0 0 0 0)) (mE gp n n) 0 0 0 0) gb (16 * rB (mE gp n n))))), (qD, .inl (g.2.1.1, 4096, .inl (sp_X6_write_draft (dr6 gp n xB (nI ((16 * (rB (mE gp n n))) - 16)) (na6 gp n gn n) T n (sp_X6_write_draft (dr6 gp n xB 0 gn T n gd) (mE gp n n) 0 0 0 0)) (mE gp n n) 0 0 0 0)))]) [0, 1, 2, 3, 4] (by decide) rfl
                  have hl := lv_sub (l' := [(0, .ref hO), (2, .int (nI (rB (mE gp n n))))]) hl [0, 2] rfl
                  refine lv_aload_n hx hb dX6_rewrite_170 rfl (lv_at hl 0 rfl) ?_
                  refine lv_aload_n hx hb dX6_rewrite_171 rfl (lv_at hl 0 rfl) ?_
                  refine va_get (D := g.1) (ci := 4) (v := .int (nI n)) (C := RX6) (T := TX6) (N := 17) hx hb hts iX6 hown hK hP 0 rfl rfl 2 (by decide) (hts (.fieldLink RX6 46 "FaultIsolationModel" "count" "I") (by decide +kernel)) (fun _ h9 => h9) rfl dX6_rewrite_172 ?_
                  refine va_put (D := g.1) (ci := 4) (v := .int (nI n)) (ty := .int) (C := RX6) (T := TX6) (N := 17) hx hb hts iX6 tyX6 tyX6_ok nmX6 hown hK hP hD hS 0 rfl rfl 4 (by decide) (hts (.fieldLink RX6 112 "FaultIsolationModel" "places" "I") (by decide +kernel)) (fun _ h9 => h9) rfl (by decide +kernel) rfl rfl (Nat.le_of_ble_eq_true rfl) dX6_rewrite_175 (fun H locs hP hD hS => ?_)
                  have hP : va_P g.1 vwCl [(hO, .inr (4, [.int 0, .int xB, .int (nI n), .ref qP, .int (nI n), .ref qN, .int (nI (16 * (rB (mE gp n n)))), .ref qY, .ref qD, .int (nI (mE gp n n + 4)), .ref qR, .ref qM, .ref qT, .int y0_13_7, .int y0_14_7, .int y0_15_7, .int y0_16_7])), (qP, .inl (g.2.1.1, 240, .inl gp)), (qN, .inl (g.2.1.1, 60, .inl (na6 gp n (na6 gp n gn n) n))), (qY, .inl (g.2.1.1, 1024, .inl (by6 (mE gp n n + 4) (sp_X6_write_draft (dr6 gp n xB (nI (16 * rB (mE gp n n) - 16)) (na6 gp n gn n) T n (sp_X6_write_draft (dr6 gp n xB 0 gn T n gd) (mE gp n n) 0 0 0 0)) (mE gp n n) 0 0 0 0) gb (16 * rB (mE gp n n))))), (qD, .inl (g.2.1.1, 4096, .inl (sp_X6_write_draft (dr6 gp n xB (nI ((16 * (rB (mE gp n n))) - 16)) (na6 gp n gn n) T n (sp_X6_write_draft (dr6 gp n xB 0 gn T n gd) (mE gp n n) 0 0 0 0)) (mE gp n n) 0 0 0 0)))] H := hP
                  have hD : va_D A [(hO, .inr (4, [.int 0, .int xB, .int (nI n), .ref qP, .int (nI n), .ref qN, .int (nI (16 * (rB (mE gp n n)))), .ref qY, .ref qD, .int (nI (mE gp n n + 4)), .ref qR, .ref qM, .ref qT, .int y0_13_7, .int y0_14_7, .int y0_15_7, .int y0_16_7])), (qP, .inl (g.2.1.1, 240, .inl gp)), (qN, .inl (g.2.1.1, 60, .inl (na6 gp n (na6 gp n gn n) n))), (qY, .inl (g.2.1.1, 1024, .inl (by6 (mE gp n n + 4) (sp_X6_write_draft (dr6 gp n xB (nI (16 * rB (mE gp n n) - 16)) (na6 gp n gn n) T n (sp_X6_write_draft (dr6 gp n xB 0 gn T n gd) (mE gp n n) 0 0 0 0)) (mE gp n n) 0 0 0 0) gb (16 * rB (mE gp n n))))), (qD, .inl (g.2.1.1, 4096, .inl (sp_X6_write_draft (dr6 gp n xB (nI ((16 * (rB (mE gp n n))) - 16)) (na6 gp n gn n) T n (sp_X6_write_draft (dr6 gp n xB 0 gn T n gd) (mE gp n n) 0 0 0 0)) (mE gp n n) 0 0 0 0)))] := hD
                  refine lv_iload_n hx hb dX6_rewrite_178 rfl (lv_at hl 1 rfl) ?_
                  exact k_iret hx hb hr hlocks ⟨hK, hP, hD, hS, hA, hE, hN⟩ rfl dX6_rewrite_179 (Nat.le_of_ble_eq_true rfl) (Nat.le_of_ble_eq_true rfl) ⟨by simp only [if_pos c_1], (y0_13_7), (y0_14_7), (y0_15_7), (y0_16_7), (nI (mE gp n n + 4)), (sp_X6_write_draft (dr6 gp n xB (nI ((16 * (rB (mE gp n n))) - 16)) (na6 gp n gn n) T n (sp_X6_write_draft (dr6 gp n xB 0 gn T n gd) (mE gp n n) 0 0 0 0)) (mE gp n n) 0 0 0 0), by simp only [if_pos c_1]⟩
                · skip
                  have z_8 := k_leF (a := 16 * (rB (mE gp n n))) (b := j) c_8 (by omega) (by omega)
                  refine lv_aload_n hx hb dX6_rewrite_140 rfl (lv_at hl 0 rfl) ?_
                  refine va_get (D := g.1) (ci := 4) (v := .ref qY) (C := RX6) (T := TX6) (N := 17) hx hb hts iX6 hown hK hP 0 rfl rfl 7 (by decide) (hts (.fieldLink RX6 16 "FaultIsolationModel" "bytes" "[I") (by decide +kernel)) (fun _ h9 => h9) rfl dX6_rewrite_141 ?_
                  refine lv_iload_n hx hb dX6_rewrite_144 rfl (lv_at hl 3 rfl) ?_
                  refine lv_iload_n hx hb dX6_rewrite_145 rfl (lv_at hl 3 rfl) ?_
                  refine lv_aload_n hx hb dX6_rewrite_146 rfl (lv_at hl 0 rfl) ?_
                  refine va_get (D := g.1) (ci := 4) (v := .int (nI (mE gp n n + 4))) (C := RX6) (T := TX6) (N := 17) hx hb hts iX6 hown hK hP 0 rfl rfl 9 (by decide) (hts (.fieldLink RX6 92 "FaultIsolationModel" "at" "I") (by decide +kernel)) (fun _ h9 => h9) rfl dX6_rewrite_147 ?_
                  refine lv_icmp_ge (tgt := 162) hx hb dX6_rewrite_150 (by decide) (fun c_9 => ?_) (fun c_9 => ?_)
                  · skip
                    have z_9 := k_leT (a := mE gp n n + 4) (b := j) c_9 (by omega) (by omega)
                    refine lv_iconst (v := 0) hx hb dX6_rewrite_162 (by decide) ?_
                    refine va_iast hx hb hK hP hD hS 3 0 rfl rfl (vp_in_nI (by omega) (by decide)) dX6_rewrite_163 (fun H locs hP hD hS => ?_)
                    rw [nI_clamp (show j < 2 ^ 31 by omega)] at hP hD
                    have hP : va_P g.1 vwCl [(hO, .inr (4, [.int 0, .int xB, .int (nI n), .ref qP, .int xP, .ref qN, .int (nI (16 * (rB (mE gp n n)))), .ref qY, .ref qD, .int (nI (mE gp n n + 4)), .ref qR, .ref qM, .ref qT, .int y0_13_7, .int y0_14_7, .int y0_15_7, .int y0_16_7])), (qP, .inl (g.2.1.1, 240, .inl gp)), (qN, .inl (g.2.1.1, 60, .inl (na6 gp n (na6 gp n gn n) n))), (qY, .inl (g.2.1.1, 1024, .inl (upd (by6 (mE gp n n + 4) (sp_X6_write_draft (dr6 gp n xB (nI (16 * rB (mE gp n n) - 16)) (na6 gp n gn n) T n (sp_X6_write_draft (dr6 gp n xB 0 gn T n gd) (mE gp n n) 0 0 0 0)) (mE gp n n) 0 0 0 0) gb j) j 0))), (qD, .inl (g.2.1.1, 4096, .inl (sp_X6_write_draft (dr6 gp n xB (nI ((16 * (rB (mE gp n n))) - 16)) (na6 gp n gn n) T n (sp_X6_write_draft (dr6 gp n xB 0 gn T n gd) (mE gp n n) 0 0 0 0)) (mE gp n n) 0 0 0 0))), (qn3, .inl (g.2.1.1, 60, .inl (cp6 gn 60)))] H := hP
                    have hD : va_D A [(hO, .inr (4, [.int 0, .int xB, .int (nI n), .ref qP, .int xP, .ref qN, .int (nI (16 * (rB (mE gp n n)))), .ref qY, .ref qD, .int (nI (mE gp n n + 4)), .ref qR, .ref qM, .ref qT, .int y0_13_7, .int y0_14_7, .int y0_15_7, .int y0_16_7])), (qP, .inl (g.2.1.1, 240, .inl gp)), (qN, .inl (g.2.1.1, 60, .inl (na6 gp n (na6 gp n gn n) n))), (qY, .inl (g.2.1.1, 1024, .inl (upd (by6 (mE gp n n + 4) (sp_X6_write_draft (dr6 gp n xB (nI (16 * rB (mE gp n n) - 16)) (na6 gp n gn n) T n (sp_X6_write_draft (dr6 gp n xB 0 gn T n gd) (mE gp n n) 0 0 0 0)) (mE gp n n) 0 0 0 0) gb j) j 0))), (qD, .inl (g.2.1.1, 4096, .inl (sp_X6_write_draft (dr6 gp n xB (nI ((16 * (rB (mE gp n n))) - 16)) (na6 gp n gn n) T n (sp_X6_write_draft (dr6 gp n xB 0 gn T n gd) (mE gp n n) 0 0 0 0)) (mE gp n n) 0 0 0 0))), (qn3, .inl (g.2.1.1, 60, .inl (cp6 gn 60)))] := hD
                    refine lv_iinc (v := (nI (j + 1))) (lv' := [(3, .int (nI (j + 1))), (0, .ref hO), (1, .ref qn3), (2, .int (nI (rB (mE gp n n))))]) hx hb dX6_rewrite_164 hl (k := 3) rfl (nI_add _ _) (by decide) rfl (fun ls hl => ?_)
                    refine lv_goto (tgt := 132) hx hb dX6_rewrite_167 (by decide) ?_
                    rw [show (upd (by6 (mE gp n n + 4) (sp_X6_write_draft (dr6 gp n xB (nI (16 * rB (mE gp n n) - 16)) (na6 gp n gn n) T n (sp_X6_write_draft (dr6 gp n xB 0 gn T n gd) (mE gp n n) 0 0 0 0)) (mE gp n n) 0 0 0 0) gb j) j 0 : Nat → Int32) = by6 (mE gp n n + 4) (sp_X6_write_draft (dr6 gp n xB (nI (16 * rB (mE gp n n) - 16)) (na6 gp n gn n) T n (sp_X6_write_draft (dr6 gp n xB 0 gn T n gd) (mE gp n n) 0 0 0 0)) (mE gp n n) 0 0 0 0) gb (j + 1) from (by6_u (by rw [if_neg (by omega)]))] at hP hD
                    exact ih (j + 1) (by omega) (by omega) _ _ _ hP hD hS (lv_sub hl [1, 2, 3, 0] rfl)
                  · skip
                    have z_9 := k_leF (a := mE gp n n + 4) (b := j) c_9 (by omega) (by omega)
                    refine lv_aload_n hx hb dX6_rewrite_153 rfl (lv_at hl 0 rfl) ?_
                    refine va_get (D := g.1) (ci := 4) (v := .ref qD) (C := RX6) (T := TX6) (N := 17) hx hb hts iX6 hown hK hP 0 rfl rfl 8 (by decide) (hts (.fieldLink RX6 19 "FaultIsolationModel" "draft" "[I") (by decide +kernel)) (fun _ h9 => h9) rfl dX6_rewrite_154 ?_
                    refine lv_iload_n hx hb dX6_rewrite_157 rfl (lv_at hl 3 rfl) ?_
                    refine va_iald hx hb hK hP 4 0 rfl rfl (vp_in_nI (by omega) (by decide)) dX6_rewrite_158 ?_
                    refine lv_topi (fun y9 e9 => ?_)
                    rw [show ((sp_X6_write_draft (dr6 gp n xB (nI ((16 * (rB (mE gp n n))) - 16)) (na6 gp n gn n) T n (sp_X6_write_draft (dr6 gp n xB 0 gn T n gd) (mE gp n n) 0 0 0 0)) (mE gp n n) 0 0 0 0) (nI j).toNatClampNeg : Int32) = (sp_X6_write_draft (dr6 gp n xB (nI ((16 * (rB (mE gp n n))) - 16)) (na6 gp n gn n) T n (sp_X6_write_draft (dr6 gp n xB 0 gn T n gd) (mE gp n n) 0 0 0 0)) (mE gp n n) 0 0 0 0) j from congrArg (sp_X6_write_draft (dr6 gp n xB (nI ((16 * (rB (mE gp n n))) - 16)) (na6 gp n gn n) T n (sp_X6_write_draft (dr6 gp n xB 0 gn T n gd) (mE gp n n) 0 0 0 0)) (mE gp n n) 0 0 0 0) (nI_clamp (by omega))] at e9
                    subst e9
                    refine lv_goto (tgt := 163) hx hb dX6_rewrite_159 (by decide) ?_
                    refine va_iast hx hb hK hP hD hS 3 0 rfl rfl (vp_in_nI (by omega) (by decide)) dX6_rewrite_163 (fun H locs hP hD hS => ?_)
                    rw [nI_clamp (show j < 2 ^ 31 by omega)] at hP hD
                    have hP : va_P g.1 vwCl [(hO, .inr (4, [.int 0, .int xB, .int (nI n), .ref qP, .int xP, .ref qN, .int (nI (16 * (rB (mE gp n n)))), .ref qY, .ref qD, .int (nI (mE gp n n + 4)), .ref qR, .ref qM, .ref qT, .int y0_13_7, .int y0_14_7, .int y0_15_7, .int y0_16_7])), (qP, .inl (g.2.1.1, 240, .inl gp)), (qN, .inl (g.2.1.1, 60, .inl (na6 gp n (na6 gp n gn n) n))), (qY, .inl (g.2.1.1, 1024, .inl (upd (by6 (mE gp n n + 4) (sp_X6_write_draft (dr6 gp n xB (nI (16 * rB (mE gp n n) - 16)) (na6 gp n gn n) T n (sp_X6_write_draft (dr6 gp n xB 0 gn T n gd) (mE gp n n) 0 0 0 0)) (mE gp n n) 0 0 0 0) gb j) j ((sp_X6_write_draft (dr6 gp n xB (nI ((16 * (rB (mE gp n n))) - 16)) (na6 gp n gn n) T n (sp_X6_write_draft (dr6 gp n xB 0 gn T n gd) (mE gp n n) 0 0 0 0)) (mE gp n n) 0 0 0 0) j)))), (qD, .inl (g.2.1.1, 4096, .inl (sp_X6_write_draft (dr6 gp n xB (nI ((16 * (rB (mE gp n n))) - 16)) (na6 gp n gn n) T n (sp_X6_write_draft (dr6 gp n xB 0 gn T n gd) (mE gp n n) 0 0 0 0)) (mE gp n n) 0 0 0 0))), (qn3, .inl (g.2.1.1, 60, .inl (cp6 gn 60)))] H := hP
                    have hD : va_D A [(hO, .inr (4, [.int 0, .int xB, .int (nI n), .ref qP, .int xP, .ref qN, .int (nI (16 * (rB (mE gp n n)))), .ref qY, .ref qD, .int (nI (mE gp n n + 4)), .ref qR, .ref qM, .ref qT, .int y0_13_7, .int y0_14_7, .int y0_15_7, .int y0_16_7])), (qP, .inl (g.2.1.1, 240, .inl gp)), (qN, .inl (g.2.1.1, 60, .inl (na6 gp n (na6 gp n gn n) n))), (qY, .inl (g.2.1.1, 1024, .inl (upd (by6 (mE gp n n + 4) (sp_X6_write_draft (dr6 gp n xB (nI (16 * rB (mE gp n n) - 16)) (na6 gp n gn n) T n (sp_X6_write_draft (dr6 gp n xB 0 gn T n gd) (mE gp n n) 0 0 0 0)) (mE gp n n) 0 0 0 0) gb j) j ((sp_X6_write_draft (dr6 gp n xB (nI ((16 * (rB (mE gp n n))) - 16)) (na6 gp n gn n) T n (sp_X6_write_draft (dr6 gp n xB 0 gn T n gd) (mE gp n n) 0 0 0 0)) (mE gp n n) 0 0 0 0) j)))), (qD, .inl (g.2.1.1, 4096, .inl (sp_X6_write_draft (dr6 gp n xB (nI ((16 * (rB (mE gp n n))) - 16)) (na6 gp n gn n) T n (sp_X6_write_draft (dr6 gp n xB 0 gn T n gd) (mE gp n n) 0 0 0 0)) (mE gp n n) 0 0 0 0))), (qn3, .inl (g.2.1.1, 60, .inl (cp6 gn 60)))] := hD
                    refine lv_iinc (v := (nI (j + 1))) (lv' := [(3, .int (nI (j + 1))), (0, .ref hO), (1, .ref qn3), (2, .int (nI (rB (mE gp n n))))]) hx hb dX6_rewrite_164 hl (k := 3) rfl (nI_add _ _) (by decide) rfl (fun ls hl => ?_)
                    refine lv_goto (tgt := 132) hx hb dX6_rewrite_167 (by decide) ?_
                    rw [show (upd (by6 (mE gp n n + 4) (sp_X6_write_draft (dr6 gp n xB (nI (16 * rB (mE gp n n) - 16)) (na6 gp n gn n) T n (sp_X6_write_draft (dr6 gp n xB 0 gn T n gd) (mE gp n n) 0 0 0 0)) (mE gp n n) 0 0 0 0) gb j) j ((sp_X6_write_draft (dr6 gp n xB (nI ((16 * (rB (mE gp n n))) - 16)) (na6 gp n gn n) T n (sp_X6_write_draft (dr6 gp n xB 0 gn T n gd) (mE gp n n) 0 0 0 0)) (mE gp n n) 0 0 0 0) j) : Nat → Int32) = by6 (mE gp n n + 4) (sp_X6_write_draft (dr6 gp n xB (nI (16 * rB (mE gp n n) - 16)) (na6 gp n gn n) T n (sp_X6_write_draft (dr6 gp n xB 0 gn T n gd) (mE gp n n) 0 0 0 0)) (mE gp n n) 0 0 0 0) gb (j + 1) from (by6_u (by rw [if_pos (by omega)]))] at hP hD
                    exact ih (j + 1) (by omega) (by omega) _ _ _ hP hD hS (lv_sub hl [1, 2, 3, 0] rfl)
            rw [show (gb : Nat → Int32) = by6 (mE gp n n + 4) (sp_X6_write_draft (dr6 gp n xB (nI (16 * rB (mE gp n n) - 16)) (na6 gp n gn n) T n (sp_X6_write_draft (dr6 gp n xB 0 gn T n gd) (mE gp n n) 0 0 0 0)) (mE gp n n) 0 0 0 0) gb 0 from by6_0.symm] at hP hD
            exact loop_132 (16 * rB (mE gp n n) - 0 + 1) 0 (Nat.zero_le _) (Nat.lt_succ_self _) _ _ _ hP hD hS (lv_sub hl [1, 2, 3, 0] rfl)
          refine lv_iconst (v := 1) hx hb dX6_rewrite_59 (by decide) ?_
          refine lv_istore_n (lv' := [(2, .int 1), (0, .ref hO), (1, .ref qn3)]) hx hb dX6_rewrite_60 rfl hl (by decide) rfl (fun ls hl => ?_)
          refine lv_bipush (v := 16) hx hb dX6_rewrite_61 (by decide) ?_
          refine lv_iload_n hx hb dX6_rewrite_63 rfl (lv_at hl 0 rfl) ?_
          refine lv_imul hx hb dX6_rewrite_64 ?_
          refine lv_topi (fun y9 e9 => ?_)
          rw [show (16 * 1 : Int32) = 16 from (by decide)] at e9
          subst e9
          refine lv_aload_n hx hb dX6_rewrite_65 rfl (lv_at hl 1 rfl) ?_
          refine va_get (D := g.1) (ci := 4) (v := .int (nI (mE gp n n + 4))) (C := RX6) (T := TX6) (N := 17) hx hb hts iX6 hown hK hP 0 rfl rfl 9 (by decide) (hts (.fieldLink RX6 92 "FaultIsolationModel" "at" "I") (by decide +kernel)) (fun _ h9 => h9) rfl dX6_rewrite_66 ?_
          refine lv_icmp_ge (tgt := 79) hx hb dX6_rewrite_69 (by decide) (fun c_10 => ?_) (fun c_10 => ?_)
          · skip
            have z_10 := k_leT (a := mE gp n n + 4) (b := 16) c_10 (by omega) (by omega)
            rw [show (1 : Int32) = nI (rB (mE gp n n)) from congrArg nI (rB_1 (by omega))] at hl
            exact join_79 _ _ _  hP hD hS (lv_sub hl [1, 2, 0] rfl)
          · skip
            have z_10 := k_leF (a := mE gp n n + 4) (b := 16) c_10 (by omega) (by omega)
            refine lv_iconst (v := 2) hx hb dX6_rewrite_72 (by decide) ?_
            refine lv_iload_n hx hb dX6_rewrite_73 rfl (lv_at hl 0 rfl) ?_
            refine lv_imul hx hb dX6_rewrite_74 ?_
            refine lv_topi (fun y9 e9 => ?_)
            rw [show (2 * 1 : Int32) = 2 from (by decide)] at e9
            subst e9
            refine lv_istore_n (lv' := [(2, .int 2), (0, .ref hO), (1, .ref qn3)]) hx hb dX6_rewrite_75 rfl hl (by decide) rfl (fun ls hl => ?_)
            refine lv_goto (tgt := 61) hx hb dX6_rewrite_76 (by decide) ?_
            refine lv_bipush (v := 16) hx hb dX6_rewrite_61 (by decide) ?_
            refine lv_iload_n hx hb dX6_rewrite_63 rfl (lv_at hl 0 rfl) ?_
            refine lv_imul hx hb dX6_rewrite_64 ?_
            refine lv_topi (fun y9 e9 => ?_)
            rw [show (16 * 2 : Int32) = 32 from (by decide)] at e9
            subst e9
            refine lv_aload_n hx hb dX6_rewrite_65 rfl (lv_at hl 1 rfl) ?_
            refine va_get (D := g.1) (ci := 4) (v := .int (nI (mE gp n n + 4))) (C := RX6) (T := TX6) (N := 17) hx hb hts iX6 hown hK hP 0 rfl rfl 9 (by decide) (hts (.fieldLink RX6 92 "FaultIsolationModel" "at" "I") (by decide +kernel)) (fun _ h9 => h9) rfl dX6_rewrite_66 ?_
            refine lv_icmp_ge (tgt := 79) hx hb dX6_rewrite_69 (by decide) (fun c_11 => ?_) (fun c_11 => ?_)
            · skip
              have z_11 := k_leT (a := mE gp n n + 4) (b := 32) c_11 (by omega) (by omega)
              rw [show (2 : Int32) = nI (rB (mE gp n n)) from congrArg nI (rB_2 zE0.1 (by omega) (by omega))] at hl
              exact join_79 _ _ _  hP hD hS (lv_sub hl [1, 2, 0] rfl)
            · skip
              have z_11 := k_leF (a := mE gp n n + 4) (b := 32) c_11 (by omega) (by omega)
              refine lv_iconst (v := 2) hx hb dX6_rewrite_72 (by decide) ?_
              refine lv_iload_n hx hb dX6_rewrite_73 rfl (lv_at hl 0 rfl) ?_
              refine lv_imul hx hb dX6_rewrite_74 ?_
              refine lv_topi (fun y9 e9 => ?_)
              rw [show (2 * 2 : Int32) = 4 from (by decide)] at e9
              subst e9
              refine lv_istore_n (lv' := [(2, .int 4), (0, .ref hO), (1, .ref qn3)]) hx hb dX6_rewrite_75 rfl hl (by decide) rfl (fun ls hl => ?_)
              refine lv_goto (tgt := 61) hx hb dX6_rewrite_76 (by decide) ?_
              refine lv_bipush (v := 16) hx hb dX6_rewrite_61 (by decide) ?_
              refine lv_iload_n hx hb dX6_rewrite_63 rfl (lv_at hl 0 rfl) ?_
              refine lv_imul hx hb dX6_rewrite_64 ?_
              refine lv_topi (fun y9 e9 => ?_)
              rw [show (16 * 4 : Int32) = 64 from (by decide)] at e9
              subst e9
              refine lv_aload_n hx hb dX6_rewrite_65 rfl (lv_at hl 1 rfl) ?_
              refine va_get (D := g.1) (ci := 4) (v := .int (nI (mE gp n n + 4))) (C := RX6) (T := TX6) (N := 17) hx hb hts iX6 hown hK hP 0 rfl rfl 9 (by decide) (hts (.fieldLink RX6 92 "FaultIsolationModel" "at" "I") (by decide +kernel)) (fun _ h9 => h9) rfl dX6_rewrite_66 ?_
              refine lv_icmp_ge (tgt := 79) hx hb dX6_rewrite_69 (by decide) (fun c_12 => ?_) (fun c_12 => ?_)
              · skip
                have z_12 := k_leT (a := mE gp n n + 4) (b := 64) c_12 (by omega) (by omega)
                rw [show (4 : Int32) = nI (rB (mE gp n n)) from congrArg nI (rB_4 zE0.1 (by omega) (by omega))] at hl
                exact join_79 _ _ _  hP hD hS (lv_sub hl [1, 2, 0] rfl)
              · skip
                have z_12 := k_leF (a := mE gp n n + 4) (b := 64) c_12 (by omega) (by omega)
                refine lv_iconst (v := 2) hx hb dX6_rewrite_72 (by decide) ?_
                refine lv_iload_n hx hb dX6_rewrite_73 rfl (lv_at hl 0 rfl) ?_
                refine lv_imul hx hb dX6_rewrite_74 ?_
                refine lv_topi (fun y9 e9 => ?_)
                rw [show (2 * 4 : Int32) = 8 from (by decide)] at e9
                subst e9
                refine lv_istore_n (lv' := [(2, .int 8), (0, .ref hO), (1, .ref qn3)]) hx hb dX6_rewrite_75 rfl hl (by decide) rfl (fun ls hl => ?_)
                refine lv_goto (tgt := 61) hx hb dX6_rewrite_76 (by decide) ?_
                refine lv_bipush (v := 16) hx hb dX6_rewrite_61 (by decide) ?_
                refine lv_iload_n hx hb dX6_rewrite_63 rfl (lv_at hl 0 rfl) ?_
                refine lv_imul hx hb dX6_rewrite_64 ?_
                refine lv_topi (fun y9 e9 => ?_)
                rw [show (16 * 8 : Int32) = 128 from (by decide)] at e9
                subst e9
                refine lv_aload_n hx hb dX6_rewrite_65 rfl (lv_at hl 1 rfl) ?_
                refine va_get (D := g.1) (ci := 4) (v := .int (nI (mE gp n n + 4))) (C := RX6) (T := TX6) (N := 17) hx hb hts iX6 hown hK hP 0 rfl rfl 9 (by decide) (hts (.fieldLink RX6 92 "FaultIsolationModel" "at" "I") (by decide +kernel)) (fun _ h9 => h9) rfl dX6_rewrite_66 ?_
                refine lv_icmp_ge (tgt := 79) hx hb dX6_rewrite_69 (by decide) (fun c_13 => ?_) (fun c_13 => ?_)
                · skip
                  have z_13 := k_leT (a := mE gp n n + 4) (b := 128) c_13 (by omega) (by omega)
                  rw [show (8 : Int32) = nI (rB (mE gp n n)) from congrArg nI (rB_8 zE0.1 (by omega) (by omega))] at hl
                  exact join_79 _ _ _  hP hD hS (lv_sub hl [1, 2, 0] rfl)
                · skip
                  have z_13 := k_leF (a := mE gp n n + 4) (b := 128) c_13 (by omega) (by omega)
                  refine lv_iconst (v := 2) hx hb dX6_rewrite_72 (by decide) ?_
                  refine lv_iload_n hx hb dX6_rewrite_73 rfl (lv_at hl 0 rfl) ?_
                  refine lv_imul hx hb dX6_rewrite_74 ?_
                  refine lv_topi (fun y9 e9 => ?_)
                  rw [show (2 * 8 : Int32) = 16 from (by decide)] at e9
                  subst e9
                  refine lv_istore_n (lv' := [(2, .int 16), (0, .ref hO), (1, .ref qn3)]) hx hb dX6_rewrite_75 rfl hl (by decide) rfl (fun ls hl => ?_)
                  refine lv_goto (tgt := 61) hx hb dX6_rewrite_76 (by decide) ?_
                  refine lv_bipush (v := 16) hx hb dX6_rewrite_61 (by decide) ?_
                  refine lv_iload_n hx hb dX6_rewrite_63 rfl (lv_at hl 0 rfl) ?_
                  refine lv_imul hx hb dX6_rewrite_64 ?_
                  refine lv_topi (fun y9 e9 => ?_)
                  rw [show (16 * 16 : Int32) = 256 from (by decide)] at e9
                  subst e9
                  refine lv_aload_n hx hb dX6_rewrite_65 rfl (lv_at hl 1 rfl) ?_
                  refine va_get (D := g.1) (ci := 4) (v := .int (nI (mE gp n n + 4))) (C := RX6) (T := TX6) (N := 17) hx hb hts iX6 hown hK hP 0 rfl rfl 9 (by decide) (hts (.fieldLink RX6 92 "FaultIsolationModel" "at" "I") (by decide +kernel)) (fun _ h9 => h9) rfl dX6_rewrite_66 ?_
                  refine lv_icmp_ge (tgt := 79) hx hb dX6_rewrite_69 (by decide) (fun c_14 => ?_) (fun c_14 => ?_)
                  · skip
                    have z_14 := k_leT (a := mE gp n n + 4) (b := 256) c_14 (by omega) (by omega)
                    rw [show (16 : Int32) = nI (rB (mE gp n n)) from congrArg nI (rB_16 zE0.1 (by omega) (by omega))] at hl
                    exact join_79 _ _ _  hP hD hS (lv_sub hl [1, 2, 0] rfl)
                  · skip
                    have z_14 := k_leF (a := mE gp n n + 4) (b := 256) c_14 (by omega) (by omega)
                    refine lv_iconst (v := 2) hx hb dX6_rewrite_72 (by decide) ?_
                    refine lv_iload_n hx hb dX6_rewrite_73 rfl (lv_at hl 0 rfl) ?_
                    refine lv_imul hx hb dX6_rewrite_74 ?_
                    refine lv_topi (fun y9 e9 => ?_)
                    rw [show (2 * 16 : Int32) = 32 from (by decide)] at e9
                    subst e9
                    refine lv_istore_n (lv' := [(2, .int 32), (0, .ref hO), (1, .ref qn3)]) hx hb dX6_rewrite_75 rfl hl (by decide) rfl (fun ls hl => ?_)
                    refine lv_goto (tgt := 61) hx hb dX6_rewrite_76 (by decide) ?_
                    refine lv_bipush (v := 16) hx hb dX6_rewrite_61 (by decide) ?_
                    refine lv_iload_n hx hb dX6_rewrite_63 rfl (lv_at hl 0 rfl) ?_
                    refine lv_imul hx hb dX6_rewrite_64 ?_
                    refine lv_topi (fun y9 e9 => ?_)
                    rw [show (16 * 32 : Int32) = 512 from (by decide)] at e9
                    subst e9
                    refine lv_aload_n hx hb dX6_rewrite_65 rfl (lv_at hl 1 rfl) ?_
                    refine va_get (D := g.1) (ci := 4) (v := .int (nI (mE gp n n + 4))) (C := RX6) (T := TX6) (N := 17) hx hb hts iX6 hown hK hP 0 rfl rfl 9 (by decide) (hts (.fieldLink RX6 92 "FaultIsolationModel" "at" "I") (by decide +kernel)) (fun _ h9 => h9) rfl dX6_rewrite_66 ?_
                    refine lv_icmp_ge (tgt := 79) hx hb dX6_rewrite_69 (by decide) (fun c_15 => ?_) (fun c_15 => ?_)
                    · skip
                      have z_15 := k_leT (a := mE gp n n + 4) (b := 512) c_15 (by omega) (by omega)
                      rw [show (32 : Int32) = nI (rB (mE gp n n)) from congrArg nI (rB_32 zE0.1 (by omega) (by omega))] at hl
                      exact join_79 _ _ _  hP hD hS (lv_sub hl [1, 2, 0] rfl)
                    · skip
                      have z_15 := k_leF (a := mE gp n n + 4) (b := 512) c_15 (by omega) (by omega)
                      refine lv_iconst (v := 2) hx hb dX6_rewrite_72 (by decide) ?_
                      refine lv_iload_n hx hb dX6_rewrite_73 rfl (lv_at hl 0 rfl) ?_
                      refine lv_imul hx hb dX6_rewrite_74 ?_
                      refine lv_topi (fun y9 e9 => ?_)
                      rw [show (2 * 32 : Int32) = 64 from (by decide)] at e9
                      subst e9
                      refine lv_istore_n (lv' := [(2, .int 64), (0, .ref hO), (1, .ref qn3)]) hx hb dX6_rewrite_75 rfl hl (by decide) rfl (fun ls hl => ?_)
                      refine lv_goto (tgt := 61) hx hb dX6_rewrite_76 (by decide) ?_
                      refine lv_bipush (v := 16) hx hb dX6_rewrite_61 (by decide) ?_
                      refine lv_iload_n hx hb dX6_rewrite_63 rfl (lv_at hl 0 rfl) ?_
                      refine lv_imul hx hb dX6_rewrite_64 ?_
                      refine lv_topi (fun y9 e9 => ?_)
                      rw [show (16 * 64 : Int32) = 1024 from (by decide)] at e9
                      subst e9
                      refine lv_aload_n hx hb dX6_rewrite_65 rfl (lv_at hl 1 rfl) ?_
                      refine va_get (D := g.1) (ci := 4) (v := .int (nI (mE gp n n + 4))) (C := RX6) (T := TX6) (N := 17) hx hb hts iX6 hown hK hP 0 rfl rfl 9 (by decide) (hts (.fieldLink RX6 92 "FaultIsolationModel" "at" "I") (by decide +kernel)) (fun _ h9 => h9) rfl dX6_rewrite_66 ?_
                      refine lv_icmp_ge (tgt := 79) hx hb dX6_rewrite_69 (by decide) (fun _ => ?_) (fun c_16 => absurd cK c_16)
                      rw [show (64 : Int32) = nI (rB (mE gp n n)) from congrArg nI (rB_64 zE0.1 (by omega))] at hl
                      exact join_79 _ _ _  hP hD hS (lv_sub hl [1, 2, 0] rfl)
        · skip
          have z_4 := k_leF (a := 60) (b := j) c_4 (by omega) (by omega)
          refine lv_aload_n hx hb dX6_rewrite_39 rfl (lv_at hl 1 rfl) ?_
          refine lv_iload_n hx hb dX6_rewrite_40 rfl (lv_at hl 2 rfl) ?_
          refine lv_aload_n hx hb dX6_rewrite_41 rfl (lv_at hl 0 rfl) ?_
          refine va_get (D := g.1) (ci := 4) (v := .ref qN) (C := RX6) (T := TX6) (N := 17) hx hb hts iX6 hown hK hP 0 rfl rfl 5 (by decide) (hts (.fieldLink RX6 13 "FaultIsolationModel" "newAddresses" "[I") (by decide +kernel)) (fun _ h9 => h9) rfl dX6_rewrite_42 ?_
          refine lv_iload_n hx hb dX6_rewrite_45 rfl (lv_at hl 2 rfl) ?_
          refine va_iald hx hb hK hP 2 0 rfl rfl (vp_in_nI (by omega) (by decide)) dX6_rewrite_46 ?_
          refine lv_topi (fun y9 e9 => ?_)
          rw [show (gn (nI j).toNatClampNeg : Int32) = gn j from congrArg gn (nI_clamp (by omega))] at e9
          subst e9
          refine va_iast hx hb hK hP hD hS 5 0 rfl rfl (vp_in_nI (by omega) (by decide)) dX6_rewrite_47 (fun H locs hP hD hS => ?_)
          rw [nI_clamp (show j < 2 ^ 31 by omega)] at hP hD
          have hP : va_P g.1 vwCl [(hO, .inr (4, [.int 0, .int xB, .int (nI n), .ref qP, .int xP, .ref qN, .int xS, .ref qY, .ref qD, .int xA, .ref qR, .ref qM, .ref qT, .int y0_13_0, .int y0_14_0, .int y0_15_0, .int y0_16_0])), (qP, .inl (g.2.1.1, 240, .inl gp)), (qN, .inl (g.2.1.1, 60, .inl gn)), (qY, .inl (g.2.1.1, 1024, .inl gb)), (qD, .inl (g.2.1.1, 4096, .inl gd)), (qn3, .inl (g.2.1.1, 60, .inl (upd (cp6 gn j) j (gn j))))] H := hP
          have hD : va_D A [(hO, .inr (4, [.int 0, .int xB, .int (nI n), .ref qP, .int xP, .ref qN, .int xS, .ref qY, .ref qD, .int xA, .ref qR, .ref qM, .ref qT, .int y0_13_0, .int y0_14_0, .int y0_15_0, .int y0_16_0])), (qP, .inl (g.2.1.1, 240, .inl gp)), (qN, .inl (g.2.1.1, 60, .inl gn)), (qY, .inl (g.2.1.1, 1024, .inl gb)), (qD, .inl (g.2.1.1, 4096, .inl gd)), (qn3, .inl (g.2.1.1, 60, .inl (upd (cp6 gn j) j (gn j))))] := hD
          refine lv_iinc (v := (nI (j + 1))) (lv' := [(2, .int (nI (j + 1))), (0, .ref hO), (1, .ref qn3)]) hx hb dX6_rewrite_48 hl (k := 2) rfl (nI_add _ _) (by decide) rfl (fun ls hl => ?_)
          refine lv_goto (tgt := 33) hx hb dX6_rewrite_51 (by decide) ?_
          rw [show (upd (cp6 gn j) j (gn j) : Nat → Int32) = cp6 gn (j + 1) from cp6_u] at hP hD
          exact ih (j + 1) (by omega) (by omega) _ _ _ hP hD hS (lv_sub hl [1, 2, 0] rfl)
    rw [show (fun _ => 0 : Nat → Int32) = cp6 gn 0 from cp6_0] at hP hD
    exact loop_33 (60 - 0 + 1) 0 (Nat.zero_le _) (Nat.lt_succ_self _) _ _ _ hP hD hS (lv_sub hl [2, 1, 0] rfl)
  · skip
    refine lv_iconst (v := 1) hx hb dX6_rewrite_9 (by decide) ?_
    refine lv_goto (tgt := 14) hx hb dX6_rewrite_10 (by decide) ?_
    refine va_put (D := g.1) (ci := 4) (v := .int 1) (ty := .int) (C := RX6) (T := TX6) (N := 17) hx hb hts iX6 tyX6 tyX6_ok nmX6 hown hK hP hD hS 0 rfl rfl 0 (by decide) (hts (.fieldLink RX6 35 "FaultIsolationModel" "thrown" "I") (by decide +kernel)) (fun _ h9 => h9) rfl (by decide +kernel) rfl rfl (Nat.le_of_ble_eq_true rfl) dX6_rewrite_14 (fun H locs hP hD hS => ?_)
    have hP : va_P g.1 vwCl [(hO, .inr (4, [.int 1, .int xB, .int (nI n), .ref qP, .int xP, .ref qN, .int xS, .ref qY, .ref qD, .int xA, .ref qR, .ref qM, .ref qT, .int y0_13_0, .int y0_14_0, .int y0_15_0, .int y0_16_0])), (qP, .inl (g.2.1.1, 240, .inl gp)), (qN, .inl (g.2.1.1, 60, .inl gn)), (qY, .inl (g.2.1.1, 1024, .inl gb)), (qD, .inl (g.2.1.1, 4096, .inl gd))] H := hP
    have hD : va_D A [(hO, .inr (4, [.int 1, .int xB, .int (nI n), .ref qP, .int xP, .ref qN, .int xS, .ref qY, .ref qD, .int xA, .ref qR, .ref qM, .ref qT, .int y0_13_0, .int y0_14_0, .int y0_15_0, .int y0_16_0])), (qP, .inl (g.2.1.1, 240, .inl gp)), (qN, .inl (g.2.1.1, 60, .inl gn)), (qY, .inl (g.2.1.1, 1024, .inl gb)), (qD, .inl (g.2.1.1, 4096, .inl gd))] := hD
    refine lv_aload_n hx hb dX6_rewrite_17 rfl (lv_at hl 0 rfl) ?_
    refine va_get (D := g.1) (ci := 4) (v := .int 1) (C := RX6) (T := TX6) (N := 17) hx hb hts iX6 hown hK hP 0 rfl rfl 0 (by decide) (hts (.fieldLink RX6 35 "FaultIsolationModel" "thrown" "I") (by decide +kernel)) (fun _ h9 => h9) rfl dX6_rewrite_18 ?_
    refine lv_if_le (tgt := 26) hx hb dX6_rewrite_21 (by decide) (fun c_17 => absurd c_17 (by decide)) (fun _ => ?_)
    refine lv_iconst (v := 0) hx hb dX6_rewrite_24 (by decide) ?_
    exact k_iret hx hb hr hlocks ⟨hK, hP, hD, hS, hA, hE, hN⟩ rfl dX6_rewrite_25 (Nat.le_of_ble_eq_true rfl) (Nat.le_of_ble_eq_true rfl) ⟨by simp only [if_neg c_1], (y0_13_0), (y0_14_0), (y0_15_0), (y0_16_0), (xA), (gd), by simp only [if_neg c_1]⟩
