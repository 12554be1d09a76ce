/-! MY BASE: the state's constants, the standard contract, calls by it -/
abbrev KG : Type := va_G × (ClassId × ClassId × ClassId) × Nat
def kT : Nat → Int32 := fun j => ([0, 1, 3, 3, 3, 3, 3, 3, 3, 2, 2, 2, 0, 1, 1, 0, 1, 1, 1] : List Int32).getD j 0
abbrev k_tys (g : KG) : List (ClassId × FieldType) := [(g.2.1.1, .int), (g.2.1.2.1, .boolean), (g.2.1.2.2, .long)]
def kE (g : KG) (A : Nat → Prop) (U : State) (H : Heap) : Prop :=
  va_Z RX5 "REGISTERS_OF_WORD" "[I" (.ref g.2.2) A U H ∧ va_T .int g.2.2 19 (fun j => .int (kT j)) A U H ∧ vx_Zq Bundle.tN "UNASSIGNED_STACK" Bundle.steD A U H ∧ vx_Zq Bundle.tN "SUPPRESSED_SENTINEL" Bundle.listD A U H
theorem kE.moved {g : KG} {A : Nat → Prop} {u U : State} {H : Heap} (hvm : u.vm.Alike U.vm) (h : kE g A u H) : kE g A U H := ⟨h.1.moved hvm, h.2.1.moved hvm, vx_Zq.moved hvm h.2.2.1, vx_Zq.moved hvm h.2.2.2⟩
theorem kE.kept {g : KG} {A : Nat → Prop} {U : State} {H H1 : Heap} (h : kE g A U H) (hq : ∀ a : Nat, a < H.size → ¬ A a → H1[a]? = H[a]?) : kE g A U H1 := ⟨h.1.kept hq, h.2.1.kept hq, vx_Zq.kept h.2.2.1 hq, vx_Zq.kept h.2.2.2 hq⟩
theorem kE.narrow {g : KG} {A B : Nat → Prop} {U : State} {H : Heap} (h : kE g A U H) (hAB : ∀ q, B q → A q) : kE g B U H := ⟨h.1.narrow hAB, h.2.1.narrow hAB, vx_Zq.narrow h.2.2.1 hAB, vx_Zq.narrow h.2.2.2 hAB⟩
def kNm : List (String × Nat × MethodName) := [(RX0, 42, yX5_registersOf), (RX0, 45, yX5_isRegister), (RX1, 105, yX5_isBundleStart), (RX1, 93, yX5_isInMemory), (RX2, 76, yX5_hasPlace), (RX3, 36, yX5_hasPlace), (RX4, 59, yX5_isBundleStart)]
def kNf : List (Nat × String) := [(159, "address"), (162, "steps"), (165, "strays"), (168, "slips"), (171, "regionStores"), (174, "latestStray")]
def kSt : List (Nat × String) := [(109, "there is no such byte"), (117, "a byte is 0 .. 255"), (132, "registers are 0 .. 7"), (143, "addresses are 0 .. 4095"), (151, "steps are 1 .. 1000"), (153, "the address is below 0"), (177, "what is 0 .. 5"), (54, "a number is not 0 .. 255"), (65, "there are 60 instructions"), (75, "there is no such instruction"), (77, "there are not so many instructions"), (85, "the program is not sound"), (95, "no such instruction was rewritten"), (97, "bundles are 0 .. 64")]
def kIA : String := "java/lang/IllegalArgumentException"
def kIS : String := "java/lang/IllegalStateException"
def kCs : List String := [kIA, kIS]
def kDs : List MethodName := [Bundle.initS "java/lang/RuntimeException", Bundle.initS "java/lang/Exception", Bundle.initS Bundle.tN]
def kN (U : State) : Prop := (∀ q ∈ kNm, va_Nw (.methodLinkNest q.1 q.2.1 q.2.2 RX5) U) ∧ (∀ q ∈ kNf, va_Nw (.fieldLinkNest RX5 q.1 RX1 q.2 "I" RX5) U) ∧ (∀ q ∈ kSt, ∃ a, vk_R RX5 q.1 q.2 a U) ∧ (∀ q ∈ kCs, va_Nw (.castable q q) U) ∧ va_Nc kIS kIA U ∧ ∀ q ∈ kDs, va_Nw (.declares q) U
theorem kN.warm {s U : State} (hW : s.WarmedH U.vm) (h : kN s) : kN U := ⟨fun q hq => va_Nw.warmM hW (h.1 q hq), fun q hq => va_Nw.warmF hW (h.2.1 q hq), fun q hq => (h.2.2.1 q hq).imp fun _ z => vk_R.warm hW z, fun q hq => va_Nw.warmC hW (h.2.2.2.1 q hq), va_Nc.moved hW.alike h.2.2.2.2.1, fun q hq => va_Nw.warmD hW (h.2.2.2.2.2 q hq)⟩
theorem kN.same {u U : State} (e : U.vm = u.vm) (h : kN u) : kN U := ⟨fun q hq => va_Nw.same rfl e.symm (h.1 q hq), fun q hq => va_Nw.same rfl e.symm (h.2.1 q hq), fun q hq => (h.2.2.1 q hq).imp fun _ z => vk_R.same e z, fun q hq => va_Nw.same rfl e.symm (h.2.2.2.1 q hq), va_Nc.moved (e ▸ Vm.Alike.refl u.vm) h.2.2.2.2.1, fun q hq => va_Nw.same rfl e.symm (h.2.2.2.2.2 q hq)⟩
/-- the world at a method's beginning -/
def SP (g : KG) (w : va_W) (sz : Nat) (U : State) : Prop := U.heap.size = sz ∧ va_P g.1 vwCl w U.heap ∧ va_K g.1 vwCl (k_tys g) U ∧ va_D (fun _ => True) w ∧ kE g (va_A w sz) U U.heap ∧ kN U
/-- the world behind it -/
def SB (g : KG) (A : Nat → Prop) (u : va_W) (t : State) : Prop := va_P g.1 vwCl u t.heap ∧ va_K g.1 vwCl (k_tys g) t ∧ va_D A u
abbrev Ci (l : Launch) (g : KG) (y : MethodName) (ws : List Cond) (rm : Room) (av : List Value) (w : va_W) (post : Int32 → va_W → Prop) (mc ms : Nat) : Prop := ∀ sz, Met l y ws rm (va_Pc av (SP g w sz)) (va_Qi post (SB g (va_A w sz)) (va_A w sz)) mc ms (va_A w sz)
abbrev Cv (l : Launch) (g : KG) (y : MethodName) (ws : List Cond) (rm : Room) (av : List Value) (w : va_W) (post : va_W → Prop) (mc ms : Nat) : Prop := ∀ sz, Met l y ws rm (va_Pc av (SP g w sz)) (va_Qv post (SB g (va_A w sz)) (va_A w sz)) mc ms (va_A w sz)
theorem SP.blind {g : KG} {w : va_W} {sz : Nat} {av : List Value} : FrameBlind (va_Pc av (SP g w sz)) := fun a U f mk q => by
  obtain ⟨q0, q1, qP, qK, qD, qE, qN⟩ := q
  exact ⟨q0, q1, qP, va_K.moved (u := U) (U := U.calling f mk a) (Vm.Alike.refl U.vm) qK, qD, kE.moved (u := U) (U := U.calling f mk a) (Vm.Alike.refl U.vm) qE, kN.same (u := U) (U := U.calling f mk a) rfl qN⟩
theorem k_subP {D : va_G} {cl : List vw_C} {ws wc : va_W} {H : Heap} (h : va_P D cl ws H) (is : List Nat) (hs : is.map (fun i => ws[i]?) = wc.map some) : va_P D cl wc H := by
  intro k q hk
  have h1 : (is.map (fun i => ws[i]?))[k]? = some (some q) := by rw [hs, List.getElem?_map, hk]; rfl
  rw [List.getElem?_map] at h1
  cases hi : is[k]? with
  | none => rw [hi] at h1; cases h1
  | some i => rw [hi] at h1; exact h i q (Option.some.inj h1)
theorem SP.mk {g : KG} {A : Nat → Prop} {ws wc : va_W} {s U : State} {H : Heap} {locs : List Loc} (hK : va_K g.1 vwCl (k_tys g) s) (hP : va_P g.1 vwCl ws H) (hD : va_D A ws) (hS : va_S A s.heap H locs) (hA : ∀ q, s.heap.size ≤ q → A q) (hE : kE g A s s.heap) (hN : kN s) (isC : List Nat) (hn : va_nd isC = true) (hC : isC.map (fun i => ws[i]?) = wc.map some) (hU : U.heap = H) (hW : s.WarmedH U.vm) : SP g wc H.size U := by
  refine ⟨by rw [hU], by rw [hU]; exact k_subP hP isC hC, va_K.moved hW.alike hK, (hD.sub isC hn hC).weaken (fun _ _ _ _ => trivial), ?_, kN.warm hW hN⟩
  rw [hU]
  exact ((hE.kept fun a h1 h2 => hS.2.1 a h1 h2).narrow (va_free hD hS hA isC hC)).moved hW.alike
section KCall
variable {p : Program} {l : Launch} {e : Env} {R : Room} {s : State} {m : MethodId} {args : Array Value} {below : List Frame} {meth : Method} {c : Code} {H : Heap} {locs : List Loc} {cells slots : Nat} {Q : State → Prop}
variable {Ts wsY : List Cond} {cc bytes : ByteArray} {nL maxL idx n mc ms : Nat} {own C host : String} {y : MethodName} {ret : Option FieldType} {rm : Room} {b : Addr} {As rest : List Value} {pc : Nat} {ls : Array Slot} {g : KG} {A : Nat → Prop} {ws wc wr : va_W}
theorem k_calli {post : Int32 → va_W → Prop} {a : Array Value} {st0 : List Value} (hr : va_Run p l e R s m args below meth c H locs cells slots mc ms (F0 m pc ls st0) rest (va_Qi post (SB g (va_A wc H.size)) (va_A wc H.size) a) (va_A wc H.size))
    (hP : va_P g.1 vwCl ws H) (hD : va_D A ws) (hS : va_S A s.heap H locs) (hA : ∀ q, s.heap.size ≤ q → A q) (isC isR : List Nat) (hC : isC.map (fun i => ws[i]?) = wc.map some) (hR : isR.map (fun i => ws[i]?) = wr.map some) (hn : va_nd isR = true) (hdis : ∀ i ∈ isR, i ∉ isC)
    (kk : ∀ (r : Int32) (u : va_W) (H1 : Heap) (locs1 : List Loc), post r u → va_P g.1 vwCl (wr ++ u) H1 → va_D A (wr ++ u) → va_S A s.heap H1 locs1 → W p l e R s m args below meth c H1 locs1 (cells + mc) (slots + ms) Q (F0 m (pc + 3) ls (.int r :: rest))) : W p l e R s m args below meth c H locs cells slots Q (F0 m pc ls st0) := by
  have hFc := va_free hD hS hA isC hC
  refine va_calli hr hS (fun q _ h => hFc q h) hFc (fun r u t H1 locs1 ht hvm hw hB hz1 hk1 hS1 => ?_)
  obtain ⟨hP1, hK1, hD1⟩ := hB
  rw [ht] at hP1
  obtain ⟨hP2, hD2⟩ := va_join hP hD isC isR hC hR hn hdis hk1 hFc hP1 hD1
  exact kk r u H1 locs1 hw hP2 hD2 hS1
theorem k_callv {post : va_W → Prop} {a : Array Value} {st0 : List Value} (hr : va_Run p l e R s m args below meth c H locs cells slots mc ms (F0 m pc ls st0) rest (va_Qv post (SB g (va_A wc H.size)) (va_A wc H.size) a) (va_A wc H.size))
    (hP : va_P g.1 vwCl ws H) (hD : va_D A ws) (hS : va_S A s.heap H locs) (hA : ∀ q, s.heap.size ≤ q → A q) (isC isR : List Nat) (hC : isC.map (fun i => ws[i]?) = wc.map some) (hR : isR.map (fun i => ws[i]?) = wr.map some) (hn : va_nd isR = true) (hdis : ∀ i ∈ isR, i ∉ isC)
    (kk : ∀ (u : va_W) (H1 : Heap) (locs1 : List Loc), post u → va_P g.1 vwCl (wr ++ u) H1 → va_D A (wr ++ u) → va_S A s.heap H1 locs1 → W p l e R s m args below meth c H1 locs1 (cells + mc) (slots + ms) Q (F0 m (pc + 3) ls rest)) : W p l e R s m args below meth c H locs cells slots Q (F0 m pc ls st0) := by
  have hFc := va_free hD hS hA isC hC
  refine va_callv hr hS (fun q _ h => hFc q h) hFc (fun u t H1 locs1 ht hvm hw hB hz1 hk1 hS1 => ?_)
  obtain ⟨hP1, hK1, hD1⟩ := hB
  rw [ht] at hP1
  obtain ⟨hP2, hD2⟩ := va_join hP hD isC isR hC hR hn hdis hk1 hFc hP1 hD1
  exact kk u H1 locs1 hw hP2 hD2 hS1
/-- what every call is given of the world at hand -/
abbrev KW (s : State) (H : Heap) (locs : List Loc) (g : KG) (A : Nat → Prop) (ws : va_W) : Prop := va_K g.1 vwCl (k_tys g) s ∧ va_P g.1 vwCl ws H ∧ va_D A ws ∧ va_S A s.heap H locs ∧ (∀ q, s.heap.size ≤ q → A q) ∧ kE g A s s.heap ∧ kN s
abbrev KX (ws wc wr : va_W) (isC isR : List Nat) : Prop := isC.map (fun i => ws[i]?) = wc.map some ∧ isR.map (fun i => ws[i]?) = wr.map some ∧ (va_nd isC && (va_nd isR && isR.all (fun i => decide (i ∉ isC)))) = true
theorem KX.dis {isC isR : List Nat} (h : (va_nd isC && (va_nd isR && isR.all (fun i => decide (i ∉ isC)))) = true) : va_nd isC = true ∧ va_nd isR = true ∧ ∀ i ∈ isR, i ∉ isC := by
  simp only [Bool.and_eq_true, List.all_eq_true, decide_eq_true_eq] at h
  exact ⟨h.1, h.2.1, h.2.2⟩
theorem kiV {post : Int32 → va_W → Prop} {q0 ci : Nat} {fs : List Value} {cq : vw_C} (S : CallFix p m c cc nL s args Ts own) (hM : Ci l g y wsY rm (.ref b :: As) wc post mc ms) (cw : CallW R s args own C idx y bytes maxL ret wsY rm mc ms n) (hw : KW s H locs g A ws) (isC isR : List Nat) (hx : KX ws wc wr isC isR)
    (he : ws[q0]? = some (b, .inr (ci, fs))) (hc : vwCl[ci]? = some cq) (hcC : cq.1 = C) (hlen : As.length = n) (hsize : ls.size = nL) (hWr : (rest.map fun v => v.category).sum ≤ 8) (hdg : decode cc pc = .ok (.invokevirtual idx, 3)) (hf : cells + mc ≤ R.cells ∧ slots + ms ≤ R.slots) {st0 : List Value} (hst : st0 = As.reverse ++ .ref b :: rest)
    (kk : ∀ (r : Int32) (u : va_W) (H1 : Heap) (locs1 : List Loc), post r u → va_P g.1 vwCl (wr ++ u) H1 → va_D A (wr ++ u) → va_S A s.heap H1 locs1 → W p l e R s m args below meth c H1 locs1 (cells + mc) (slots + ms) Q (F0 m (pc + 3) ls (.int r :: rest))) : W p l e R s m args below meth c H locs cells slots Q (F0 m pc ls st0) := by
  subst hst
  subst hcC
  obtain ⟨hK, hP, hD, hS, hA, hE, hN⟩ := hw
  obtain ⟨h1, h2, h3⟩ := KX.dis hx.2.2
  exact k_calli (va_runV S (hM H.size) cw ⟨SP.blind, va_recv hK hP hc he, fun U hU hW => ⟨rfl, SP.mk hK hP hD hS hA hE hN isC h1 hx.1 hU hW⟩⟩ rfl hlen hsize rfl (lv_room hWr) hdg hf) hP hD hS hA isC isR hx.1 hx.2.1 h2 h3 kk
theorem kvV {post : va_W → Prop} {q0 ci : Nat} {fs : List Value} {cq : vw_C} (S : CallFix p m c cc nL s args Ts own) (hM : Cv l g y wsY rm (.ref b :: As) wc post mc ms) (cw : CallW R s args own C idx y bytes maxL ret wsY rm mc ms n) (hw : KW s H locs g A ws) (isC isR : List Nat) (hx : KX ws wc wr isC isR)
    (he : ws[q0]? = some (b, .inr (ci, fs))) (hc : vwCl[ci]? = some cq) (hcC : cq.1 = C) (hlen : As.length = n) (hsize : ls.size = nL) (hWr : (rest.map fun v => v.category).sum ≤ 8) (hdg : decode cc pc = .ok (.invokevirtual idx, 3)) (hf : cells + mc ≤ R.cells ∧ slots + ms ≤ R.slots) {st0 : List Value} (hst : st0 = As.reverse ++ .ref b :: rest)
    (kk : ∀ (u : va_W) (H1 : Heap) (locs1 : List Loc), post u → va_P g.1 vwCl (wr ++ u) H1 → va_D A (wr ++ u) → va_S A s.heap H1 locs1 → W p l e R s m args below meth c H1 locs1 (cells + mc) (slots + ms) Q (F0 m (pc + 3) ls rest)) : W p l e R s m args below meth c H locs cells slots Q (F0 m pc ls st0) := by
  subst hst
  subst hcC
  obtain ⟨hK, hP, hD, hS, hA, hE, hN⟩ := hw
  obtain ⟨h1, h2, h3⟩ := KX.dis hx.2.2
  exact k_callv (va_runV S (hM H.size) cw ⟨SP.blind, va_recv hK hP hc he, fun U hU hW => ⟨rfl, SP.mk hK hP hD hS hA hE hN isC h1 hx.1 hU hW⟩⟩ rfl hlen hsize rfl (lv_room hWr) hdg hf) hP hD hS hA isC isR hx.1 hx.2.1 h2 h3 kk
theorem kiS {post : Int32 → va_W → Prop} (S : CallFix p m c cc nL s args Ts own) (hM : Ci l g y wsY rm As wc post mc ms) (cw : CallB R s args own idx y bytes maxL ret wsY rm mc ms n ∧ (Cond.static y).before args s = true) (hw : KW s H locs g A ws) (isC isR : List Nat) (hx : KX ws wc wr isC isR)
    (hlen : As.length = n) (hsize : ls.size = nL) (hWr : (rest.map fun v => v.category).sum ≤ 8) (hdg : decode cc pc = .ok (.invokestatic idx, 3)) (hf : cells + mc ≤ R.cells ∧ slots + ms ≤ R.slots) {st0 : List Value} (hst : st0 = As.reverse ++ rest)
    (kk : ∀ (r : Int32) (u : va_W) (H1 : Heap) (locs1 : List Loc), post r u → va_P g.1 vwCl (wr ++ u) H1 → va_D A (wr ++ u) → va_S A s.heap H1 locs1 → W p l e R s m args below meth c H1 locs1 (cells + mc) (slots + ms) Q (F0 m (pc + 3) ls (.int r :: rest))) : W p l e R s m args below meth c H locs cells slots Q (F0 m pc ls st0) := by
  subst hst
  obtain ⟨hK, hP, hD, hS, hA, hE, hN⟩ := hw
  obtain ⟨h1, h2, h3⟩ := KX.dis hx.2.2
  exact k_calli (va_runS S (hM H.size) cw ⟨SP.blind, fun U hU hW => ⟨rfl, SP.mk hK hP hD hS hA hE hN isC h1 hx.1 hU hW⟩⟩ rfl hlen hsize rfl (lv_room hWr) hdg hf) hP hD hS hA isC isR hx.1 hx.2.1 h2 h3 kk
theorem kiSN {post : Int32 → va_W → Prop} (S : CallFix p m c cc nL s args Ts own) (hM : Ci l g y wsY rm As wc post mc ms) (cw : va_CN R s args own idx y host bytes maxL ret wsY rm mc ms n ∧ (Cond.static y).before args s = true ∧ True) (hw : KW s H locs g A ws) (isC isR : List Nat) (hx : KX ws wc wr isC isR)
    (hlen : As.length = n) (hsize : ls.size = nL) (hWr : (rest.map fun v => v.category).sum ≤ 8) (hdg : decode cc pc = .ok (.invokestatic idx, 3)) (hf : cells + mc ≤ R.cells ∧ slots + ms ≤ R.slots) {st0 : List Value} (hst : st0 = As.reverse ++ rest)
    (kk : ∀ (r : Int32) (u : va_W) (H1 : Heap) (locs1 : List Loc), post r u → va_P g.1 vwCl (wr ++ u) H1 → va_D A (wr ++ u) → va_S A s.heap H1 locs1 → W p l e R s m args below meth c H1 locs1 (cells + mc) (slots + ms) Q (F0 m (pc + 3) ls (.int r :: rest))) : W p l e R s m args below meth c H locs cells slots Q (F0 m pc ls st0) := by
  subst hst
  obtain ⟨hK, hP, hD, hS, hA, hE, hN⟩ := hw
  obtain ⟨h1, h2, h3⟩ := KX.dis hx.2.2
  exact k_calli (va_runSN S (hM H.size) cw ⟨SP.blind, fun U hU hW => ⟨rfl, SP.mk hK hP hD hS hA hE hN isC h1 hx.1 hU hW⟩⟩ rfl hlen hsize rfl (lv_room hWr) hdg hf) hP hD hS hA isC isR hx.1 hx.2.1 h2 h3 kk
theorem kvI {post : va_W → Prop} (S : CallFix p m c cc nL s args Ts own) (hM : Cv l g y wsY rm (.ref b :: As) wc post mc ms) (cw : CallB R s args own idx y bytes maxL none wsY rm mc ms n ∧ y.name = "<init>" ∧ (Cond.instanceMethod y).before args s = true) (hw : KW s H locs g A ws) (isC isR : List Nat) (hx : KX ws wc wr isC isR)
    (hlen : As.length = n) (hsize : ls.size = nL) (hWr : (rest.map fun v => v.category).sum ≤ 8) (hdg : decode cc pc = .ok (.invokespecial idx, 3)) (hf : cells + mc ≤ R.cells ∧ slots + ms ≤ R.slots) {st0 : List Value} (hst : st0 = As.reverse ++ .ref b :: rest)
    (kk : ∀ (u : va_W) (H1 : Heap) (locs1 : List Loc), post u → va_P g.1 vwCl (wr ++ u) H1 → va_D A (wr ++ u) → va_S A s.heap H1 locs1 → W p l e R s m args below meth c H1 locs1 (cells + mc) (slots + ms) Q (F0 m (pc + 3) ls rest)) : W p l e R s m args below meth c H locs cells slots Q (F0 m pc ls st0) := by
  subst hst
  obtain ⟨hK, hP, hD, hS, hA, hE, hN⟩ := hw
  obtain ⟨h1, h2, h3⟩ := KX.dis hx.2.2
  exact k_callv (va_runI S (hM H.size) cw ⟨SP.blind, fun U hU hW => ⟨rfl, SP.mk hK hP hD hS hA hE hN isC h1 hx.1 hU hW⟩⟩ rfl hlen hsize rfl (lv_room hWr) hdg hf) hP hD hS hA isC isR hx.1 hx.2.1 h2 h3 kk
/-- the ends of a method -/
theorem k_iret {post : Int32 → va_W → Prop} {v : Int32} (hx : p.tables.exec = Jvm.exec) (hb : c.code = cc) {ty : FieldType} (hr : meth.sig.returnType = some ty) (hlocks : meth.locks = false) (hw : KW s H locs g A ws) (hn : narrow ty (.int v) = .int v) (hd : decode cc pc = .ok (.ireturn, 1)) (hc : cells ≤ mc) (hs : slots ≤ ms) (hp : post v ws) :
    W p l e R s m args below meth c H locs cells slots (MQ below (va_Qi post (SB g A) A) args s mc ms A) (F0 m pc ls [.int v]) := by
  obtain ⟨hK, hP, hD, hS, hA, hE, hN⟩ := hw
  refine W.widen (k := mc) (n := ms) hc hs ?_
  exact W.zret (v := v) hx hb hr hn (fun t ht hW => ⟨⟨v, ws, rfl, hp, by rw [ht]; exact hP, va_K.moved hW.alike hK, hD⟩, hS.F ht⟩) hS.2.2 hd hlocks
theorem k_vret {post : va_W → Prop} (hx : p.tables.exec = Jvm.exec) (hb : c.code = cc) (hr : meth.sig.returnType = none) (hlocks : meth.locks = false) (hw : KW s H locs g A ws) (hd : decode cc pc = .ok (.return_, 1)) (hc : cells ≤ mc) (hs : slots ≤ ms) (hp : post ws) :
    W p l e R s m args below meth c H locs cells slots (MQ below (va_Qv post (SB g A) A) args s mc ms A) (F0 m pc ls []) := by
  obtain ⟨hK, hP, hD, hS, hA, hE, hN⟩ := hw
  refine W.widen (k := mc) (n := ms) hc hs ?_
  exact W.vret hx hb hr (fun t ht hW => ⟨⟨ws, rfl, hp, by rw [ht]; exact hP, va_K.moved hW.alike hK, hD⟩, hS.F ht⟩) hS.2.2 hd hlocks
end KCall
theorem k_in {x : Int32} {N : Nat} (h0 : ¬ x < 0) (h1 : ¬ nI N ≤ x) (hN : N < 2 ^ 31) : vp_in x N := by
  obtain ⟨j, hj, rfl⟩ := nI_of h0
  exact vp_in_nI (Nat.lt_of_not_le fun h => h1 ((nI_leI hN hj).mpr h)) hN
theorem kz_b {v : Int32} (h : v = 0 ∨ v = 1) : narrow .boolean (.int v) = .int v := by rcases h with rfl | rfl <;> rfl
