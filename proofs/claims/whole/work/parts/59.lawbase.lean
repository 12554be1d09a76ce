/-! MY LAW BASE: calls that may throw, wrappers that never do -/
abbrev kL1 (A : Nat → Prop) : String → State → State → Prop := vx_X (fun _ : Unit => False) (fun _ _ _ => True) A
abbrev CiL (l : Launch) (g : KG) (y : MethodName) (ws : List Cond) (rm : Room) (av : List Value) (w : va_W) (post : Int32 → va_W → Prop) (mc ms : Nat) : Prop := ∀ sz, vx_Met l y ws rm (va_Pc av (SP g w sz)) (va_Qi post (SB g (va_A w sz)) (va_A w sz)) (kL1 (va_A w sz)) mc ms (va_A w sz)
section KLaw
variable {p : Program} {l : Launch} {e : Env} {R : Room} {s : State} {m : MethodId} {args : Array Value} {below : List Frame} {meth : Method} {c : Code} {H : Heap} {locs : List Loc} {cells slots : Nat} {Q : State → Prop}
variable {Ts wsY : List Cond} {cc bytes : ByteArray} {nL maxL idx n mc ms : Nat} {own C host : String} {y : MethodName} {ret : Option FieldType} {rm : Room} {b : Addr} {As rest : List Value} {pc : Nat} {ls : Array Slot} {g : KG} {A : Nat → Prop} {ws wc wr : va_W}
theorem kiVX {post : Int32 → va_W → Prop} {PE : String → Prop} {q0 ci : Nat} {fs : List Value} {cq : vw_C} (S : CallFix p m c cc nL s args Ts own) (hM : CiX l g y wsY rm (.ref b :: As) wc post PE mc ms) (cw : CallW R s args own C idx y bytes maxL ret wsY rm mc ms n) (hw : KW s H locs g A ws) (isC isR : List Nat) (hx : KX ws wc wr isC isR)
    (he : ws[q0]? = some (b, .inr (ci, fs))) (hc : vwCl[ci]? = some cq) (hcC : cq.1 = C) (hlen : As.length = n) (hsize : ls.size = nL) (hWr : (rest.map fun v => v.category).sum ≤ 8) (hdg : decode cc pc = .ok (.invokevirtual idx, 3)) (hf : cells + mc ≤ R.cells ∧ slots + ms ≤ R.slots) {st0 : List Value} (hst : st0 = As.reverse ++ .ref b :: rest)
    (kx : ∀ (E : String) (ce : Cell) (q9 : Addr) (H1 : Heap) (locs1 : List Loc), PE E → va_P g.1 vwCl (wr ++ wc) H1 → va_D A (wr ++ wc) → va_S A s.heap H1 locs1 → H1[q9]? = some ce → ce.vm = .none → s.vm.findClass E = some ce.cls → vx_W p l e R s m args below meth c H1 locs1 (cells + mc) (slots + ms) Q (F0 m pc ls rest) q9)
    (kk : ∀ (r : Int32) (u : va_W) (H1 : Heap) (locs1 : List Loc), post r u → va_P g.1 vwCl (wr ++ u) H1 → va_D A (wr ++ u) → va_S A s.heap H1 locs1 → W p l e R s m args below meth c H1 locs1 (cells + mc) (slots + ms) Q (F0 m (pc + 3) ls (.int r :: rest))) : W p l e R s m args below meth c H locs cells slots Q (F0 m pc ls st0) := by
  subst hst
  subst hcC
  obtain ⟨hK, hP, hD, hS, hA, hE, hN⟩ := hw
  obtain ⟨h1, h2, h3⟩ := KX.dis hx.2.2
  have hFc := va_free hD hS hA isC hx.1
  refine vx_calli (vx_runV S (hM H.size) cw ⟨SP.blind, va_recv hK hP hc he, fun U hU hW => ⟨rfl, SP.mk hK hP hD hS hA hE hN isC h1 hx.1 hU hW⟩⟩ rfl hlen hsize rfl (lv_room hWr) hdg hf) hS (fun q _ h => hFc q h) hFc (fun q _ h => hFc q h) (fun E ce q9 u t H1 locs1 ht hvm hu hB hz1 hk1 hS1 g1 g2 g3 => ?_) (fun r u t H1 locs1 ht hvm hp hB hz1 hk1 hS1 => ?_)
  · subst u
    obtain ⟨hPE, hP1, hK1, hD1⟩ := hB
    rw [ht] at hP1
    obtain ⟨hP2, hD2⟩ := va_join hP hD isC isR hx.1 hx.2.1 h2 h3 hk1 hFc hP1 hD1
    exact kx E ce q9 H1 locs1 hPE hP2 hD2 hS1 g1 g2 g3
  · obtain ⟨hP1, hK1, hD1⟩ := hB
    rw [ht] at hP1
    obtain ⟨hP2, hD2⟩ := va_join hP hD isC isR hx.1 hx.2.1 h2 h3 hk1 hFc hP1 hD1
    exact kk r u H1 locs1 hp hP2 hD2 hS1
theorem kvVX {post : va_W → Prop} {PE : String → Prop} {q0 ci : Nat} {fs : List Value} {cq : vw_C} (S : CallFix p m c cc nL s args Ts own) (hM : CvX l g y wsY rm (.ref b :: As) wc post PE mc ms) (cw : CallW R s args own C idx y bytes maxL ret wsY rm mc ms n) (hw : KW s H locs g A ws) (isC isR : List Nat) (hx : KX ws wc wr isC isR)
    (he : ws[q0]? = some (b, .inr (ci, fs))) (hc : vwCl[ci]? = some cq) (hcC : cq.1 = C) (hlen : As.length = n) (hsize : ls.size = nL) (hWr : (rest.map fun v => v.category).sum ≤ 8) (hdg : decode cc pc = .ok (.invokevirtual idx, 3)) (hf : cells + mc ≤ R.cells ∧ slots + ms ≤ R.slots) {st0 : List Value} (hst : st0 = As.reverse ++ .ref b :: rest)
    (kx : ∀ (E : String) (ce : Cell) (q9 : Addr) (H1 : Heap) (locs1 : List Loc), PE E → va_P g.1 vwCl (wr ++ wc) H1 → va_D A (wr ++ wc) → va_S A s.heap H1 locs1 → H1[q9]? = some ce → ce.vm = .none → s.vm.findClass E = some ce.cls → vx_W p l e R s m args below meth c H1 locs1 (cells + mc) (slots + ms) Q (F0 m pc ls rest) q9)
    (kk : ∀ (u : va_W) (H1 : Heap) (locs1 : List Loc), post u → va_P g.1 vwCl (wr ++ u) H1 → va_D A (wr ++ u) → va_S A s.heap H1 locs1 → W p l e R s m args below meth c H1 locs1 (cells + mc) (slots + ms) Q (F0 m (pc + 3) ls rest)) : W p l e R s m args below meth c H locs cells slots Q (F0 m pc ls st0) := by
  subst hst
  subst hcC
  obtain ⟨hK, hP, hD, hS, hA, hE, hN⟩ := hw
  obtain ⟨h1, h2, h3⟩ := KX.dis hx.2.2
  have hFc := va_free hD hS hA isC hx.1
  refine vx_callv (vx_runV S (hM H.size) cw ⟨SP.blind, va_recv hK hP hc he, fun U hU hW => ⟨rfl, SP.mk hK hP hD hS hA hE hN isC h1 hx.1 hU hW⟩⟩ rfl hlen hsize rfl (lv_room hWr) hdg hf) hS (fun q _ h => hFc q h) hFc (fun q _ h => hFc q h) (fun E ce q9 u t H1 locs1 ht hvm hu hB hz1 hk1 hS1 g1 g2 g3 => ?_) (fun u t H1 locs1 ht hvm hp hB hz1 hk1 hS1 => ?_)
  · subst u
    obtain ⟨hPE, hP1, hK1, hD1⟩ := hB
    rw [ht] at hP1
    obtain ⟨hP2, hD2⟩ := va_join hP hD isC isR hx.1 hx.2.1 h2 h3 hk1 hFc hP1 hD1
    exact kx E ce q9 H1 locs1 hPE hP2 hD2 hS1 g1 g2 g3
  · obtain ⟨hP1, hK1, hD1⟩ := hB
    rw [ht] at hP1
    obtain ⟨hP2, hD2⟩ := va_join hP hD isC isR hx.1 hx.2.1 h2 h3 hk1 hFc hP1 hD1
    exact kk u H1 locs1 hp hP2 hD2 hS1
/-- a wrapper called from the law -/
theorem kiSL {post : Int32 → va_W → Prop} {hh : List (Nat × Nat × Nat × Nat)} (S : CallFix p m c cc nL s args Ts own) (hM : CiL l g y wsY rm As wc post mc ms) (cw : vx_CSW R s args own idx y bytes maxL ret hh wsY rm mc ms n) (hw : KW s H locs g A ws) (isC isR : List Nat) (hx : KX ws wc wr isC isR)
    (hlen : As.length = n) (hsize : ls.size = nL) (hWr : (rest.map fun v => v.category).sum ≤ 8) (hdg : decode cc pc = .ok (.invokestatic idx, 3)) (hf : cells + mc ≤ R.cells ∧ slots + ms ≤ R.slots) {st0 : List Value} (hst : st0 = As.reverse ++ rest)
    (kk : ∀ (r : Int32) (u : va_W) (H1 : Heap) (locs1 : List Loc), post r u → va_P g.1 vwCl (wr ++ u) H1 → va_D A (wr ++ u) → va_S A s.heap H1 locs1 → W p l e R s m args below meth c H1 locs1 (cells + mc) (slots + ms) Q (F0 m (pc + 3) ls (.int r :: rest))) : W p l e R s m args below meth c H locs cells slots Q (F0 m pc ls st0) := by
  subst hst
  obtain ⟨hK, hP, hD, hS, hA, hE, hN⟩ := hw
  obtain ⟨h1, h2, h3⟩ := KX.dis hx.2.2
  have hFc := va_free hD hS hA isC hx.1
  refine vx_calli (vx_runSX S (hM H.size) cw ⟨SP.blind, fun U hU hW => ⟨rfl, SP.mk hK hP hD hS hA hE hN isC h1 hx.1 hU hW⟩⟩ rfl hlen hsize rfl (lv_room hWr) hdg hf) hS (fun q _ h => hFc q h) hFc (fun q _ h => hFc q h) (fun E ce q9 u t H1 locs1 ht hvm hu hB hz1 hk1 hS1 g1 g2 g3 => hu.elim) (fun r u t H1 locs1 ht hvm hp hB hz1 hk1 hS1 => ?_)
  obtain ⟨hP1, hK1, hD1⟩ := hB
  rw [ht] at hP1
  obtain ⟨hP2, hD2⟩ := va_join hP hD isC isR hx.1 hx.2.1 h2 h3 hk1 hFc hP1 hD1
  exact kk r u H1 locs1 hp hP2 hD2 hS1
end KLaw
