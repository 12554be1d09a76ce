/-! methods that may throw: the world stays as it was -/
abbrev kXC (g : KG) (A : Nat → Prop) (w : va_W) (PE : String → Prop) : String → State → State → Prop := vx_X (fun u : va_W => u = w) (fun E u t => PE E ∧ SB g A u t) A
abbrev CiX (l : Launch) (g : KG) (y : MethodName) (ws : List Cond) (rm : Room) (av : List Value) (w : va_W) (post : Int32 → va_W → Prop) (PE : String → Prop) (mc ms : Nat) : Prop := ∀ sz, vx_Met l y ws rm (va_Pc av (SP g w sz)) (va_Qi post (SB g (va_A w sz)) (va_A w sz)) (kXC g (va_A w sz) w PE) mc ms (va_A w sz)
abbrev CvX (l : Launch) (g : KG) (y : MethodName) (ws : List Cond) (rm : Room) (av : List Value) (w : va_W) (post : va_W → Prop) (PE : String → Prop) (mc ms : Nat) : Prop := ∀ sz, vx_Met l y ws rm (va_Pc av (SP g w sz)) (va_Qv post (SB g (va_A w sz)) (va_A w sz)) (kXC g (va_A w sz) w PE) mc ms (va_A w sz)
abbrev kNs : List String := ["java/lang/RuntimeException", "java/lang/Exception"]
section KThr
variable {p : Program} {l : Launch} {e : Env} {R : Room} {s : State} {m : MethodId} {args : Array Value} {below : List Frame} {meth : Method} {c : Code} {H : Heap} {locs : List Loc} {cells slots : Nat}
variable {cc : ByteArray} {rest : List Value} {pc : Nat} {ls : Array Slot} {g : KG} {A : Nat → Prop} {ws : va_W} {Qc : Array Value → State → Outcome → State → Prop}
theorem k_thr {cls text : String} {ik is ic mc ms : Nat} {PE : String → Prop} (hx : p.tables.exec = Jvm.exec) (hb : c.code = cc) (hl : l.stackTraces = false) (hown : s.vm.findClass RX5 = some m.cls) (hcls : Bundle.fit cls = true)
    (hk : (Cond.classLink RX5 ik cls).before args s = true) (hini : (Cond.initialized cls).before args s = true) (hstr : ∃ sa, vk_R RX5 is text sa s) (hat : ∀ w ∈ vx_atS RX5 ic cls kNs, w.before args s = true)
    (hgood : ∀ w ∈ Cond.classLink RX5 ik cls :: Cond.initialized cls :: vx_atS RX5 ic cls kNs, vx_ot w = true) (hw : KW s H locs g A ws) (hsize : ls.size = c.maxLocals)
    (d0 : decode cc pc = .ok (.new ik, 3)) (d3 : decode cc (pc + 3) = .ok (.dup, 1)) (d4 : decode cc (pc + 4) = .ok (.ldc is, 2)) (d6 : decode cc (pc + 6) = .ok (.invokespecial ic, 3)) (d9 : decode cc (pc + 9) = .ok (.athrow, 1))
    (ht : ∀ x ∈ c.exceptionTable.toList, False) (hRframes : 6 ≤ R.frames) (hRlocals : (rest.map fun v => v.category).sum + 82 ≤ R.locals) (hRcells : cells + 1 ≤ R.cells) (hRslots : slots + 6 ≤ R.slots) (hlocks : meth.locks = false) (hPE : PE cls) (hc : cells + 1 ≤ mc) (hs : slots + 6 ≤ ms) :
    W p l e R s m args below meth c H locs cells slots (vx_MQ below Qc (kXC g A ws PE) args s mc ms A) (F0 m pc ls rest) := by
  obtain ⟨hK, hP, hD, hS, hA, hE, hN⟩ := hw
  obtain ⟨sa, hst⟩ := hstr
  refine vx_throwS (names := kNs) hx hb hl hown hcls (by decide +kernel) hk hini hst hat hgood hE.2.2.1 hE.2.2.2 hS hsize d0 d3 d4 d6 d9 (fun x h => (ht x h).elim) (by show 2 + 3 < R.frames; omega) (by show _ + (13 * 3 + 43) ≤ R.locals; omega) hRcells hRslots hlocks ?_ hS.2.2 hc hs
  intro t hvm hz hk
  refine ⟨ws, rfl, ⟨hPE, hP.kept (fun k q hq => hk q.1 ((hP k q hq).lt)), va_K.moved hvm hK, hD⟩, Nat.le_trans hS.1 hz, fun q h1 h2 => ?_⟩
  rw [hk q (Nat.lt_of_lt_of_le h1 hS.1)]
  exact hS.2.1 q h1 h2
end KThr
theorem k_hat {args : Array Value} {s : State} {ic : Nat} {cls : String} (h1 : ∀ w ∈ (vx_atS RX5 ic cls kNs).filter goodWord, w.before args s = true) (h2 : ∀ w ∈ (vx_atS RX5 ic cls kNs).filter (fun w => !goodWord w), w ∈ Cond.castable cls cls :: kDs.map Cond.declares) (h3 : va_Nw (.castable cls cls) s) (hN : kN s) : ∀ w ∈ vx_atS RX5 ic cls kNs, w.before args s = true :=
  vx_hat h1 h2 (vx_c (va_Nw.use rfl h3) (fun w hw => by
    obtain ⟨q, hq, rfl⟩ := List.mem_map.mp hw
    exact va_Nw.use rfl (hN.2.2.2.2.2 q hq)))
theorem k_ng56 : ∀ w ∈ (vx_atS RX5 56 kIA kNs).filter (fun w => !goodWord w), w ∈ Cond.castable kIA kIA :: kDs.map Cond.declares := by decide +kernel
theorem k_ng67 : ∀ w ∈ (vx_atS RX5 67 kIS kNs).filter (fun w => !goodWord w), w ∈ Cond.castable kIS kIS :: kDs.map Cond.declares := by decide +kernel
theorem k_gd56 : ∀ w ∈ Cond.classLink RX5 52 kIA :: Cond.initialized kIA :: vx_atS RX5 56 kIA kNs, vx_ot w = true := by decide +kernel
theorem k_gd67 : ∀ w ∈ Cond.classLink RX5 63 kIS :: Cond.initialized kIS :: vx_atS RX5 67 kIS kNs, vx_ot w = true := by decide +kernel
