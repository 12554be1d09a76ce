/-! new rows: arrays whose class is one of k_tys -/
theorem k_cA {U : State} {cA cB : ClassId} {ty : FieldType} (hp : ∀ C, ty ≠ .object C) (h1 : va_RA U cA ty) (h2 : va_RA U cB ty) : cA = cB := by
  cases ty with
  | object C => exact absurd rfl (hp C)
  | _ => exact Option.some.inj (Eq.trans (Eq.symm h1) h2)
section KNew
variable {p : Program} {l : Launch} {e : Env} {R : Room} {s : State} {m : MethodId} {args : Array Value} {below : List Frame} {meth : Method} {c : Code} {H : Heap} {locs : List Loc} {cells slots : Nat} {Q : State → Prop}
variable {cc : ByteArray} {rest : List Value} {pc : Nat} {ls : Array Slot} {g : KG} {A : Nat → Prop} {ws : va_W}
set_option maxHeartbeats 100000 in
theorem k_newI (hx : p.tables.exec = Jvm.exec) (hb : c.code = cc) (harr : (Cond.arrayClass .int).before args s = true) (hw : KW s H locs g A ws) {n : Int32} (N : Nat) (hn : n = nI N) (hN : N ≤ 100000) (hc : cells + 1 ≤ R.cells) (hs : slots + N ≤ R.slots) (hd : decode cc pc = .ok (.newarray .int, 2))
    (kk : ∀ (q : Nat) (H1 : Heap), va_P g.1 vwCl (ws ++ [(q, .inl (g.2.1.1, N, .inl (fun _ => 0)))]) H1 → va_D A (ws ++ [(q, .inl (g.2.1.1, N, .inl (fun _ => 0)))]) → va_S A s.heap H1 locs → W p l e R s m args below meth c H1 locs (cells + 1) (slots + N) Q (F0 m (pc + 2) ls (.ref q :: rest))) : W p l e R s m args below meth c H locs cells slots Q (F0 m pc ls (.int n :: rest)) := by
  obtain ⟨hK, hP, hD, hS, hA, hE, hN0⟩ := hw
  subst hn
  have hN1 : N < 2 ^ 31 := Nat.lt_of_le_of_lt hN (by decide)
  have hN2 : N * 4 ≤ 536870912 := Nat.le_trans (Nat.mul_le_mul_right _ hN) (by decide)
  refine va_newa (atype := .int) (ty := .int) (a0 := (N, .inl (fun _ => 0))) hx hb harr rfl hK hP hD hS hA (fun _ => rfl) (nI_pos hN1) (nI_clamp hN1) hN2 hc hs hd (fun q cA H1 hK1 hP1 hD1 hS1 => ?_)
  have e1 : cA = g.2.1.1 := k_cA (fun _ h => by cases h) (hK1.2 3 (cA, .int) rfl).2 (hK.2 0 (g.2.1.1, .int) rfl).2
  subst e1
  exact kk q H1 hP1 hD1 hS1
set_option maxHeartbeats 100000 in
theorem k_newZ (hx : p.tables.exec = Jvm.exec) (hb : c.code = cc) (harr : (Cond.arrayClass .boolean).before args s = true) (hw : KW s H locs g A ws) {n : Int32} (N : Nat) (hn : n = nI N) (hN : N ≤ 100000) (hc : cells + 1 ≤ R.cells) (hs : slots + N ≤ R.slots) (hd : decode cc pc = .ok (.newarray .boolean, 2))
    (kk : ∀ (q : Nat) (H1 : Heap), va_P g.1 vwCl (ws ++ [(q, .inl (g.2.1.2.1, N, .inl (fun _ => 0)))]) H1 → va_D A (ws ++ [(q, .inl (g.2.1.2.1, N, .inl (fun _ => 0)))]) → va_S A s.heap H1 locs → W p l e R s m args below meth c H1 locs (cells + 1) (slots + N) Q (F0 m (pc + 2) ls (.ref q :: rest))) : W p l e R s m args below meth c H locs cells slots Q (F0 m pc ls (.int n :: rest)) := by
  obtain ⟨hK, hP, hD, hS, hA, hE, hN0⟩ := hw
  subst hn
  have hN1 : N < 2 ^ 31 := Nat.lt_of_le_of_lt hN (by decide)
  have hN2 : N * 1 ≤ 536870912 := Nat.le_trans (Nat.mul_le_mul_right _ hN) (by decide)
  refine va_newa (atype := .boolean) (ty := .boolean) (a0 := (N, .inl (fun _ => 0))) hx hb harr rfl hK hP hD hS hA (fun _ => rfl) (nI_pos hN1) (nI_clamp hN1) hN2 hc hs hd (fun q cA H1 hK1 hP1 hD1 hS1 => ?_)
  have e1 : cA = g.2.1.2.1 := k_cA (fun _ h => by cases h) (hK1.2 3 (cA, .boolean) rfl).2 (hK.2 1 (g.2.1.2.1, .boolean) rfl).2
  subst e1
  exact kk q H1 hP1 hD1 hS1
set_option maxHeartbeats 100000 in
theorem k_newL (hx : p.tables.exec = Jvm.exec) (hb : c.code = cc) (harr : (Cond.arrayClass .long).before args s = true) (hw : KW s H locs g A ws) {n : Int32} (N : Nat) (hn : n = nI N) (hN : N ≤ 100000) (hc : cells + 1 ≤ R.cells) (hs : slots + N ≤ R.slots) (hd : decode cc pc = .ok (.newarray .long, 2))
    (kk : ∀ (q : Nat) (H1 : Heap), va_P g.1 vwCl (ws ++ [(q, .inl (g.2.1.2.2, N, .inr (.inl (fun _ => 0))))]) H1 → va_D A (ws ++ [(q, .inl (g.2.1.2.2, N, .inr (.inl (fun _ => 0))))]) → va_S A s.heap H1 locs → W p l e R s m args below meth c H1 locs (cells + 1) (slots + N) Q (F0 m (pc + 2) ls (.ref q :: rest))) : W p l e R s m args below meth c H locs cells slots Q (F0 m pc ls (.int n :: rest)) := by
  obtain ⟨hK, hP, hD, hS, hA, hE, hN0⟩ := hw
  subst hn
  have hN1 : N < 2 ^ 31 := Nat.lt_of_le_of_lt hN (by decide)
  have hN2 : N * 8 ≤ 536870912 := Nat.le_trans (Nat.mul_le_mul_right _ hN) (by decide)
  refine va_newa (atype := .long) (ty := .long) (a0 := (N, .inr (.inl (fun _ => 0)))) hx hb harr rfl hK hP hD hS hA (fun _ => rfl) (nI_pos hN1) (nI_clamp hN1) hN2 hc hs hd (fun q cA H1 hK1 hP1 hD1 hS1 => ?_)
  have e1 : cA = g.2.1.2.2 := k_cA (fun _ h => by cases h) (hK1.2 3 (cA, .long) rfl).2 (hK.2 2 (g.2.1.2.2, .long) rfl).2
  subst e1
  exact kk q H1 hP1 hD1 hS1
end KNew
