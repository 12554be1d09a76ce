def f0 (e : Nat) : Nat := (16 - e % 16) % 16 / 4
def f12 (e : Nat) : Nat := (28 - e % 16) % 16 / 4
theorem f_m4 {e : Nat} (h : e % 4 = 0) : e % 16 = 0 ∨ e % 16 = 4 ∨ e % 16 = 8 ∨ e % 16 = 12 := by omega
theorem f0_up {e : Nat} (h : e % 4 = 0) : e + 4 * f0 e = upN e := by
  unfold f0 upN
  rcases f_m4 h with q | q | q | q <;> rw [q] <;> simp only [Nat.reduceSub, Nat.reduceMod, Nat.reduceDiv, Nat.reduceMul] <;> omega
theorem f0_z {e : Nat} (h : e % 4 = 0) : (e + 4 * f0 e) % 16 = 0 := by
  rw [f0_up h]
  unfold upN
  omega
theorem f0_n {e : Nat} (h : e % 4 = 0) : ∀ t, t < f0 e → (e + 4 * t) % 16 ≠ 0 := by
  intro t ht
  unfold f0 at ht
  rcases f_m4 h with q | q | q | q <;> rw [q] at ht <;> simp only [Nat.reduceSub, Nat.reduceMod, Nat.reduceDiv] at ht <;> omega
theorem f0_le {e : Nat} (h : e % 4 = 0) : f0 e ≤ 3 := by
  unfold f0
  rcases f_m4 h with q | q | q | q <;> rw [q] <;> decide
theorem f12_e {e : Nat} (h : e % 4 = 0) : e + 4 * f12 e = e / 16 * 16 + 12 := by
  unfold f12
  rcases f_m4 h with q | q | q | q <;> rw [q] <;> simp only [Nat.reduceSub, Nat.reduceMod, Nat.reduceDiv, Nat.reduceMul] <;> omega
theorem f12_z {e : Nat} (h : e % 4 = 0) : (e + 4 * f12 e) % 16 = 12 := by
  rw [f12_e h]
  omega
theorem f12_n {e : Nat} (h : e % 4 = 0) : ∀ t, t < f12 e → (e + 4 * t) % 16 ≠ 12 := by
  intro t ht
  unfold f12 at ht
  rcases f_m4 h with q | q | q | q <;> rw [q] at ht <;> simp only [Nat.reduceSub, Nat.reduceMod, Nat.reduceDiv] at ht <;> omega
theorem f12_le {e : Nat} (h : e % 4 = 0) : f12 e ≤ 3 := by
  unfold f12
  rcases f_m4 h with q | q | q | q <;> rw [q] <;> decide
def mW (gp : Nat → Int32) : Nat → Int32 := fun x => gp (4 * x)
def mD (gp : Nat → Int32) (n : Nat) : Nat → Int32 := fun x => led6 gp (nI x) n
def mE (gp : Nat → Int32) (n j : Nat) : Nat := lpN (mW gp) (mD gp n) j
def mA (gp : Nat → Int32) (n j : Nat) : Nat := alN (mD gp n j) (mE gp n j)
def mF (gp : Nat → Int32) (n j : Nat) : Nat := fwN (mW gp j) (mA gp n j)
def mG1 (gp : Nat → Int32) (n j : Nat) (g0 : Nat → Int32) : Nat → Int32 := if mD gp n j = 0 then g0 else fl6 (mE gp n j) (f0 (mE gp n j)) g0
def mG2 (gp : Nat → Int32) (n j : Nat) (g0 : Nat → Int32) : Nat → Int32 := if gp (4 * j) = 15 then fl6 (mA gp n j) (f12 (mA gp n j)) g0 else (if 16 < mA gp n j % 16 + szN (mW gp j) then fl6 (mA gp n j) (f0 (mA gp n j)) g0 else g0)
def na6 (gp : Nat → Int32) (n : Nat) (gn : Nat → Int32) (j : Nat) : Nat → Int32 := fun x => if x < j then nI (mA gp n x) else gn x
theorem na6_upd {gp : Nat → Int32} {n : Nat} {gn : Nat → Int32} {j : Nat} : upd (na6 gp n gn j) j (nI (mA gp n j)) = na6 gp n gn (j + 1) := by
  funext x
  by_cases hx : x = j
  · subst hx
    rw [pk_us, na6, if_pos (Nat.lt_succ_self _)]
  · rw [pk_un hx]
    unfold na6
    by_cases h1 : x < j
    · rw [if_pos h1, if_pos (by omega)]
    · rw [if_neg h1, if_neg (by omega)]
theorem na6_0 {gp : Nat → Int32} {n : Nat} {gn : Nat → Int32} : na6 gp n gn 0 = gn := by
  funext x
  unfold na6
  rw [if_neg (by omega)]
def mMn (gp : Nat → Int32) (j : Nat) : Nat := if gp (4 * j) = 10 then 4 else (if gp (4 * j) = 11 then 4 else (if gp (4 * j) = 14 then 3 else 1))
theorem mMn_sz (gp : Nat → Int32) (j : Nat) : szN (mW gp j) = 4 * mMn gp j := by
  show szN (gp (4 * j)) = 4 * mMn gp j
  unfold szN mMn
  split
  · rfl
  · split
    · rfl
    · split
      · rfl
      · rfl
theorem mMn_is (gp : Nat → Int32) (j : Nat) : mMn gp j = 4 ∨ mMn gp j = 3 ∨ mMn gp j = 1 := by
  unfold mMn
  split
  · exact Or.inl rfl
  · split
    · exact Or.inl rfl
    · split
      · exact Or.inr (Or.inl rfl)
      · exact Or.inr (Or.inr rfl)
def dW (gp : Nat → Int32) (xB mk to : Int32) (j e : Nat) (g0 : Nat → Int32) : Nat → Int32 := if nI (mMn gp j) = 4 then (sp_X6_write_draft (sp_X6_write_draft (sp_X6_write_draft (sp_X6_write_draft g0 e 9 6 (gp (4 * j + 2)) (gp (4 * j + 3))) (e + 4) 16 6 3 255) ((e + 4) + 4) 17 6 (xB / 256) 0) (((e + 4) + 4) + 4) (gp (4 * j)) (gp (4 * j + 1)) 6 0) else (if nI (mMn gp j) = 3 then (sp_X6_write_draft (sp_X6_write_draft (sp_X6_write_draft g0 e 6 6 (gp (4 * j + 1)) (gp (4 * j + 1))) (e + 4) 16 6 (mk / 256) (mk - mk / 256 * 256)) ((e + 4) + 4) 14 6 0 0) else (if sp_X6_isPlace (gp (4 * j)) = 0 then (sp_X6_write_draft g0 e (gp (4 * j)) (gp (4 * j + 1)) (gp (4 * j + 2)) (gp (4 * j + 3))) else (if gp (4 * j) = 18 then (sp_X6_write_draft g0 e 1 (gp (4 * j + 1)) (to / 256) (to - to / 256 * 256)) else (sp_X6_write_draft g0 e (gp (4 * j)) (gp (4 * j + 1)) (to / 256) (to - to / 256 * 256)))))
def dr6 (gp : Nat → Int32) (n : Nat) (xB mk : Int32) (gn : Nat → Int32) (T : Nat → Nat) : Nat → (Nat → Int32) → Nat → Int32
  | 0, gd => gd
  | j + 1, gd => dW gp xB mk (na6 gp n gn (j + 1) (T j)) j (mF gp n j) (mG2 gp n j (mG1 gp n j (dr6 gp n xB mk gn T j gd)))
