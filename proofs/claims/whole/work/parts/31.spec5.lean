/-! SHEETS, SLOTS, IMAGES over the model's rows -/
def zr24 (mi : MI) (k : Nat) : Nat → MI
  | 0 => mi
  | i + 1 => upI (zr24 mi k i) 6 (24 * k + i) 0
theorem zr24_o {mi : MI} {k a : Nat} (h : a ≠ 6) : ∀ i, zr24 mi k i a = mi a
  | 0 => rfl
  | i + 1 => (upI_ne h).trans (zr24_o h i)
def pourV (s pl : Rw) (b : Nat) : Int32 := if pl b = NONEc then hgt s b else clampT (pl b) 99
def pourR (s pl : Rw) : Nat → Rw × Nat
  | 0 => (s, 0)
  | b + 1 => (upd (pourR s pl b).1 (8 + 2 * b) (pourV s pl b), (pourR s pl b).2 + (if pourV s pl b = hgt s b then 0 else 1))
theorem pourR_o {s pl : Rw} {k : Nat} : ∀ b, (∀ i, i < b → k ≠ 8 + 2 * i) → (pourR s pl b).1 k = s k
  | 0, _ => rfl
  | b + 1, h => by
    show upd (pourR s pl b).1 (8 + 2 * b) _ k = s k
    rw [upd_n (h b (by omega))]
    exact pourR_o b (fun i hi => h i (by omega))
theorem pourR_le (s pl : Rw) : ∀ b, (pourR s pl b).2 ≤ b
  | 0 => Nat.le_refl _
  | b + 1 => by
    have := pourR_le s pl b
    show (pourR s pl b).2 + _ ≤ _
    split <;> omega
def cp2 (mi : MI) (a b i : Nat) : MI := fun x => if x = b then (fun k => if k < i then mi a k else mi b k) else mi x
theorem cp2_0 (mi : MI) (a b : Nat) : cp2 mi a b 0 = mi := by
  funext x
  unfold cp2
  by_cases h : x = b
  · subst h; simp
  · simp [h]
theorem cp2_s (mi : MI) {a b : Nat} (i : Nat) : upI (cp2 mi a b i) b i (mi a i) = cp2 mi a b (i + 1) := by
  funext x
  by_cases h : x = b
  · subst h
    funext k
    simp only [upI, cp2, upd, if_true]
    by_cases hk : k = i
    · subst hk; simp
    · have : (k < i + 1) = (k < i) := by apply propext; omega
      simp [hk, this]
  · simp [upI, cp2, h]
theorem cp2_a {mi : MI} {a b i : Nat} (h : a ≠ b) : cp2 mi a b i a = mi a := by simp [cp2, h]
/-- places x .. x + c - 1 lie in a row of z -/
def ixOK (x c : Int32) (z : Nat) : Bool := decide (0 ≤ x.toInt ∧ 0 ≤ c.toInt ∧ x.toInt + c.toInt ≤ z)
theorem ixOK_of {x c : Int32} {z : Nat} (h : ixOK x c z = true) : ∃ a e, x = nI a ∧ c = nI e ∧ a + e ≤ z := by
  simp only [ixOK, decide_eq_true_eq] at h
  have r1 := Int32.toInt_lt x
  have r2 := Int32.toInt_lt c
  refine ⟨x.toInt.toNat, c.toInt.toNat, ?_, ?_, by omega⟩
  · apply Int32.toInt_inj.mp; rw [nI_toInt (by omega)]; omega
  · apply Int32.toInt_inj.mp; rw [nI_toInt (by omega)]; omega
theorem i64_sum {x c : Int32} (y : Int32) : (x.toInt64 + c.toInt64 ≤ y.toInt64) ↔ x.toInt + c.toInt ≤ y.toInt := by
  have r1 := Int32.toInt_lt x
  have r2 := Int32.toInt_lt c
  have r3 := Int32.le_toInt x
  have r4 := Int32.le_toInt c
  have e1 : x.toInt64.toInt = x.toInt := by simp
  have e2 : c.toInt64.toInt = c.toInt := by simp
  have e3 : y.toInt64.toInt = y.toInt := by simp
  rw [Int64.le_iff_toInt_le, Int64.toInt_add, e1, e2, e3, Int.bmod_eq_of_le (by omega) (by omega)]
/-- the places of a row, with c of them laid at b from a on -/
def cpyP (f : Rw) (a b c : Nat) : Rw := fun j => if b ≤ j ∧ j < b + c then f (a + (j - b)) else f j
def ldHeld (mi : MI) (u th : Nat) (num wth : Int32) : MI := upI (upI (upI mi 7 u (nI th)) 8 u num) 9 u wth
def ldRow (mi : MI) (u k : Nat) : Nat → MI
  | 0 => mi
  | i + 1 => upI (ldRow mi u k i) 11 (24 * u + i) (mi 6 (24 * k + i))
theorem ldRow_o {mi : MI} {u k a : Nat} (h : a ≠ 11) : ∀ i, ldRow mi u k i a = mi a
  | 0 => rfl
  | i + 1 => (upI_ne h).trans (ldRow_o h i)
