def fdB (a b c : Int32) (i : Nat) : Int32 := (if i < 4 then a else if i < 8 then b else c) >>> ((24 - 8 * nI (i % 4)) &&& 31) &&& 255
def fdM (mi : MI) (tp : Nat) (a b c : Int32) : Nat → MI
  | 0 => mi
  | i + 1 => upI (upI (fdM mi tp a b c i) 13 (tp + i) (fdB a b c i)) 0 17 (nI (tp + i + 1))
theorem fdM_17 {mi : MI} {tp : Nat} {a b c : Int32} (h : mi 0 17 = nI tp) : ∀ i, fdM mi tp a b c i 0 17 = nI (tp + i)
  | 0 => h
  | i + 1 => up_eq
/-- how many of the first k agree, from the first on -/
def agr (f g : Nat → Int32) : Nat → Nat
  | 0 => 0
  | k + 1 => if agr f g k = k ∧ f k = g k then k + 1 else agr f g k
theorem agr_all {f g : Nat → Int32} : ∀ k, (∀ j, j < k → f j = g j) → agr f g k = k
  | 0, _ => rfl
  | k + 1, h => if_pos ⟨agr_all k (fun j hj => h j (by omega)), h k (by omega)⟩
theorem agr_at {f g : Nat → Int32} {i : Nat} (h : ∀ j, j < i → f j = g j) (hi : ¬ f i = g i) : ∀ k, i ≤ k → agr f g k = i
  | 0, hk => by obtain rfl : i = 0 := by omega
                rfl
  | k + 1, hk => by
    rcases Nat.lt_or_ge k i with z | z
    · obtain rfl : i = k + 1 := by omega
      exact agr_all (k + 1) h
    · have h1 := agr_at h hi k z
      unfold agr
      rw [if_neg]
      · exact h1
      · rintro ⟨h2, h3⟩
        obtain rfl : i = k := by omega
        exact hi h3
def dueS (s : Rw) (q n m : Nat) (j : Nat) : Int32 := if j % 2 = 0 then nI (cntB (stdS (ngtsR s q n m (j / 2 + 1)).1 q) m) else if n = 0 then 0 else nI (gcnt (ngtsR s q n m (j / 2 + 1)).1 q m)
def chkS (wt : Rw) (due : Rw) (a b : Nat) : Int32 := if agr wt due (min a b) = a ∧ agr wt due (min a b) = b then 0 else nI (1 + agr wt due (min a b))
/-- row 1 is s2, rows 14, 15, 18 are anyone's -/
def SD (mi mi2 : MI) (s2 : Rw) : Prop := mi2 1 = s2 ∧ ∀ a, a ≠ 1 → a ≠ 14 → a ≠ 15 → a ≠ 18 → mi2 a = mi a
theorem SD.rf {mi : MI} {s : Rw} (h : mi 1 = s) : SD mi mi s := ⟨h, fun _ _ _ _ _ => rfl⟩
theorem SD.sr {a b c : MI} {s s2 : Rw} (h : SD a b s) (h2 : SR b c s2) : SD a c s2 := ⟨h2.1, fun x h3 h4 h5 h6 => (h2.2 x h3 h4 h5).trans (h.2 x h3 h4 h5 h6)⟩
theorem SD.sb {a b c : MI} {s : Rw} (h : SD a b s) (h2 : SB b c) : SD a c s := ⟨h2.r1.trans h.1, fun x h3 h4 h5 h6 => (h2 x h4 h5).trans (h.2 x h3 h4 h5 h6)⟩
theorem SD.up {a b : MI} {s : Rw} (h : SD a b s) {k : Nat} {v : Int32} : SD a (upI b 18 k v) s := ⟨by rw [upI_ne (by decide)]; exact h.1, fun x h3 h4 h5 h6 => (upI_ne h6).trans (h.2 x h3 h4 h5 h6)⟩
theorem due_r {s : Rw} {q n m i : Nat} : dueS s q n m (2 * i) = nI (cntB (stdS (ngtsR s q n m (i + 1)).1 q) m) ∧ dueS s q n m (2 * i + 1) = if n = 0 then 0 else nI (gcnt (ngtsR s q n m (i + 1)).1 q m) := by
  constructor
  · unfold dueS; rw [if_pos (by omega), show 2 * i / 2 = i by omega]
  · unfold dueS; rw [if_neg (by omega), show (2 * i + 1) / 2 = i by omega]
