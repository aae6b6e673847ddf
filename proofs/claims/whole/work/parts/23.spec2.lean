/-! TEXTS as rows of steps -/
def stW (s : Rw) (t k : Nat) : Int32 := s (80 + 200 * t + 4 + 2 * k)
def stV (s : Rw) (t k : Nat) : Int32 := s (80 + 200 * t + 4 + 2 * k + 1)
def depT (s : Rw) (t : Nat) : Nat → Nat
  | 0 => 0
  | k + 1 => if stW s t k = 2 then (if stV s t k = 33 then depT s t k else depT s t k - 1) else depT s t k + 1
def jn (c x y : Int32) : Int32 :=
  if c = 43 then x + y else if c = 45 then x - y else if c = 42 then x * y
  else if c = 47 then (if y = 0 then 0 else if y = -1 then -x else x / y)
  else if c = 60 then (if y ≤ x then 0 else 1) else if c = 62 then (if x ≤ y then 0 else 1) else if c = 61 then (if x = y then 1 else 0)
  else if c = 38 then (if x = 0 then 0 else if y = 0 then 0 else 1) else (if x = 0 then (if y = 0 then 0 else 1) else 1)
def sgOK (c : Int32) : Prop := c = 43 ∨ c = 45 ∨ c = 42 ∨ c = 47 ∨ c = 60 ∨ c = 61 ∨ c = 62 ∨ c = 38 ∨ c = 124
def nmOK (key : Int32) (j : Nat) : Prop := (key = 0 ∧ (j = 104 ∨ j = 112)) ∨ (key = 1 ∧ (j = 115 ∨ j = 108 ∨ j = 100)) ∨ (key = 2 ∧ (j = 109 ∨ j = 110))
def cT (s : Rw) (t : Nat) : Nat := (s (80 + 200 * t + 2)).toNatClampNeg
def stOK (s : Rw) (t k : Nat) : Prop := stW s t k = 0 ∨ (stW s t k = 1 ∧ ∃ j, j < 128 ∧ stV s t k = nI j ∧ nmOK (s (80 + 200 * t)) j) ∨ (stW s t k = 2 ∧ ((stV s t k = 33 ∧ 1 ≤ depT s t k) ∨ (sgOK (stV s t k) ∧ 2 ≤ depT s t k)))
def WFt (s : Rw) (t : Nat) : Prop := s (80 + 200 * t + 2) = nI (cT s t) ∧ cT s t ≤ 96 ∧ 1 ≤ depT s t (cT s t) ∧ ∀ k, k < cT s t → stOK s t k
def ntI (x : Int32) : Int32 := if x = 0 then 1 else 0
def stL (nm : Rw) (w v : Int32) (l : List Int32) : List Int32 :=
  if w = 2 then (if v = 33 then l.set (l.length - 1) (ntI (l.getD (l.length - 1) 0)) else l.dropLast.set (l.length - 2) (jn v (l.getD (l.length - 2) 0) (l.getD (l.length - 1) 0)))
  else l ++ [if w = 0 then v else nm v.toNatClampNeg]
def runL (s : Rw) (t : Nat) (nm : Rw) : Nat → List Int32
  | 0 => []
  | k + 1 => stL nm (stW s t k) (stV s t k) (runL s t nm k)
theorem runL_len (s : Rw) (t : Nat) (nm : Rw) : ∀ k, (runL s t nm k).length = depT s t k
  | 0 => rfl
  | k + 1 => by
    have ih := runL_len s t nm k
    simp only [runL, depT, stL]
    split
    · split
      · simp [ih]
      · simp [ih]
    · simp [ih]
theorem depT_le (s : Rw) (t : Nat) : ∀ k, depT s t k ≤ k
  | 0 => Nat.le_refl 0
  | k + 1 => by
    have ih := depT_le s t k
    simp only [depT]
    split
    · split <;> omega
    · omega
theorem pl_push {p : Rw} {l : List Int32} {n : Nat} {x : Int32} (hl : l.length = n) (hp : ∀ i, i < n → p i = l.getD i 0) : ∀ i, i < n + 1 → upd p n x i = (l ++ [x]).getD i 0 := by
  intro i hi
  by_cases h : i = n
  · subst h
    simp [upd, List.getD_eq_getElem?_getD, ← hl]
  · have h2 : i < n := by omega
    simp only [upd, h, if_false, if_neg]
    rw [hp i h2, List.getD_eq_getElem?_getD, List.getD_eq_getElem?_getD, List.getElem?_append_left (by omega)]
theorem pl_set {p : Rw} {l : List Int32} {n j : Nat} {x : Int32} (hl : l.length = n) (hp : ∀ i, i < n → p i = l.getD i 0) (hj : j < n) : ∀ i, i < n → upd p j x i = (l.set j x).getD i 0 := by
  intro i hi
  by_cases h : i = j
  · subst h
    simp [upd, List.getD_eq_getElem?_getD, hl, hi]
  · simp only [upd, h, if_false, if_neg]
    rw [hp i hi, List.getD_eq_getElem?_getD, List.getD_eq_getElem?_getD, List.getElem?_set_ne (Ne.symm h)]
theorem pl_bin {p : Rw} {l : List Int32} {n : Nat} {x : Int32} (hl : l.length = n) (hp : ∀ i, i < n → p i = l.getD i 0) (hn : 2 ≤ n) : ∀ i, i < n - 1 → upd p (n - 2) x i = (l.dropLast.set (n - 2) x).getD i 0 := by
  refine pl_set (by simp [hl]) (fun i hi => ?_) (by omega)
  rw [hp i (by omega), List.getD_eq_getElem?_getD, List.getD_eq_getElem?_getD, List.getElem?_dropLast]
  simp [hl, hi]
/-- the row a of the world alone may have changed -/
def SP (a0 : Nat) (mi mi2 : MI) : Prop := ∀ a, a ≠ a0 → mi2 a = mi a
/-- .. what texts are worked out with -/
def SB (mi mi2 : MI) : Prop := ∀ a, a ≠ 14 → a ≠ 15 → mi2 a = mi a
theorem SB.rf (mi : MI) : SB mi mi := fun _ _ _ => rfl
theorem SB.tr {a b c : MI} (h : SB a b) (h2 : SB b c) : SB a c := fun x h3 h4 => (h2 x h3 h4).trans (h x h3 h4)
theorem SB.r1 {a b : MI} (h : SB a b) : b 1 = a 1 := h 1 (by decide) (by decide)
theorem sub1 {n : Nat} (h : 1 ≤ n) : nI n - 1 = nI (n - 1) := pk_sub (b := 1) h
theorem subm1 {n : Nat} (h : 1 ≤ n) : nI n + (-1) = nI (n - 1) := by
  obtain ⟨m, rfl⟩ : ∃ m, n = m + 1 := ⟨n - 1, by omega⟩
  exact pk_m1 m
/-- runs of a text with names that agree where it asks are the same -/
theorem runL_cong {s : Rw} {t c : Nat} {nm nm2 : Rw} (hw : ∀ k, k < c → stOK s t k) (h : ∀ j, nmOK (s (80 + 200 * t)) j → nm j = nm2 j) : ∀ k, k ≤ c → runL s t nm k = runL s t nm2 k
  | 0, _ => rfl
  | k + 1, hk => by
    have ih := runL_cong hw h k (by omega)
    have h1 := hw k (by omega)
    simp only [runL, ih, stL]
    rcases h1 with h1 | ⟨h1, j, hj, hv, hn⟩ | ⟨h1, -⟩
    · rw [h1]; rfl
    · rw [h1, hv, nI_clamp (by omega), h j hn]
    · rw [h1]; rfl
def envL (h p : Int32) : Rw := fun j => if j = 104 then h else if j = 112 then p else 0
def envM (s l d : Int32) : Rw := fun j => if j = 115 then s else if j = 108 then l else if j = 100 then d else 0
def envT (m n : Int32) : Rw := fun j => if j = 109 then m else if j = 110 then n else 0
/-- what text t gives with the names nm -/
def givT (s : Rw) (t : Nat) (nm : Rw) : Int32 := (runL s t nm (cT s t)).getD 0 0
/-- the last of the first q texts with a key, or -1 -/
def lstT (s : Rw) (q : Nat) (key : Int32) : Int32 := lastB (fun t => decide (s (80 + 200 * t) = key)) q
theorem lastB_cases (f : Nat → Bool) : ∀ n, lastB f n = -1 ∨ ∃ t, t < n ∧ lastB f n = nI t ∧ f t = true
  | 0 => Or.inl rfl
  | n + 1 => by
    simp only [lastB]
    by_cases h : f n = true
    · rw [if_pos h]
      exact Or.inr ⟨n, by omega, rfl, h⟩
    · rw [if_neg h]
      rcases lastB_cases f n with h1 | ⟨t, h1, h2, h3⟩
      · exact Or.inl h1
      · exact Or.inr ⟨t, by omega, h2, h3⟩
def lenS (s : Rw) (q a b : Nat) : Int32 :=
  if lstT s q 0 < 0 then apartS (hgt s a) (hgt s b) + apartS (plc s a) (plc s b)
  else clampT (givT s (lstT s q 0).toNatClampNeg (envL (apartS (hgt s a) (hgt s b)) (apartS (plc s a) (plc s b)))) 999
def strgS (s : Rw) (q p l : Nat) : Bool :=
  if lstT s q 1 < 0 then decide (lng s l ≤ stg s p)
  else !decide (givT s (lstT s q 1).toNatClampNeg (envM (stg s p) (lng s l) (s 4)) = 0)
def tollS (s : Rw) (q : Nat) (m n : Int32) : Int32 :=
  if lstT s q 2 < 0 then m else givT s (lstT s q 2).toNatClampNeg (envT m n)
