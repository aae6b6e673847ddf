def runE (P : Nat → Bool) : Nat → Nat → Nat
  | 0, b => b
  | f + 1, b => if P b then runE P f (b + 1) else b
def rnE (P : Nat → Bool) (b : Nat) : Nat := runE P (96 - b) b
theorem rnE_f {P : Nat → Bool} {c : Nat} (h : P c = false) : rnE P c = c := by
  unfold rnE
  cases 96 - c with
  | zero => rfl
  | succ k => simp [runE, h]
theorem rnE_t {P : Nat → Bool} {c : Nat} (h : P c = true) (hc : c < 96) : rnE P c = rnE P (c + 1) := by
  unfold rnE
  rw [show 96 - c = (96 - (c + 1)) + 1 by omega]
  simp [runE, h]
theorem runE_le {P : Nat → Bool} {tp : Nat} (hP : ∀ c, P c = true → c < tp) : ∀ f c, c ≤ tp → c ≤ runE P f c ∧ runE P f c ≤ tp
  | 0, c, h => ⟨Nat.le_refl _, h⟩
  | f + 1, c, h => by
    unfold runE
    split
    · rename_i hp
      have := hP c hp
      have := runE_le hP f (c + 1) (by omega)
      omega
    · exact ⟨Nat.le_refl _, h⟩
theorem rnE_le {P : Nat → Bool} {tp c : Nat} (hP : ∀ c, P c = true → c < tp) (h : c ≤ tp) : c ≤ rnE P c ∧ rnE P c ≤ tp := runE_le hP _ c h
def blB (tp : Nat) (T : Rw) (i : Nat) : Bool := decide (i < tp) && decide (T i = 32)
def numT (T : Rw) (b : Nat) : Nat → Int32
  | 0 => 0
  | k + 1 => if k < 4 then 10 * numT T b k + T (b + k) - 48 else numT T b k
theorem ltB_lt {tp : Nat} {T : Rw} : ∀ c, ltB tp T c = true → c < tp := fun c h => by unfold ltB at h; simp only [Bool.and_eq_true, decide_eq_true_eq] at h; exact h.1
theorem dgB_lt {tp : Nat} {T : Rw} : ∀ c, dgB tp T c = true → c < tp := fun c h => by unfold dgB at h; simp only [Bool.and_eq_true, decide_eq_true_eq] at h; exact h.1
theorem blB_lt {tp : Nat} {T : Rw} : ∀ c, blB tp T c = true → c < tp := fun c h => by unfold blB at h; simp only [Bool.and_eq_true, decide_eq_true_eq] at h; exact h.1
theorem uu {mi : MI} {a k : Nat} {v w : Int32} : upI (upI mi a k v) a k w = upI mi a k w := by
  funext x j
  by_cases hx : x = a
  · subst hx
    by_cases hj : j = k
    · subst hj; rw [up_eq, up_eq]
    · rw [up_ne hj, up_ne hj, up_ne hj]
  · rw [upI_ne hx, upI_ne hx, upI_ne hx]
theorem us {mi : MI} {a k : Nat} {v : Int32} (h : mi a k = v) : upI mi a k v = mi := by
  funext x j
  by_cases hx : x = a
  · subst hx
    by_cases hj : j = k
    · subst hj; rw [up_eq, h]
    · rw [up_ne hj]
  · rw [upI_ne hx]
theorem ux {mi : MI} {a k j : Nat} {v w : Int32} (h : k ≠ j) : upI (upI mi a k v) a j w = upI (upI mi a j w) a k v := by
  funext x i
  by_cases hx : x = a
  · subst hx
    by_cases hj : i = j
    · subst hj; rw [up_eq, up_ne (Ne.symm h), up_eq]
    · rw [up_ne hj]
      by_cases hk : i = k
      · subst hk; rw [up_eq, up_eq]
      · rw [up_ne hk, up_ne hk, up_ne hj]
  · rw [upI_ne hx, upI_ne hx, upI_ne hx, upI_ne hx]
/-- the state behind a token: begin, behind, token, number, letter -/
abbrev Tok : Type := Nat × Nat × Int32 × Int32 × Int32
def Tok.b (t : Tok) : Nat := t.1
def Tok.e (t : Tok) : Nat := t.2.1
def Tok.k (t : Tok) : Int32 := t.2.2.1
def Tok.nu (t : Tok) : Int32 := t.2.2.2.1
def Tok.le (t : Tok) : Int32 := t.2.2.2.2
def TkP (mi mi2 : MI) (t : Tok) : Prop := (∀ a, a ≠ 0 → mi2 a = mi a) ∧ mi2 0 18 = nI (Tok.b t) ∧ mi2 0 19 = nI (Tok.e t) ∧ mi2 0 20 = Tok.k t ∧ (Tok.k t = 2 → mi2 0 21 = Tok.nu t) ∧ (Tok.k t = 1 ∨ Tok.k t = 3 → mi2 0 22 = Tok.le t) ∧ ∀ j, (j < 18 ∨ 22 < j) → mi2 0 j = mi 0 j
/-- the next token from place e, behind a token of sort k -/
def glu (e : Nat) (k : Int32) : Bool := decide (0 < e) && (decide (k = 1) || decide (k = 2))
def nxT (tp : Nat) (T : Rw) (e : Nat) (k : Int32) : Tok :=
  if rnE (blB tp T) e = tp then ⟨tp, tp, 0, 0, 0⟩
  else if ltB tp T (rnE (blB tp T) e) = true then
    ⟨rnE (blB tp T) e, rnE (ltB tp T) (rnE (blB tp T) e), if glu e k = true ∧ e = rnE (blB tp T) e then 4 else 1, 0, if rnE (ltB tp T) (rnE (blB tp T) e) - rnE (blB tp T) e = 1 then T (rnE (blB tp T) e) else 0⟩
  else if dgB tp T (rnE (blB tp T) e) = true then
    ⟨rnE (blB tp T) e, rnE (dgB tp T) (rnE (blB tp T) e), if (glu e k = true ∧ e = rnE (blB tp T) e) ∨ 4 < rnE (dgB tp T) (rnE (blB tp T) e) - rnE (blB tp T) e then 4 else 2, numT T (rnE (blB tp T) e) (rnE (dgB tp T) (rnE (blB tp T) e) - rnE (blB tp T) e), 0⟩
  else ⟨rnE (blB tp T) e, rnE (blB tp T) e + 1, 3, 0, T (rnE (blB tp T) e)⟩
