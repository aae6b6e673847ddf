def wM (s : Rw) (l : Nat) : Nat := (mntN s l (tN s l) (fN s l)).toNatClampNeg
theorem minK_ok : ∀ k, k < 6 → ∀ r, r < 100 → minK (nI k) (nI r / 5 + 1) = nI (minK (nI k) (nI r / 5 + 1)).toNatClampNeg ∧ (minK (nI k) (nI r / 5 + 1)).toNatClampNeg ≤ 40 := by decide +kernel
theorem riseN_ok {s : Rw} {n m p q a b : Nat} (hI : Inv s n m p q) (ha : a < n) (hb : b < n) : ∃ r, r < 100 ∧ riseN s a b = nI r := by
  obtain ⟨x, hx, ex⟩ := inB_of (hi := 99) (hI.hp ha).1
  obtain ⟨y, hy, ey⟩ := inB_of (hi := 99) (hI.hp hb).1
  unfold riseN
  rw [ex, ey]
  rcases Nat.lt_or_ge x y with h | h
  · rw [if_neg]
    · exact ⟨0, by omega, rfl⟩
    · exact (by decide +kernel : ∀ x, x < 100 → ∀ y, y < 100 → x < y → ¬ (0 : Int32) ≤ nI x - nI y) x (by omega) y (by omega) h
  · rw [pk_sub h, if_pos (nI_pos' (by omega))]
    exact ⟨x - y, by omega, rfl⟩
theorem wM_ok {s : Rw} {n m p q l : Nat} (hI : Inv s n m p q) (hl : l < m) : mntN s l (tN s l) (fN s l) = nI (wM s l) ∧ wM s l ≤ 40 := by
  obtain ⟨r, hr, er⟩ := riseN_ok hI (hI.tn hl) (hI.fn hl)
  have hk : knd s l = nI (kN s l) := hI.k hl
  unfold wM mntN
  rw [er, hk]
  exact minK_ok _ (hI.k6 hl) r hr
def updN (D : Nat → Nat) (k v : Nat) : Nat → Nat := fun j => if j = k then v else D j
theorem updN_s {D : Nat → Nat} {k v : Nat} : updN D k v k = v := by simp [updN]
theorem updN_n {D : Nat → Nat} {k v j : Nat} (h : j ≠ k) : updN D k v j = D j := by simp [updN, h]
def smD (D : Nat → Nat) : Nat → Nat
  | 0 => 0
  | k + 1 => smD D k + D k
theorem smD_le {D D' : Nat → Nat} (h : ∀ j, D' j ≤ D j) : ∀ k, smD D' k ≤ smD D k
  | 0 => Nat.le_refl _
  | k + 1 => Nat.add_le_add (smD_le h k) (h k)
theorem smD_lt {D D' : Nat → Nat} {y : Nat} (h : ∀ j, D' j ≤ D j) (hy : D' y < D y) : ∀ k, y < k → smD D' k < smD D k
  | 0, q => absurd q (Nat.not_lt_zero _)
  | k + 1, q => by
    show smD D' k + D' k < smD D k + D k
    have := h k
    have := smD_le h k
    rcases Nat.lt_or_ge y k with z | z
    · have := smD_lt h hy k z
      omega
    · obtain rfl : y = k := by omega
      omega
section
variable {E : Nat → Bool} {f t w : Nat → Nat} {m a c : Nat}
def FrI (E : Nat → Bool) (f t w : Nat → Nat) (m a c : Nat) (D0 D : Nat → Nat) (i : Nat) (fl : Int32) : Prop :=
  D a = 0 ∧ (∀ b, SnD E f t w m a c D b) ∧ ((fl = 0 ∧ D = D0 ∧ ∀ l, l < i → E l = true → D (t l) ≤ D (f l) + (c * w l + 1) ∧ D (f l) ≤ D (t l) + (c * w l + 1)) ∨ (fl = 1 ∧ smD D 10 < smD D0 10))
theorem FrI.up {D0 D : Nat → Nat} {i l x y : Nat} {fl : Int32} (h : FrI E f t w m a c D0 D i fl) (hl : l < m) (hE : E l = true) (hd : (x = f l ∧ y = t l) ∨ (x = t l ∧ y = f l)) (hy : y < 10) (hlt : D x + (c * w l + 1) < D y) (i' : Nat) : FrI E f t w m a c D0 (updN D y (D x + (c * w l + 1))) i' 1 := by
  obtain ⟨h0, h1, h2⟩ := h
  have hne : a ≠ y := by intro q; rw [← q, h0] at hlt; omega
  have hfar := (h1 y).le
  refine ⟨by rw [updN_n hne, h0], fun b => ?_, Or.inr ⟨rfl, ?_⟩⟩
  · by_cases hb : b = y
    · obtain ⟨e, M, h3, h4⟩ := snd_st (b := y) hl hE hd (h1 x) (by omega)
      subst hb
      exact Or.inr ⟨by rw [updN_s]; omega, e, M, h3, by rw [updN_s]; exact h4⟩
    · have h3 := h1 b
      unfold SnD
      rw [updN_n hb]
      exact h3
  · have h4 : smD (updN D y (D x + (c * w l + 1))) 10 < smD D 10 := smD_lt (fun j => by by_cases hj : j = y; (· subst hj; rw [updN_s]; omega); (· rw [updN_n hj]; exact Nat.le_refl _)) (by rw [updN_s]; exact hlt) 10 hy
    rcases h2 with h2 | h2
    · rw [← h2.2.1]; exact h4
    · omega
theorem FrI.no {D0 D : Nat → Nat} {i : Nat} {fl : Int32} (h : FrI E f t w m a c D0 D i fl) (hx : E i = true → D (t i) ≤ D (f i) + (c * w i + 1) ∧ D (f i) ≤ D (t i) + (c * w i + 1)) : FrI E f t w m a c D0 D (i + 1) fl := by
  refine ⟨h.1, h.2.1, h.2.2.imp (fun q => ⟨q.1, q.2.1, fun l hl hE => ?_⟩) id⟩
  rcases Nat.lt_or_ge l i with z | z
  · exact q.2.2 l z hE
  · obtain rfl : l = i := by omega
    exact hx hE
end
def SF (mi mi2 : MI) : Prop := ∀ a, a ≠ 12 → a ≠ 14 → a ≠ 15 → mi2 a = mi a
theorem SF.rf (mi : MI) : SF mi mi := fun _ _ _ _ => rfl
theorem SF.tr {a b c : MI} (h : SF a b) (h2 : SF b c) : SF a c := fun x h3 h4 h5 => (h2 x h3 h4 h5).trans (h x h3 h4 h5)
theorem SB.sf {a b : MI} (h : SB a b) : SF a b := fun x _ h4 h5 => h x h4 h5
theorem SF.r1 {a b : MI} (h : SF a b) : b 1 = a 1 := h 1 (by decide) (by decide) (by decide)
theorem SF.up {a b : MI} (h : SF a b) {k : Nat} {v : Int32} : SF a (upI b 12 k v) := fun x h3 h4 h5 => (upI_ne h3).trans (h x h3 h4 h5)
theorem far_up {mi : MI} {D : Nat → Nat} {y v : Nat} (h : ∀ j, j < 10 → mi 12 j = nI (D j)) : ∀ j, j < 10 → upI mi 12 y (nI v) 12 j = nI (updN D y v j) := by
  intro j hj
  by_cases q : j = y
  · subst q; rw [up_eq, updN_s]
  · rw [up_ne q, updN_n q]; exact h j hj
theorem far_sb {a b : MI} {D : Nat → Nat} (h : SB a b) (h2 : ∀ j, j < 10 → a 12 j = nI (D j)) : ∀ j, j < 10 → b 12 j = nI (D j) := fun j hj => by rw [h 12 (by decide) (by decide)]; exact h2 j hj
/-- how far from ledge a, by hundreds -/
def farS (s : Rw) (q m a : Nat) : Nat → Nat := dS (stdS s q) (fN s) (tN s) (wM s) m a 100
