/-! WAYS in the class, over rows -/
/-- what ways look at: the town at b with tops as in s -/
def WS (mi : MI) (b : Nat) (s : Rw) (n m q : Nat) : Prop := (mi b 1 = nI n ∧ mi b 4 = nI m) ∧ (∀ l, l < m → mi 45 l = bitsB (rchS s q l) n) ∧ (∀ l, l < m → mi 46 l = nI (tN s l)) ∧ (∀ l, l < m → mi (b + 5) l = nI (fN s l)) ∧ (∀ l, l < m → fN s l < n ∧ tN s l < n) ∧ n ≤ 10 ∧ m ≤ 8
section
variable {mi mi2 : MI} {b : Nat} {s : Rw} {n m q : Nat}
theorem WS.en (h : WS mi b s n m q) : mi b 1 = nI n := h.1.1
theorem WS.em (h : WS mi b s n m q) : mi b 4 = nI m := h.1.2
theorem WS.r (h : WS mi b s n m q) {l : Nat} (hl : l < m) : mi 45 l = bitsB (rchS s q l) n := h.2.1 l hl
theorem WS.t (h : WS mi b s n m q) {l : Nat} (hl : l < m) : mi 46 l = nI (tN s l) := h.2.2.1 l hl
theorem WS.f (h : WS mi b s n m q) {l : Nat} (hl : l < m) : mi (b + 5) l = nI (fN s l) := h.2.2.2.1 l hl
theorem WS.fn (h : WS mi b s n m q) {l : Nat} (hl : l < m) : fN s l < n := (h.2.2.2.2.1 l hl).1
theorem WS.tn (h : WS mi b s n m q) {l : Nat} (hl : l < m) : tN s l < n := (h.2.2.2.2.1 l hl).2
theorem WS.n10 (h : WS mi b s n m q) : n ≤ 10 := h.2.2.2.2.2.1
theorem WS.m8 (h : WS mi b s n m q) : m ≤ 8 := h.2.2.2.2.2.2
theorem WS.fr (h : WS mi b s n m q) (h2 : ∀ x, x = b ∨ x = b + 5 ∨ x = 45 ∨ x = 46 → mi2 x = mi x) : WS mi2 b s n m q := by
  obtain ⟨h1, h3, h4, h5, h6⟩ := h
  exact ⟨by rw [h2 b (by omega)]; exact h1, by rw [h2 45 (by omega)]; exact h3, by rw [h2 46 (by omega)]; exact h4, by rw [h2 (b + 5) (by omega)]; exact h5, h6⟩
theorem lean_f {l k i : Nat} : fN (lean s l k) i = fN s i := by unfold fN fot lean; rw [upd_n (by omega)]
theorem lean_t {l k i : Nat} (hk : k < 100) : tN (lean s l k) i = if i = l then k else tN s i := by
  unfold tN tpp lean
  by_cases e : i = l
  · subst e; rw [upd_s, if_pos rfl, nI_clamp (by omega)]
  · rw [upd_n (by omega), if_neg e]
theorem lean_r {l k i x : Nat} (hl : l < 8) (hi : i < 8) (hf : fN s i < 10) (hx : x < 10) : rchS (lean s l k) q i x = rchS s q i x := rch_cong (RelS.upd (by right; left; exact ⟨l, rfl, hl⟩)) q hi hf hx
theorem WS.lean (h : WS mi b s n m q) (hb : b + 11 < 44) {l k : Nat} (hl : l < m) (hk : k < n) : WS (upI mi 46 l (nI k)) b (lean s l k) n m q := by
  have hn10 := h.n10
  have hm8 := h.m8
  refine ⟨by rw [upI_ne (by omega)]; exact h.1, ?_, ?_, ?_, ?_, hn10, hm8⟩
  · intro i hi
    rw [up_oth (by decide), h.r hi]
    exact bits_cong n (fun x hx => (lean_r (by omega) (by omega) (by have := h.fn hi; omega) (by omega)).symm)
  · intro i hi
    rw [lean_t (by omega)]
    by_cases e : i = l
    · subst e; rw [up_eq, if_pos rfl]
    · rw [up_ne e, if_neg e]; exact h.t hi
  · intro i hi
    rw [up_oth (by omega), lean_f]; exact h.f hi
  · intro i hi
    rw [lean_f, lean_t (by omega)]
    refine ⟨h.fn hi, ?_⟩
    split
    · exact hk
    · exact h.tn hi
end
section
variable {E E2 : Nat → Bool} {f t w : Nat → Nat} {n m a c : Nat}
theorem jnR_e {l : Nat} {P : Nat → Bool} (h : E l = E2 l) : jnR E f t l P = jnR E2 f t l P := by unfold jnR; rw [h]
theorem pasR_e2 {P : Nat → Bool} : ∀ k, (∀ l, l < k → E l = E2 l) → pasR E f t P k = pasR E2 f t P k
  | 0, _ => rfl
  | k + 1, h => by
    show jnR E f t k (pasR E f t P k) = jnR E2 f t k (pasR E2 f t P k)
    rw [pasR_e2 k (fun l hl => h l (by omega)), jnR_e (h k (by omega))]
theorem itR_e (h : ∀ l, l < m → E l = E2 l) : ∀ k, itR E f t m a k = itR E2 f t m a k
  | 0 => rfl
  | k + 1 => by
    show pasR E f t (itR E f t m a k) m = pasR E2 f t (itR E2 f t m a k) m
    rw [itR_e h k, pasR_e2 m h]
theorem rcB_e (h : ∀ l, l < m → E l = E2 l) : rcB E f t m a = rcB E2 f t m a := itR_e h m
/-- a pass over all ladders: from D0 to D, with the flag -/
def PvI (E : Nat → Bool) (f t w : Nat → Nat) (m a c : Nat) (D0 D : Nat → Nat) (i : Nat) (fl : Int32) : Prop :=
  D a = 0 ∧ (∀ b, SnD E f t w m a c D b) ∧ (∀ b, D b ≤ D0 b) ∧ (∀ l, l < i → E l = true → D (t l) ≤ D0 (f l) + (c * w l + 1) ∧ D (f l) ≤ D0 (t l) + (c * w l + 1)) ∧ ((fl = 0 ∧ D = D0) ∨ fl = 1)
theorem PvI.no {D0 D : Nat → Nat} {i : Nat} {fl : Int32} (h : PvI E f t w m a c D0 D i fl) (hx : E i = true → D (t i) ≤ D (f i) + (c * w i + 1) ∧ D (f i) ≤ D (t i) + (c * w i + 1)) : PvI E f t w m a c D0 D (i + 1) fl := by
  refine ⟨h.1, h.2.1, h.2.2.1, fun l hl hE => ?_, h.2.2.2.2⟩
  rcases Nat.lt_or_ge l i with z | z
  · exact h.2.2.2.1 l z hE
  · obtain rfl : l = i := by omega
    have h1 := hx hE
    have h2 := h.2.2.1 (f l)
    have h3 := h.2.2.1 (t l)
    omega
theorem PvI.up {D0 D : Nat → Nat} {i x y : Nat} {fl : Int32} (h : PvI E f t w m a c D0 D i fl) (hl : i < m) (hE : E i = true) (hd : (x = f i ∧ y = t i) ∨ (x = t i ∧ y = f i)) (hlt : D x + (c * w i + 1) < D y) : PvI E f t w m a c D0 (updN D y (D x + (c * w i + 1))) (i + 1) 1 := by
  obtain ⟨h0, h1, h2, h3, -⟩ := h
  have hay : a ≠ y := by intro q; rw [← q, h0] at hlt; omega
  have hfar := (h1 y).le
  have hxy : x ≠ y := by intro q; rw [q] at hlt; omega
  have hle : ∀ b, updN D y (D x + (c * w i + 1)) b ≤ D b := fun b => by
    by_cases q : b = y
    · subst q; rw [updN_s]; omega
    · rw [updN_n q]; exact Nat.le_refl _
  refine ⟨by rw [updN_n hay, h0], fun b => ?_, fun b => Nat.le_trans (hle b) (h2 b), fun l hl2 hE2 => ?_, Or.inr rfl⟩
  · by_cases hb : b = y
    · obtain ⟨e, M, h3, h4⟩ := snd_st (b := y) hl hE hd (h1 x) (by omega)
      subst hb
      exact Or.inr ⟨by rw [updN_s]; omega, e, M, h3, by rw [updN_s]; exact h4⟩
    · have h3 := h1 b
      unfold SnD
      rw [updN_n hb]
      exact h3
  · rcases Nat.lt_or_ge l i with z | z
    · have h4 := h3 l z hE2
      have h5 := hle (t l)
      have h6 := hle (f l)
      omega
    · obtain rfl : l = i := by omega
      have h4 := h2 x
      have h5 := h2 y
      rcases hd with ⟨rfl, rfl⟩ | ⟨rfl, rfl⟩
      · rw [updN_s, updN_n hxy]; omega
      · rw [updN_s, updN_n hxy]; omega
/-- ways of so many ladders are told -/
def TlD (E : Nat → Bool) (f t w : Nat → Nat) (m a c : Nat) (D : Nat → Nat) (k : Nat) : Prop := ∀ e b M, e ≤ k → Wk E f t w m a e b M → D b ≤ c * M + e
theorem TlD.st {D0 D : Nat → Nat} {k : Nat} {fl : Int32} (h : TlD E f t w m a c D0 k) (hp : PvI E f t w m a c D0 D m fl) : TlD E f t w m a c D (k + 1) := by
  intro e b M he hw
  cases e with
  | zero => rw [hw.1, hp.1]; exact Nat.zero_le _
  | succ e =>
    obtain ⟨l, x, M', hl, hE, h1, hd, h2⟩ := hw
    have h3 := h e x M' (by omega) h1
    have h4 := hp.2.2.2.1 l hl hE
    rw [h2, Nat.mul_add]
    rcases hd with ⟨rfl, rfl⟩ | ⟨rfl, rfl⟩ <;> omega
theorem PvI.fx {D0 D : Nat → Nat} (hp : PvI E f t w m a c D0 D m 0) (k : Nat) : TlD E f t w m a c D k := by
  rcases hp.2.2.2.2 with ⟨-, rfl⟩ | q
  · exact fun e b M _ hw => fix_b hp.1 hp.2.2.2.1 hw
  · exact absurd q (by decide)
end
/-- the class's measure from a -/
def mesS (s : Rw) (q m a : Nat) : Nat → Nat := dS (stdS s q) (fN s) (tN s) (wM s) m a 16
theorem mesS_le (s : Rw) (q m a b : Nat) : mesS s q m a b ≤ 1000000 := (dK_s 10 b).le
theorem mes_far {s : Rw} {n m p q a : Nat} (hI : Inv s n m p q) (ha : a < n) (b : Nat) : (mesS s q m a b = 1000000 ∧ farS s q m a b = 1000000) ∨ (mesS s q m a b < 1000000 ∧ farS s q m a b < 1000000 ∧ mesS s q m a b / 16 = farS s q m a b / 100 ∧ mesS s q m a b % 16 = farS s q m a b % 100) := by
  rcases dS_two (E := stdS s q) (f := fN s) (t := tN s) (w := wM s) (m := m) (a := a) ha (fun l hl => hI.fn hl) (fun l hl => hI.tn hl) (fun l hl => (wM_ok hI hl).2) hI.n10 b with ⟨h1, h2⟩ | ⟨e, M, he, hM, h1, h2⟩
  · exact Or.inl ⟨h2, h1⟩
  · right
    unfold mesS farS
    rw [h1, h2]
    omega
theorem bt_std {s : Rw} {q m l : Nat} (hm : m ≤ 8) (hl : l < m) : bt (bitsB (stdS s q) m) l = stdS s q l := by
  rw [bt_bits _ m (by omega) l (by omega), decide_eq_true hl, Bool.true_and]
