/-! BY FEW MOVES: the class's way of finding it, and the model's -/
def lmB (s : Rw) (n m q l g : Nat) : Bool := anyB (fun k => (rchS s q l k && !decide (k = tN s l)) && rbB s q m (nI l) g k) n
def arB (s : Rw) (n m q : Nat) : Nat → (Nat → Bool) → Nat → Nat → Bool
  | 0, _, a, g => rbB s q m (-1) a g
  | 1, mv, a, g => rbB s q m (-1) a g || anyB (fun l => (mv l && rbB s q m (-1) a (fN s l)) && lmB s n m q l g) m
  | _, mv, a, g => rbB s q m (-1) a g || anyB (fun l => (mv l && rbB s q m (-1) a (fN s l)) && anyB (fun x => (!decide (x = tN s l) && rchS s q l x) && (rbB (lean s l x) q m (-1) (fN s l) g || anyB (fun j => ((mv j && !decide (j = l)) && rbB (lean s l x) q m (-1) (fN s l) (fN s j)) && lmB (lean s l x) n m q j g) m)) n) m
theorem anyB_c {P Q : Nat → Bool} : ∀ n, (∀ i, i < n → P i = Q i) → anyB P n = anyB Q n
  | 0, _ => rfl
  | n + 1, h => by
    show (anyB P n || P n) = (anyB Q n || Q n)
    rw [anyB_c n (fun i hi => h i (by omega)), h n (by omega)]
theorem anyB_at {P : Nat → Bool} : ∀ n, anyB P n = false → ∀ i, i < n → P i = false
  | 0, _, i, h => absurd h (Nat.not_lt_zero i)
  | n + 1, h, i, hi => by
    have h : (anyB P n || P n) = false := h
    rw [Bool.or_eq_false_iff] at h
    rcases Nat.lt_or_ge i n with z | z
    · exact anyB_at n h.1 i z
    · obtain rfl : i = n := by omega
      exact h.2
theorem anyB_no {P : Nat → Bool} : ∀ n, (∀ i, i < n → P i = false) → anyB P n = false
  | 0, _ => rfl
  | n + 1, h => anyB_f (anyB_no n (fun i hi => h i (by omega))) (h n (by omega))
theorem bits_an {P Q : Nat → Bool} {n : Nat} (hn : n ≤ 10) : (bitsB P n &&& bitsB Q 10 = 0) ↔ anyB (fun k => P k && Q k) n = false := by
  constructor
  · intro h
    refine anyB_no n (fun i hi => ?_)
    have h2 := congrArg (fun z => bt z i) h
    simp only [b_and, b_0] at h2
    rw [bt_bits P n (by omega) i (by omega), bt_bits Q 10 (by omega) i (by omega), decide_eq_true hi, decide_eq_true (show i < 10 by omega), Bool.true_and, Bool.true_and] at h2
    exact h2
  · intro h
    refine b_ext (fun i hi => ?_)
    rw [b_and, b_0, bt_bits P n (by omega) i hi, bt_bits Q 10 (by omega) i hi]
    by_cases h1 : i < n
    · have h2 := anyB_at n h i h1
      rw [decide_eq_true h1, decide_eq_true (show i < 10 by omega), Bool.true_and, Bool.true_and]
      exact h2
    · simp [h1]
section
variable {E E2 : Nat → Bool} {f t t2 : Nat → Nat} {m a : Nat}
theorem Rch.mo {x y : Nat} (h : Rch E f t m x y) (hE : ∀ l, l < m → E l = true → E2 l = true ∧ t2 l = t l) : Rch E2 f t2 m x y := fun P hx hc => h P hx (fun l hl hl2 => by
  have := hE l hl hl2
  rw [← this.2]
  exact hc l hl this.1)
/-- one ladder's top moves: what it then reaches from its foot -/
theorem mv_rch {l k : Nat} (hl : l < m) (hf : ∀ l, l < m → f l < 10) (ht : ∀ l, l < m → t l < 10) (h0 : E l = false) (h1 : E2 l = true) (h2 : t2 l = k) (h3 : ∀ j, j < m → j ≠ l → E2 j = E j ∧ t2 j = t j) (g : Nat) : Rch E2 f t2 m (f l) g ↔ Rch E f t m k g ∨ Rch E f t m (f l) g := by
  constructor
  · intro h
    have h4 := h (fun x => rcB E f t m k x || rcB E f t m (f l) x) (by
      show (rcB E f t m k (f l) || rcB E f t m (f l) (f l)) = true
      rw [(rcB_iff hf ht (f l)).mpr (Rch.rf _), Bool.or_true]) (by
      intro j hj hE
      by_cases e : j = l
      · subst e
        show (rcB E f t m k (f j) || rcB E f t m (f j) (f j)) = (rcB E f t m k (t2 j) || rcB E f t m (f j) (t2 j))
        rw [h2, (rcB_iff hf ht (f j)).mpr (Rch.rf _), (rcB_iff hf ht k).mpr (Rch.rf _), Bool.or_true, Bool.true_or]
      · obtain ⟨e1, e2⟩ := h3 j hj e
        rw [e1] at hE
        show (rcB E f t m k (f j) || rcB E f t m (f l) (f j)) = (rcB E f t m k (t2 j) || rcB E f t m (f l) (t2 j))
        rw [e2, rcB_cl hf ht j hj hE, rcB_cl (a := f l) hf ht j hj hE])
    have h4 : (rcB E f t m k g || rcB E f t m (f l) g) = true := h4
    rw [Bool.or_eq_true] at h4
    exact h4.imp (rcB_iff hf ht g).mp (rcB_iff hf ht g).mp
  · have hm : ∀ j, j < m → E j = true → E2 j = true ∧ t2 j = t j := fun j hj hE => by
      have e : j ≠ l := fun e => by rw [e, h0] at hE; cases hE
      obtain ⟨e1, e2⟩ := h3 j hj e
      exact ⟨e1.trans hE, e2⟩
    rintro (h | h)
    · refine Rch.tr ?_ (h.mo hm)
      have := (Rch.st (t := t2) (a := f l) hl h1 (Or.inl (Rch.rf (f l)))).2
      rw [h2] at this
      exact this
    · exact h.mo hm
end
theorem rb_iff {s : Rw} {n m p q : Nat} (hI : Inv s n m p q) {but : Int32} {a b : Nat} : rbB s q m but a b = true ↔ Rch (stdE s q but) (fN s) (tN s) m a b := rcB_iff (fun l hl => by have := hI.fn hl; have := hI.n10; omega) (fun l hl => by have := hI.tn hl; have := hI.n10; omega) b
theorem stdE_m1 {s : Rw} {q l : Nat} (hl : l < 8) : stdE s q (-1) l = stdS s q l := by
  unfold stdE
  rw [show decide (nI l = -1) = false from decide_eq_false (fun z => by have h0 := nI_pos (n := l) (by omega); rw [z] at h0; exact h0 (by decide))]
  simp
theorem stdE_i {s : Rw} {q l i : Nat} (hl : l < 8) (hi : i < 8) : stdE s q (nI i) l = (stdS s q l && !decide (l = i)) := by
  unfold stdE
  congr 2
  exact decide_eq_decide.mpr (nI_eq (by omega) (by omega))
theorem std_lean {s : Rw} {n m p q l k j : Nat} (hI : Inv s n m p q) (hl : l < m) (hk : k < n) (hj : j < m) : stdS (lean s l k) q j = if j = l then rchS s q l k else stdS s q j := by
  have hn10 := hI.n10
  have hm8 := hI.m8
  have hf := hI.fn hj
  have ht := hI.tn hj
  unfold stdS
  rw [lean_t (by omega)]
  by_cases e : j = l
  · subst e
    rw [if_pos rfl, if_pos rfl, lean_r (by omega) (by omega) (by omega) (by omega)]
  · rw [if_neg e, if_neg e, lean_r (by omega) (by omega) (by omega) (by omega)]
/-- a ladder moved to where it reaches, the goal being out of reach: the goal is reached by it just if its new top is the goal's -/
theorem mv_one {s : Rw} {n m p q l k a g : Nat} (hI : Inv s n m p q) (hl : l < m) (hk : k < n) (hr : rchS s q l k = true) (h1 : rbB s q m (-1) a (fN s l) = true) (h2 : rbB s q m (-1) a g = false) : rbB (lean s l k) q m (-1) (fN s l) g = rbB s q m (nI l) g k := by
  have hn10 := hI.n10
  have hm8 := hI.m8
  have hI2 : Inv (lean s l k) n m p q := hI.upT hl hk
  have hf : ∀ l, l < m → fN s l < 10 := fun l hl => by have := hI.fn hl; omega
  have ht : ∀ l, l < m → tN s l < 10 := fun l hl => by have := hI.tn hl; omega
  have key := mv_rch (E := stdE s q (nI l)) (E2 := stdE (lean s l k) q (-1)) (f := fN s) (t := tN s) (t2 := tN (lean s l k)) (k := k) hl hf ht (by rw [stdE_i (by omega) (by omega), decide_eq_true rfl]; simp) (by rw [stdE_m1 (by omega), std_lean hI hl hk hl, if_pos rfl]; exact hr) (by rw [lean_t (by omega), if_pos rfl]) (fun j hj e => ⟨by rw [stdE_m1 (by omega), std_lean hI hl hk hj, if_neg e, stdE_i (by omega) (by omega), decide_eq_false e]; simp, by rw [lean_t (by omega), if_neg e]⟩) g
  have hff : fN (lean s l k) = fN s := funext (fun i => lean_f)
  rw [Bool.eq_iff_iff, rb_iff hI2, rb_iff hI, hff, key]
  constructor
  · rintro (h | h)
    · exact h.sy
    · exfalso
      have h3 : Rch (stdE s q (-1)) (fN s) (tN s) m (fN s l) g := h.mo (fun j hj hE => ⟨by rw [stdE_i (by omega) (by omega)] at hE; rw [stdE_m1 (by omega)]; exact (Bool.and_eq_true_iff.mp hE).1, rfl⟩)
      have h4 := (rb_iff hI).mpr (((rb_iff hI).mp h1).tr h3)
      rw [h4] at h2
      cases h2
  · intro h
    exact Or.inl h.sy
theorem ar_g1 {s : Rw} {n m p q a g i : Nat} {mv : Nat → Bool} (hI : Inv s n m p q) (h2 : rbB s q m (-1) a g = false) (hmv : ∀ l, l < m → mv l = thrS s p q i l) : anyB (fun l => (mv l && rbB s q m (-1) a (fN s l)) && lmB s n m q l g) m = g1S s n m p q i (rbB s q m (-1) a) g := by
  unfold g1S
  refine anyB_c m (fun l hl => ?_)
  rw [hmv l hl]
  unfold g1L
  cases h3 : thrS s p q i l && rbB s q m (-1) a (fN s l)
  · have h4 : (rbB s q m (-1) a (fN s l) && thrS s p q i l) = false := by rw [Bool.and_comm]; exact h3
    rw [Bool.false_and]
    refine (anyB_no n (fun k _ => ?_)).symm
    simp only [g1K, h4, Bool.false_and]
  · have h4 : (rbB s q m (-1) a (fN s l) && thrS s p q i l) = true := by rw [Bool.and_comm]; exact h3
    rw [Bool.true_and]
    unfold lmB
    refine anyB_c n (fun k hk => ?_)
    simp only [g1K, h4, Bool.true_and]
    cases h5 : rchS s q l k && !decide (k = tN s l)
    · rw [Bool.false_and, Bool.false_and]
    · rw [Bool.true_and, Bool.true_and]
      exact (mv_one hI hl hk (Bool.and_eq_true_iff.mp h5).1 (Bool.and_eq_true_iff.mp h4).1 h2).symm
/-- .. and the ladder was moved today -/
theorem md_c {s : Rw} {n m p q l : Nat} (hI : Inv s n m p q) (hl : l < m) : (∀ i, fN (upd s (28 + 5 * l + 4) 1) i = fN s i) ∧ (∀ i, tN (upd s (28 + 5 * l + 4) 1) i = tN s i) ∧ (∀ j x, j < m → x < 10 → rchS (upd s (28 + 5 * l + 4) 1) q j x = rchS s q j x) ∧ (∀ but a, rbB (upd s (28 + 5 * l + 4) 1) q m but a = rbB s q m but a) := by
  have hn10 := hI.n10
  have hm8 := hI.m8
  have e1 : ∀ i, fN (upd s (28 + 5 * l + 4) 1) i = fN s i := fun i => by unfold fN fot; rw [upd_n (by omega)]
  have e2 : ∀ i, tN (upd s (28 + 5 * l + 4) 1) i = tN s i := fun i => by unfold tN tpp; rw [upd_n (by omega)]
  have e3 : ∀ j x, j < m → x < 10 → rchS (upd s (28 + 5 * l + 4) 1) q j x = rchS s q j x := fun j x hj hx => rch_cong (RelS.upd (by right; right; left; exact ⟨l, rfl, by omega⟩)) q (by omega) (by have := hI.fn hj; omega) hx
  refine ⟨e1, e2, e3, fun but a => ?_⟩
  unfold rbB
  rw [funext e1, funext e2]
  refine rcB_e (fun j hj => ?_)
  unfold stdE stdS
  rw [e2, e3 j _ hj (by have := hI.tn hj; omega)]
theorem thr_md {s : Rw} {n m p q i l x j : Nat} (hI : Inv s n m p q) (hl : l < m) (hi : i < p) (hj : j < m) : thrS (upd (lean s l x) (28 + 5 * l + 4) 1) p q i j = (thrS s p q i j && !decide (j = l)) := by
  have hm8 := hI.m8
  have hp6 := hI.p6
  by_cases e : j = l
  · subst e
    have : mvd (upd (lean s j x) (28 + 5 * j + 4) 1) j = 1 := by unfold mvd; rw [upd_s]
    unfold thrS
    rw [if_pos this, decide_eq_true rfl]
    simp
  · have c : ∀ k, (k < 28 ∨ 68 ≤ k ∨ ∃ w, w < 5 ∧ k = 28 + 5 * j + w) → upd (lean s l x) (28 + 5 * l + 4) 1 k = s k := by
      intro k hk
      unfold lean
      rw [upd_n (by omega), upd_n (by omega)]
    have a1 : mvd (upd (lean s l x) (28 + 5 * l + 4) 1) j = mvd s j := c _ (Or.inr (Or.inr ⟨4, by omega, rfl⟩))
    have a2 : knd (upd (lean s l x) (28 + 5 * l + 4) 1) j = knd s j := c _ (Or.inr (Or.inr ⟨0, by omega, rfl⟩))
    have a3 : lng (upd (lean s l x) (28 + 5 * l + 4) 1) j = lng s j := c _ (Or.inr (Or.inr ⟨1, by omega, rfl⟩))
    have a4 : fot (upd (lean s l x) (28 + 5 * l + 4) 1) j = fot s j := c _ (Or.inr (Or.inr ⟨2, by omega, rfl⟩))
    have a5 : ∀ i, spt (upd (lean s l x) (28 + 5 * l + 4) 1) i = spt s i := fun i => c _ (Or.inr (Or.inl (by omega)))
    have a6 : ∀ i, stg (upd (lean s l x) (28 + 5 * l + 4) 1) i = stg s i := fun i => c _ (Or.inr (Or.inl (by omega)))
    have a7 : strgS (upd (lean s l x) (28 + 5 * l + 4) 1) q i j = strgS s q i j := by
      have hx : ∀ k, 80 ≤ k → upd (lean s l x) (28 + 5 * l + 4) 1 k = s k := fun k hk => c k (Or.inr (Or.inl (by omega)))
      unfold strgS
      rw [((tx_cong hx).2.2 0 1 q).1, giv_cong hx, a3, a6, c 4 (Or.inl (by omega))]
    rw [decide_eq_false e]
    unfold thrS
    rw [a1, a2, a4, a7, a5]
    simp only [a5]
    simp
theorem ar_g2 {s : Rw} {n m p q a g i : Nat} (hI : Inv s n m p q) (hi : i < p) (h2 : rbB s q m (-1) a g = false) (h1 : g1S s n m p q i (rbB s q m (-1) a) g = false) : arB s n m q 2 (thrS s p q i) a g = g2S s n m p q i (rbB s q m (-1) a) g := by
  have hn10 := hI.n10
  have hm8 := hI.m8
  show (rbB s q m (-1) a g || anyB _ m) = _
  rw [h2, Bool.false_or]
  unfold g2S
  unfold g1S at h1
  refine anyB_c m (fun l hl => ?_)
  have h1l := anyB_at m h1 l hl
  unfold g1L at h1l
  unfold g2L
  cases h3 : thrS s p q i l && rbB s q m (-1) a (fN s l)
  · have h4 : (rbB s q m (-1) a (fN s l) && thrS s p q i l) = false := by rw [Bool.and_comm]; exact h3
    rw [Bool.false_and]
    refine (anyB_no n (fun k _ => ?_)).symm
    simp only [g2K, h4, Bool.false_and]
  · have h4 : (rbB s q m (-1) a (fN s l) && thrS s p q i l) = true := by rw [Bool.and_comm]; exact h3
    rw [Bool.true_and]
    refine anyB_c n (fun x hx => ?_)
    have h1x := anyB_at n h1l x hx
    simp only [g1K, h4, Bool.true_and] at h1x
    simp only [g2K, h4, Bool.true_and]
    rw [Bool.and_comm (!decide (x = tN s l))]
    cases h5 : rchS s q l x && !decide (x = tN s l)
    · rw [Bool.false_and, Bool.false_and]
    · rw [h5, Bool.true_and] at h1x
      rw [Bool.true_and, Bool.true_and, h1x, Bool.false_or]
      have hI2 : Inv (lean s l x) n m p q := hI.upT hl hx
      have hI3 : Inv (upd (lean s l x) (28 + 5 * l + 4) 1) n m p q := hI2.upM hl (Or.inr rfl)
      obtain ⟨c1, c2, c3, c4⟩ := md_c hI2 hl
      have h6 : rbB (upd (lean s l x) (28 + 5 * l + 4) 1) q m (-1) (fN s l) g = false := by rw [c4]; exact h1x
      have h7 := ar_g1 (mv := fun j => thrS s p q i j && !decide (j = l)) (i := i) hI3 h6 (fun j hj => (thr_md hI hl hi hj).symm)
      rw [← h7]
      refine anyB_c m (fun j hj => ?_)
      have e1 : fN (upd (lean s l x) (28 + 5 * l + 4) 1) j = fN s j := (c1 j).trans lean_f
      have e2 : lmB (lean s l x) n m q j g = lmB (upd (lean s l x) (28 + 5 * l + 4) 1) n m q j g := by
        unfold lmB
        refine anyB_c n (fun k hk => ?_)
        rw [c4, c3 j k hj (by omega), c2]
      rw [c4, e1, e2]
/-- the class's answer -/
def fewK (s : Rw) (n m q : Nat) (mv : Nat → Bool) (a g : Nat) : Int32 := if arB s n m q 0 mv a g = true then 0 else if arB s n m q 1 mv a g = true then 1 else if arB s n m q 2 mv a g = true then 2 else NONEc
theorem few_eq {s : Rw} {n m p q g i : Nat} (hI : Inv s n m p q) (hi : i < p) : fewK s n m q (thrS s p q i) (sN s i) g = fewS s n m p q i g := by
  unfold fewK fewS
  have e0 : arB s n m q 0 (thrS s p q i) (sN s i) g = rbB s q m (-1) (sN s i) g := rfl
  rw [e0]
  by_cases h2 : rbB s q m (-1) (sN s i) g = true
  · rw [if_pos h2, if_pos h2]
  · rw [if_neg h2, if_neg h2]
    have h2 : rbB s q m (-1) (sN s i) g = false := by simpa using h2
    have e1 : arB s n m q 1 (thrS s p q i) (sN s i) g = g1S s n m p q i (rbB s q m (-1) (sN s i)) g := by
      show (rbB s q m (-1) (sN s i) g || anyB _ m) = _
      rw [h2, Bool.false_or]
      exact ar_g1 hI h2 (fun _ _ => rfl)
    rw [e1]
    by_cases h3 : g1S s n m p q i (rbB s q m (-1) (sN s i)) g = true
    · rw [if_pos h3, if_pos h3]
    · rw [if_neg h3, if_neg h3, ar_g2 hI hi h2 (by simpa using h3)]
