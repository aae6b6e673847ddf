theorem anyB_t {f : Nat → Bool} {j : Nat} (h : f j = true) : ∀ {n}, j < n → anyB f n = true
  | 0, q => absurd q (Nat.not_lt_zero _)
  | n + 1, q => by
    show (anyB f n || f n) = true
    rcases Nat.lt_or_ge j n with z | z
    · rw [anyB_t h z]; rfl
    · obtain rfl : j = n := by omega
      rw [h, Bool.or_true]
theorem anyB_f {f : Nat → Bool} {n : Nat} (h : anyB f n = false) (h2 : f n = false) : anyB f (n + 1) = false := by
  show (anyB f n || f n) = false
  rw [h, h2]; rfl
theorem bits_nd {P : Nat → Bool} {n x : Nat} (hx : x < 32) (hn : n ≤ 32) : bitsB P n &&& (1 <<< (nI x &&& 31) ^^^ -1) = bitsB (fun k => P k && !decide (k = x)) n := by
  refine b_ext (fun i hi => ?_)
  rw [b_and, b_xor, bt_bits _ n hn i hi, bt_bits _ n hn i hi, bt_sh hx hi, b_m1 i hi]
  simp only [Bool.xor_true, Bool.and_assoc]
theorem zero_at {k : Nat} (hk : k < 31) : (0 : Int32) >>> (nI k &&& 31) &&& 1 = b2i false := (by decide +kernel : ∀ k, k < 31 → (0 : Int32) >>> (nI k &&& 31) &&& 1 = b2i false) k hk
/-- the town with ladder l at ledge b -/
def lean (s : Rw) (l b : Nat) : Rw := upd s (28 + 5 * l + 3) (nI b)
def g1K (s : Rw) (q m l goal : Nat) (cb : Nat → Bool) : Nat → Bool := fun k => cb k && rbB (lean s l k) q m (-1) (fN s l) goal
def g1L (s : Rw) (n m p q i : Nat) (P : Nat → Bool) (goal : Nat) : Nat → Bool := fun l => anyB (g1K s q m l goal (fun k => (P (fN s l) && thrS s p q i l) && (rchS s q l k && !decide (k = tN s l)))) n
def g1S (s : Rw) (n m p q i : Nat) (P : Nat → Bool) (goal : Nat) : Bool := anyB (g1L s n m p q i P goal) m
def g2K (s : Rw) (n m p q i l goal : Nat) (cb : Nat → Bool) : Nat → Bool := fun k => cb k && g1S (upd (lean s l k) (28 + 5 * l + 4) 1) n m p q i (rbB (upd (lean s l k) (28 + 5 * l + 4) 1) q m (-1) (fN s l)) goal
def g2L (s : Rw) (n m p q i : Nat) (P : Nat → Bool) (goal : Nat) : Nat → Bool := fun l => anyB (g2K s n m p q i l goal (fun k => (P (fN s l) && thrS s p q i l) && (rchS s q l k && !decide (k = tN s l)))) n
def g2S (s : Rw) (n m p q i : Nat) (P : Nat → Bool) (goal : Nat) : Bool := anyB (g2L s n m p q i P goal) m
def fewS (s : Rw) (n m p q i goal : Nat) : Int32 := if rbB s q m (-1) (sN s i) goal = true then 0 else if g1S s n m p q i (rbB s q m (-1) (sN s i)) goal = true then 1 else if g2S s n m p q i (rbB s q m (-1) (sN s i)) goal = true then 2 else NONEc
theorem sb_back {mi mi2 mi4 : MI} {s : Rw} {k : Nat} {v v0 : Int32} (hS : SB mi mi2) (hs : mi 1 = s) (h : SB (upI mi2 1 k v) mi4) (hk : s k = v0) : SB mi (upI mi4 1 k v0) := by
  intro a h1 h2
  by_cases ha : a = 1
  · subst ha
    rw [upI_self, h.r1, upI_self, hS.r1, hs]
    funext j
    by_cases hj : j = k
    · subst hj; rw [upd_s, hk]
    · rw [upd_n hj, upd_n hj]
  · rw [upI_ne ha, h a h1 h2, upI_ne ha, hS a h1 h2]
theorem sb_back2 {mi mi2 mi4 : MI} {s : Rw} {k k4 : Nat} {v v0 w w0 : Int32} (hS : SB mi mi2) (hs : mi 1 = s) (h : SB (upI (upI mi2 1 k v) 1 k4 w) mi4) (hk : s k = v0) (hk4 : s k4 = w0) (hne : k ≠ k4) : SB mi (upI (upI mi4 1 k v0) 1 k4 w0) := by
  intro a h1 h2
  by_cases ha : a = 1
  · subst ha
    rw [upI_self, upI_self, h.r1, upI_self, upI_self, hS.r1, hs]
    funext j
    by_cases hj : j = k4
    · subst hj; rw [upd_s, hk4]
    · by_cases hj2 : j = k
      · subst hj2; rw [upd_n hj, upd_s, hk]
      · rw [upd_n hj, upd_n hj2, upd_n hj, upd_n hj2]
  · rw [upI_ne ha, upI_ne ha, h a h1 h2, upI_ne ha, upI_ne ha, hS a h1 h2]
theorem up_r1 {mi : MI} {s : Rw} {k : Nat} {v : Int32} (hs : mi 1 = s) : upI mi 1 k v 1 = upd s k v := by rw [upI_self, hs]
theorem thrS_mv {s : Rw} {n m p q i l : Nat} (hI : Inv s n m p q) (hl : l < m) (h : thrS s p q i l = true) : s (28 + 5 * l + 4) = 0 := by
  rcases hI.mv hl with z | z
  · exact z
  · unfold thrS at h
    rw [if_pos z] at h
    cases h
