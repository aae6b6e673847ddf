theorem farS_le (s : Rw) (q m a b : Nat) : farS s q m a b ≤ 1000000 := (dK_s 10 b).le
def wayS (s : Rw) (q m a b : Nat) (w : Int32) : Int32 :=
  if farS s q m a b = 1000000 then NONEc
  else if w = 0 then nI (farS s q m a b / 100) else if w = 1 then nI (farS s q m a b % 100) else tollS s q (nI (farS s q m a b / 100)) (nI (farS s q m a b % 100))
theorem d100 {x : Nat} (hx : x ≤ 1000000) : nI x / 100 = nI (x / 100) := pk_div (d := 100) (by omega) (by omega) (by omega)
theorem r100 {x : Nat} (hx : x ≤ 1000000) : nI x - nI x / 100 * 100 = nI (x % 100) := pk_rem (d := 100) (by omega) (by omega) (by omega)
theorem bitsn_at {P : Nat → Bool} {b n : Nat} (hb : b < 31) (hn : n < 31) : bitsB P n >>> (nI b &&& 31) &&& 1 = b2i (decide (b < n) && P b) := by
  have h : bitsB P n = bitsB (fun b => decide (b < n) && P b) 31 := by
    refine b_ext (fun i hi => ?_)
    rw [bt_bits _ n (by omega) i hi, bt_bits _ 31 (by omega) i hi]
    by_cases h1 : i < n
    · have h2 : i < 31 := by omega
      simp [h1, h2]
    · simp [h1]
  rw [h, bits_at hb (by omega)]
theorem rb_at {s : Rw} {q m a b : Nat} {but : Int32} (hb : b < 10) : rbS s q m but a >>> (nI b &&& 31) &&& 1 = b2i (rbB s q m but a b) := bits_at hb (by decide)
theorem rb_0 {s : Rw} {q m a : Nat} {but : Int32} : rbS s q m but a &&& 1 = b2i (rbB s q m but a 0) := bits_0 (by decide) (by decide)
def mtSum (s : Rw) (q m p i : Nat) : Nat := smD (fun j => farS s q m i (sN s j) / 100) p
def allB (f : Nat → Bool) : Nat → Bool
  | 0 => true
  | n + 1 => allB f n && f n
def anyB (f : Nat → Bool) : Nat → Bool
  | 0 => false
  | n + 1 => anyB f n || f n
def mtAll (s : Rw) (q m p i : Nat) : Bool := allB (fun j => decide (farS s q m i (sN s j) < 1000000)) p
def mtR (s : Rw) (q m p : Nat) : Nat → Int32 × Nat
  | 0 => (-1, 0)
  | i + 1 => if mtAll s q m p i = true ∧ ((mtR s q m p i).1 < 0 ∨ mtSum s q m p i < (mtR s q m p i).2) then (nI i, mtSum s q m p i) else mtR s q m p i
theorem mtSum_le (s : Rw) (q m i : Nat) : ∀ p, mtSum s q m p i ≤ 10000 * p
  | 0 => Nat.le_refl _
  | p + 1 => by
    have h1 := mtSum_le s q m i p
    have h2 := farS_le s q m i (sN s p)
    show mtSum s q m p i + farS s q m i (sN s p) / 100 ≤ _
    omega
theorem mtR_le (s : Rw) (q m p : Nat) : ∀ i, (mtR s q m p i).2 ≤ 10000 * p
  | 0 => Nat.zero_le _
  | i + 1 => by
    unfold mtR
    split
    · exact mtSum_le s q m i p
    · exact mtR_le s q m p i
def meetS (s : Rw) (q n m p : Nat) : Int32 := if (mtR s q m p (if p = 0 then 0 else n)).1 < 0 then -1000000005 else (mtR s q m p (if p = 0 then 0 else n)).1
