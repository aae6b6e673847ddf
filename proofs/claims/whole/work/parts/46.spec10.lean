theorem inR_dec {j n : Nat} (hj : j < 2147483648) : inR (nI j) n = decide (j < n) := by
  unfold inR
  rw [Bool.eq_iff_iff]
  simp only [decide_eq_true_eq, nI_toInt hj]
  omega
def nrD (s : Rw) (q n m i j : Nat) : Int32 := if j < n ∧ ¬ farS s q m i j = 1000000 then nI (farS s q m i j / 100) else 999
def nrSum (s : Rw) (q n m : Nat) (pl : Rw) (i : Nat) : Nat → Int32
  | 0 => 0
  | j + 1 => nrSum s q n m pl i j + (if pl j = NONEc then 0 else apartS (pl j) (nrD s q n m i j))
def nrR (s : Rw) (q n m : Nat) (pl : Rw) (z : Nat) : Nat → Int32 × Int32
  | 0 => (-1, 0)
  | i + 1 => if (nrR s q n m pl z i).1 < 0 ∨ nrSum s q n m pl i z < (nrR s q n m pl z i).2 then (nI i, nrSum s q n m pl i z) else nrR s q n m pl z i
def nearS (s : Rw) (q n m : Nat) (pl : Rw) (z : Nat) (w : Int32) : Int32 := if 0 ≤ (nrR s q n m pl z n).1 then (if w = 0 then (nrR s q n m pl z n).1 else (nrR s q n m pl z n).2) else NONEc
