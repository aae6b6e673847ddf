/-! THE NUMBERS, over the model's row s -/
theorem up_eq {mi : MI} {a k : Nat} {v : Int32} : upI mi a k v a k = v := by simp [upI, upd]
theorem up_ne {mi : MI} {a k j : Nat} {v : Int32} (h : j ≠ k) : upI mi a k v a j = mi a j := by simp [upI, upd, h]
theorem up_oth {mi : MI} {a b k j : Nat} {v : Int32} (h : b ≠ a) : upI mi a k v b j = mi b j := by simp [upI, h]
def BADc : Int32 := -1000000001
def NOc : Int32 := -1000000002
def FULLc : Int32 := -1000000003
def NONEc : Int32 := -1000000005
def NOTHINGc : Int32 := -1000000011
def KINDc : Int32 := -1000000012
def INDEXc : Int32 := -1000000013
def SIZEc : Int32 := -1000000014
abbrev Rw : Type := Nat → Int32
def hgt (s : Rw) (i : Nat) : Int32 := s (8 + 2 * i)
def plc (s : Rw) (i : Nat) : Int32 := s (8 + 2 * i + 1)
def knd (s : Rw) (l : Nat) : Int32 := s (28 + 5 * l + 0)
def lng (s : Rw) (l : Nat) : Int32 := s (28 + 5 * l + 1)
def fot (s : Rw) (l : Nat) : Int32 := s (28 + 5 * l + 2)
def tpp (s : Rw) (l : Nat) : Int32 := s (28 + 5 * l + 3)
def mvd (s : Rw) (l : Nat) : Int32 := s (28 + 5 * l + 4)
def spt (s : Rw) (p : Nat) : Int32 := s (68 + 2 * p)
def stg (s : Rw) (p : Nat) : Int32 := s (68 + 2 * p + 1)
def clampT (v most : Int32) : Int32 := if 0 ≤ v then (if v ≤ most then v else most) else 0
def nz (z : Int32) : Int32 := z * 1103515245 + 12345
def drw (z : Int32) : Int32 := (z.toUInt32 >>> ((8 : Int32).toUInt32 &&& Int32.toUInt32 31)).toInt32
def onesK (x : Int32) : Nat → Int32
  | 0 => 0
  | k + 1 => onesK x k + (x >>> (nI k &&& 31) &&& 1)
/-- how many of the first n -/
def cntB (f : Nat → Bool) : Nat → Nat
  | 0 => 0
  | n + 1 => cntB f n + (if f n then 1 else 0)
/-- the first n as bits -/
def bitsB (f : Nat → Bool) : Nat → Int32
  | 0 => 0
  | n + 1 => bitsB f n ||| (if f n then 1 <<< (nI n &&& 31) else 0)
/-- the last one of the first n, or -1 -/
def lastB (f : Nat → Bool) : Nat → Int32
  | 0 => -1
  | n + 1 => if f n then nI n else lastB f n
theorem cntB_le (f : Nat → Bool) : ∀ n, cntB f n ≤ n
  | 0 => Nat.le_refl 0
  | n + 1 => by
    have := cntB_le f n
    simp only [cntB]
    split <;> omega
theorem WP.L {d : Nat} {μ : Mt} {pc : Nat} {L L' S : List Value} {sh : List Sh} {mi : MI} {mr : MR} {cb sb : Nat} {Q : QT} (hL : L' = L) (h : WP d μ pc L S sh mi mr cb sb Q) : WP d μ pc L' S sh mi mr cb sb Q := hL ▸ h
theorem WP.LM {d : Nat} {μ : Mt} {pc : Nat} {L L' S : List Value} {sh : List Sh} {mi mi' : MI} {mr : MR} {cb sb : Nat} {Q : QT} (hL : L' = L) (hm : mi' = mi) (h : WP d μ pc L S sh mi mr cb sb Q) : WP d μ pc L' S sh mi' mr cb sb Q := hL ▸ hm ▸ h
theorem WP.S {d : Nat} {μ : Mt} {pc : Nat} {L S S' : List Value} {sh : List Sh} {mi : MI} {mr : MR} {cb sb : Nat} {Q : QT} (hS : S' = S) (h : WP d μ pc L S sh mi mr cb sb Q) : WP d μ pc L S' sh mi mr cb sb Q := hS ▸ h
theorem nI_leC {a b : Nat} {x : Int32} (hx : x = nI a) (h : a ≤ b) (hb : b < 2147483648) : x ≤ nI b := hx ▸ nI_le h hb
theorem nI_geC {a b : Nat} {x : Int32} (hx : x = nI b) (h : a < b) (hb : b < 2147483648) : ¬ x ≤ nI a := hx ▸ nI_ge h hb
def inB (x : Int32) (lo hi : Int) : Bool := decide (lo ≤ x.toInt ∧ x.toInt ≤ hi)
theorem inB_nI {w : Nat} {lo hi : Int} (hw : w < 2147483648) (h : lo ≤ (w : Int) ∧ (w : Int) ≤ hi) : inB (nI w) lo hi = true := by
  simp only [inB, nI_toInt hw, decide_eq_true_eq]
  exact h
theorem inB_of {x : Int32} {hi : Nat} (h : inB x 0 (hi : Int) = true) : ∃ j, j ≤ hi ∧ x = nI j := by
  simp only [inB, decide_eq_true_eq] at h
  obtain ⟨j, hj, rfl⟩ := inR_of (x := x) (n := hi + 1) (by simp only [inR, decide_eq_true_eq]; omega)
  exact ⟨j, by omega, rfl⟩
theorem b2i_ne {b : Bool} (h : b = true) : ¬ b2i b = 0 := by rw [h]; decide
theorem b2i_eq {b : Bool} (h : b = false) : b2i b = 0 := by rw [h]; rfl
theorem isIn_k {x : Int32} {a b : Int64} {lo hi : Int} (ha : a.toInt = lo) (hb : b.toInt = hi) : b2i (decide (a ≤ x.toInt64) && decide (x.toInt64 ≤ b)) = b2i (inB x lo hi) := by
  congr 1
  rw [Bool.eq_iff_iff]
  simp only [Bool.and_eq_true, decide_eq_true_eq, inB, Int64.le_iff_toInt_le, ha, hb]
  have : x.toInt64.toInt = x.toInt := by simp
  rw [this]
def addL (mi : MI) (n : Nat) (h p : Int32) : MI := upI (upI (upI mi 1 (8 + 2 * n) h) 1 (8 + 2 * n + 1) p) 1 0 (nI (n + 1))
def addD (mi : MI) (m : Nat) (k l f t : Int32) : MI := upI (upI (upI (upI (upI (upI mi 1 1 (nI (m + 1))) 1 (28 + 5 * m + 0) k) 1 (28 + 5 * m + 1) l) 1 (28 + 5 * m + 2) f) 1 (28 + 5 * m + 3) t) 1 (28 + 5 * m + 4) 0
def addP (mi : MI) (p : Nat) (b t : Int32) : MI := upI (upI (upI mi 1 (68 + 2 * p) b) 1 (68 + 2 * p + 1) t) 1 2 (nI (p + 1))
def apartS (a b : Int32) : Int32 := if b ≤ a then a - b else b - a
/-- reach, minutes, worth by kind -/
def rchK (k n : Int32) : Int32 := if k = 1 then n + 3 else if k = 3 then n + 3 + n / 4 else if k = 4 then (if n ≤ 2 then 0 else n - 2) else if k = 5 then n / 2 else n
def minK (k m : Int32) : Int32 := if k = 1 then 2 * m else if k = 3 then 2 * m - 1 else if k = 2 then m + 1 else if k = 4 then m + 1 else m
def wthK (k n : Int32) : Int32 := if k = 1 then n - 4 else if k = 2 then n + 9 else if k = 3 then 2 * (n - 4) else if k = 4 then n + 29 else if k = 5 then 40 - n else n
def isOfB (own kind : Int32) : Bool := decide (own = kind) || decide (kind = 0) || (decide (kind = 1) && decide (own = 3)) || (decide (kind = 2) && decide (own = 4))
def riseS (s : Rw) (l : Nat) : Int32 := if 0 ≤ hgt s (tpp s l).toNatClampNeg - hgt s (fot s l).toNatClampNeg then hgt s (tpp s l).toNatClampNeg - hgt s (fot s l).toNatClampNeg else 0
def mntS (s : Rw) (l : Nat) : Int32 := minK (knd s l) (riseS s l / 5 + 1)
/-- a tableswitch over 1 .. hi, by cases -/
theorem k6 {x : Int32} {k : Nat} (hx : x = nI k) (hk : k < 6) : x = 0 ∨ x = 1 ∨ x = 2 ∨ x = 3 ∨ x = 4 ∨ x = 5 := by
  subst hx
  match k, hk with
  | 0, _ => exact Or.inl rfl
  | 1, _ => exact Or.inr (Or.inl rfl)
  | 2, _ => exact Or.inr (Or.inr (Or.inl rfl))
  | 3, _ => exact Or.inr (Or.inr (Or.inr (Or.inl rfl)))
  | 4, _ => exact Or.inr (Or.inr (Or.inr (Or.inr (Or.inl rfl))))
  | 5, _ => exact Or.inr (Or.inr (Or.inr (Or.inr (Or.inr rfl))))
theorem il_0 : (0 : Int64).toInt = 0 := by decide
theorem il_1 : (1 : Int64).toInt = 1 := by decide
theorem il_2 : (2 : Int64).toInt = 2 := by decide
theorem il_3 : (3 : Int64).toInt = 3 := by decide
theorem il_4 : (4 : Int64).toInt = 4 := by decide
theorem il_5 : (5 : Int64).toInt = 5 := by decide
theorem il_6 : (6 : Int64).toInt = 6 := by decide
theorem il_10 : (10 : Int64).toInt = 10 := by decide
theorem il_24 : (24 : Int64).toInt = 24 := by decide
theorem il_29 : (29 : Int64).toInt = 29 := by decide
theorem il_30 : (30 : Int64).toInt = 30 := by decide
theorem il_97 : (97 : Int64).toInt = 97 := by decide
theorem il_99 : (99 : Int64).toInt = 99 := by decide
theorem il_100 : (100 : Int64).toInt = 100 := by decide
theorem il_122 : (122 : Int64).toInt = 122 := by decide
theorem il_48 : (48 : Int64).toInt = 48 := by decide
theorem il_57 : (57 : Int64).toInt = 57 := by decide
theorem il_m1 : (-1 : Int64).toInt = -1 := by decide
theorem il_99999 : (99999 : Int64).toInt = 99999 := by decide
theorem il_m99999 : (-99999 : Int64).toInt = -99999 := by decide
def remS (x y : Int32) : Int32 := x - x / y * y
/-- one more LEDGE by lot, with n there -/
def deal1 (mi : MI) (n : Nat) : MI := addL (upI (upI mi 1 6 (nz (mi 1 6))) 1 6 (nz (nz (mi 1 6)))) n (remS (drw (nz (mi 1 6))) 100) (remS (drw (nz (nz (mi 1 6)))) 30)
def dealK (mi : MI) (n : Nat) : Nat → MI
  | 0 => mi
  | k + 1 => deal1 (dealK mi n k) (n + k)
theorem dealK_n {mi : MI} {n : Nat} (h : mi 1 0 = nI n) : ∀ k, dealK mi n k 1 0 = nI (n + k)
  | 0 => h
  | k + 1 => by
    show deal1 (dealK mi n k) (n + k) 1 0 = _
    unfold deal1 addL
    rw [up_eq]
    rfl
def riseN (s : Rw) (t f : Nat) : Int32 := if 0 ≤ hgt s t - hgt s f then hgt s t - hgt s f else 0
def mntN (s : Rw) (l t f : Nat) : Int32 := minK (knd s l) (riseN s t f / 5 + 1)
theorem inB3 {w : Nat} (h : w < 4) : inB (nI w) 0 3 = true := inB_nI (by omega) (by omega)
theorem inB1 {w : Nat} (h : w < 2) : inB (nI w) 0 1 = true := inB_nI (by omega) (by omega)
theorem nI_ne {a b : Nat} (h : a ≠ b) (ha : a < 2147483648) (hb : b < 2147483648) : ¬ nI a = nI b := fun q => h ((nI_eq ha hb).mp q)
theorem nI_neC {a b : Nat} {y : Int32} (hy : y = nI b) (h : a ≠ b) (ha : a < 2147483648) (hb : b < 2147483648) : ¬ nI a = y := hy ▸ nI_ne h ha hb
theorem or_0 (x : Int32) : x ||| 0 = x := by simp
theorem catL_i (x : Int32) : catL (.int x) = true := rfl
theorem catL_r (x : Nat) : catL (.ref x) = true := rfl
theorem catL_h : catL hole = true := rfl
