/-! WHAT HOLDS of the model's row: n LEDGES, m LADDERS, p PEOPLE, q TEXTS -/
def kN (s : Rw) (l : Nat) : Nat := (knd s l).toNatClampNeg
def fN (s : Rw) (l : Nat) : Nat := (fot s l).toNatClampNeg
def tN (s : Rw) (l : Nat) : Nat := (tpp s l).toNatClampNeg
def sN (s : Rw) (p : Nat) : Nat := (spt s p).toNatClampNeg
def InvL (s : Rw) (n l : Nat) : Prop := (knd s l = nI (kN s l) ∧ kN s l < 6) ∧ (fot s l = nI (fN s l) ∧ fN s l < n) ∧ (tpp s l = nI (tN s l) ∧ tN s l < n) ∧ (mvd s l = 0 ∨ mvd s l = 1) ∧ inB (lng s l) 1 99 = true
def Inv (s : Rw) (n m p q : Nat) : Prop :=
  (s 0 = nI n ∧ n ≤ 10) ∧ (s 1 = nI m ∧ m ≤ 8) ∧ (s 2 = nI p ∧ p ≤ 6) ∧ (s 3 = nI q ∧ q ≤ 14) ∧ (∀ l, l < m → InvL s n l) ∧ (∀ i, i < p → (spt s i = nI (sN s i) ∧ sN s i < n) ∧ inB (stg s i) 0 99 = true) ∧ (∀ t, t < q → WFt s t ∧ inB (s (80 + 200 * t)) 0 2 = true) ∧ (∀ i, i < n → inB (hgt s i) 0 99 = true ∧ inB (plc s i) 0 29 = true) ∧ inB (s 5) 0 100 = true
section InvS
variable {s : Rw} {n m p q : Nat}
theorem Inv.en (h : Inv s n m p q) : s 0 = nI n := h.1.1
theorem Inv.n10 (h : Inv s n m p q) : n ≤ 10 := h.1.2
theorem Inv.em (h : Inv s n m p q) : s 1 = nI m := h.2.1.1
theorem Inv.m8 (h : Inv s n m p q) : m ≤ 8 := h.2.1.2
theorem Inv.ep (h : Inv s n m p q) : s 2 = nI p := h.2.2.1.1
theorem Inv.p6 (h : Inv s n m p q) : p ≤ 6 := h.2.2.1.2
theorem Inv.eq3 (h : Inv s n m p q) : s 3 = nI q := h.2.2.2.1.1
theorem Inv.q14 (h : Inv s n m p q) : q ≤ 14 := h.2.2.2.1.2
theorem Inv.k (h : Inv s n m p q) {l : Nat} (hl : l < m) : s (28 + 5 * l + 0) = nI (kN s l) := (h.2.2.2.2.1 l hl).1.1
theorem Inv.k6 (h : Inv s n m p q) {l : Nat} (hl : l < m) : kN s l < 6 := (h.2.2.2.2.1 l hl).1.2
theorem Inv.f (h : Inv s n m p q) {l : Nat} (hl : l < m) : s (28 + 5 * l + 2) = nI (fN s l) := (h.2.2.2.2.1 l hl).2.1.1
theorem Inv.fn (h : Inv s n m p q) {l : Nat} (hl : l < m) : fN s l < n := (h.2.2.2.2.1 l hl).2.1.2
theorem Inv.t (h : Inv s n m p q) {l : Nat} (hl : l < m) : s (28 + 5 * l + 3) = nI (tN s l) := (h.2.2.2.2.1 l hl).2.2.1.1
theorem Inv.tn (h : Inv s n m p q) {l : Nat} (hl : l < m) : tN s l < n := (h.2.2.2.2.1 l hl).2.2.1.2
theorem Inv.mv (h : Inv s n m p q) {l : Nat} (hl : l < m) : mvd s l = 0 ∨ mvd s l = 1 := (h.2.2.2.2.1 l hl).2.2.2.1
theorem Inv.ln (h : Inv s n m p q) {l : Nat} (hl : l < m) : inB (lng s l) 1 99 = true := (h.2.2.2.2.1 l hl).2.2.2.2
theorem Inv.sp (h : Inv s n m p q) {i : Nat} (hi : i < p) : s (68 + 2 * i) = nI (sN s i) := (h.2.2.2.2.2.1 i hi).1.1
theorem Inv.sn (h : Inv s n m p q) {i : Nat} (hi : i < p) : sN s i < n := (h.2.2.2.2.2.1 i hi).1.2
theorem Inv.sg (h : Inv s n m p q) {i : Nat} (hi : i < p) : inB (stg s i) 0 99 = true := (h.2.2.2.2.2.1 i hi).2
theorem Inv.tx (h : Inv s n m p q) {t : Nat} (ht : t < q) : WFt s t := (h.2.2.2.2.2.2.1 t ht).1
theorem Inv.ky (h : Inv s n m p q) {t : Nat} (ht : t < q) : inB (s (80 + 200 * t)) 0 2 = true := (h.2.2.2.2.2.2.1 t ht).2
theorem Inv.hp (h : Inv s n m p q) {i : Nat} (hi : i < n) : inB (hgt s i) 0 99 = true ∧ inB (plc s i) 0 29 = true := h.2.2.2.2.2.2.2.1 i hi
theorem Inv.th (h : Inv s n m p q) : inB (s 5) 0 100 = true := h.2.2.2.2.2.2.2.2
end InvS
def rchS (s : Rw) (q l b : Nat) : Bool := decide (hgt s (fN s l) < hgt s b) && decide (lenS s q (fN s l) b ≤ rchK (knd s l) (lng s l))
def stdS (s : Rw) (q l : Nat) : Bool := rchS s q l (tN s l)
def thrS (s : Rw) (p q i l : Nat) : Bool :=
  if mvd s l = 1 then false
  else if knd s l = 1 ∨ knd s l = 3 ∨ knd s l = 5 then true
  else if knd s l = 2 ∨ knd s l = 4 then (strgS s q i l && decide ((if spt s i = fot s l then 1 else 0) < cntB (fun j => decide (spt s j = fot s l)) p))
  else strgS s q i l
def maySt (s : Rw) (p q i l : Nat) : Bool := decide (spt s i = fot s l) && thrS s p q i l
section SForm
variable {d : Nat} {mi : MI} {mr : MR} {s : Rw} {n m p q : Nat}
theorem e_of (hM : MB mr) (hs : mi 1 = s) {l w : Nat} (hl : l < 8) (hw : w < 5) : CP d mX12_of [.ref 0, .int (nI l), .int (nI w)] shM mi mr 0 0 (PI (s (28 + 5 * l + w)) shM mi mr) := by
  subst hs; exact c_of hM hl hw
theorem e_height (hM : MB mr) (hs : mi 1 = s) {b : Nat} (hb : b < 10) : CP d mX12_height [.ref 0, .int (nI b)] shM mi mr 0 0 (PI (hgt s b) shM mi mr) := by
  subst hs; exact c_height hM hb
theorem e_where (hM : MB mr) (hs : mi 1 = s) {b : Nat} (hb : b < 6) : CP d mX12_where [.ref 0, .int (nI b)] shM mi mr 0 0 (PI (spt s b) shM mi mr) := by
  subst hs; exact c_where hM hb
theorem e_counts (hM : MB mr) (hs : mi 1 = s) (hI : Inv s n m p q) {key : Int32} : CP (d + 1) mX12_counts [.ref 0, .int key] shM mi mr 0 0 (PI (lstT s q key) shM mi mr) := by
  subst hs; exact c_counts hM hI.eq3 hI.q14
theorem e_reach (hM : MB mr) (hs : mi 1 = s) (hI : Inv s n m p q) {l : Nat} (hl : l < m) : CP (d + 1) mX12_reach [.ref 0, .int (nI l)] shM mi mr 0 0 (PI (rchK (knd s l) (lng s l)) shM mi mr) := by
  subst hs; exact c_reach hM (Nat.lt_of_lt_of_le hl hI.m8) (hI.k hl) (hI.k6 hl)
theorem e_worth (hM : MB mr) (hs : mi 1 = s) (hI : Inv s n m p q) {l : Nat} (hl : l < m) : CP (d + 1) mX12_worth [.ref 0, .int (nI l)] shM mi mr 0 0 (PI (wthK (knd s l) (lng s l)) shM mi mr) := by
  subst hs; exact c_worth hM (Nat.lt_of_lt_of_le hl hI.m8) (hI.k hl) (hI.k6 hl)
theorem e_minutes (hM : MB mr) (hs : mi 1 = s) (hI : Inv s n m p q) {l : Nat} (hl : l < m) : CP (d + 1) mX12_minutes [.ref 0, .int (nI l)] shM mi mr 0 0 (PI (mntN s l (tN s l) (fN s l)) shM mi mr) := by
  subst hs; exact c_minutes hM (Nat.lt_of_lt_of_le hl hI.m8) (hI.k hl) (hI.k6 hl) (hI.t hl) (Nat.lt_of_lt_of_le (hI.tn hl) hI.n10) (hI.f hl) (Nat.lt_of_lt_of_le (hI.fn hl) hI.n10)
theorem e_peopleOn (hM : MB mr) (hs : mi 1 = s) (hI : Inv s n m p q) {x : Int32} : CP (d + 1) mX12_peopleOn [.ref 0, .int x] shM mi mr 0 0 (PI (nI (cntB (fun j => decide (spt s j = x)) p)) shM mi mr) := by
  subst hs; exact c_peopleOn hM hI.ep hI.p6
theorem e_isLedge (hM : MB mr) (hs : mi 1 = s) (hI : Inv s n m p q) {x : Int32} : CP (d + 1) mX12_isLedge [.ref 0, .int x] shM mi mr 0 0 (PI (b2i (inR x n)) shM mi mr) := by
  subst hs; exact c_isLedge hM hI.en (Nat.lt_of_le_of_lt hI.n10 (by decide))
theorem e_isLadder (hM : MB mr) (hs : mi 1 = s) (hI : Inv s n m p q) {x : Int32} : CP (d + 1) mX12_isLadder [.ref 0, .int x] shM mi mr 0 0 (PI (b2i (inR x m)) shM mi mr) := by
  subst hs; exact c_isLadder hM hI.em (Nat.lt_of_le_of_lt hI.m8 (by decide))
theorem e_isPerson (hM : MB mr) (hs : mi 1 = s) (hI : Inv s n m p q) {x : Int32} : CP (d + 1) mX12_isPerson [.ref 0, .int x] shM mi mr 0 0 (PI (b2i (inR x p)) shM mi mr) := by
  subst hs; exact c_isPerson hM hI.ep (Nat.lt_of_le_of_lt hI.p6 (by decide))
theorem e_isText (hM : MB mr) (hs : mi 1 = s) (hI : Inv s n m p q) {x : Int32} : CP (d + 1) mX12_isText [.ref 0, .int x] shM mi mr 0 0 (PI (b2i (inR x q)) shM mi mr) := by
  subst hs; exact c_isText hM hI.eq3 (Nat.lt_of_le_of_lt hI.q14 (by decide))
/-- a text that counts, worked out with the names in the row 14 -/
theorem e_worked (hM : MB mr) (hs : mi 1 = s) (hI : Inv s n m p q) {t : Nat} (ht : t < q) {nm : Rw} (hn : ∀ j, nmOK (s (80 + 200 * t)) j → mi 14 j = nm j) : CP (d + 1) mX12_worked [.ref 0, .int (nI t)] shM mi mr 0 0 (PX shM mr (fun r mi2 => r = givT s t nm ∧ SP 15 mi mi2)) := by
  subst hs
  have h := c_worked (d := d) hM (Nat.lt_of_lt_of_le ht hI.q14) (hI.tx ht)
  have e : givT (mi 1) t (mi 14) = givT (mi 1) t nm := by
    unfold givT
    rw [runL_cong (hI.tx ht).2.2.2 hn _ (Nat.le_refl _)]
  rwa [e] at h
end SForm
theorem lst_neg {s : Rw} {q : Nat} {key : Int32} (h : ¬ 0 ≤ lstT s q key) : lstT s q key < 0 := Int32.not_le.mp h
theorem lst_pos {s : Rw} {q : Nat} {key : Int32} (hq : q ≤ 14) (h : 0 ≤ lstT s q key) : ∃ t, t < q ∧ lstT s q key = nI t ∧ s (80 + 200 * t) = key ∧ ¬ lstT s q key < 0 ∧ (lstT s q key).toNatClampNeg = t := by
  rcases lastB_cases (fun t => decide (s (80 + 200 * t) = key)) q with h1 | ⟨t, h1, h2, h3⟩
  · have h1 : lstT s q key = -1 := h1
    rw [h1] at h
    exact absurd h (by decide)
  · have h2 : lstT s q key = nI t := h2
    exact ⟨t, h1, h2, by simpa using h3, by rw [h2]; exact nI_pos (by omega), by rw [h2]; exact nI_clamp (by omega)⟩
theorem SPSB {a b c : MI} (h : SP 14 a b) (h2 : SP 15 b c) : SB a c := fun x h3 h4 => (h2 x h4).trans (h x h3)
theorem SP15 {a b : MI} (h : SP 15 a b) : SB a b := fun x _ h4 => h x h4
theorem SB_up14 {a b : MI} {k : Nat} {v : Int32} (h : SB a b) : SB a (upI b 14 k v) := fun x h3 h4 => (upI_ne h3).trans (h x h3 h4)
