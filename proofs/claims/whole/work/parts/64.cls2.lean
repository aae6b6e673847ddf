/-! THE CLASS'S TOWN over the model's row s -/
def nlen : Nat → Nat
  | 1 => 3 | _ => 2
/-- the letter of a name, by key and place -/
def nmL : Nat → Nat → Nat
  | 0, 0 => 104 | 0, _ => 112 | 1, 0 => 115 | 1, 1 => 108 | 1, _ => 100 | _, 0 => 109 | _, _ => 110
def na3 (f g h : Int32) : Nat → Int32
  | 0 => f | 1 => g | _ => h
/-- a step of the model's and a code of the class's -/
def cdR (kt : Nat) (w v c : Int32) : Prop :=
  (w = 0 ∧ c = v ∧ ∃ j, j < 10000 ∧ v = nI j) ∨ (w = 1 ∧ ∃ pl, pl < nlen kt ∧ c = nI (10000 + pl) ∧ v = nI (nmL kt pl)) ∨ (w = 2 ∧ c = -v ∧ (v = 33 ∨ sgOK v))
def TXT (sh : List Sh) (mi : MI) (mr : MR) (a : Nat) (s : Rw) (t : Nat) : Prop :=
  ∃ c kt, (76 ≤ a ∧ 76 ≤ c) ∧ (sh[a]? = some (12, 3) ∧ sh[c]? = some (0, cT s t)) ∧ mr a 2 = some c ∧ (kt < 3 ∧ s (80 + 200 * t) = nI kt ∧ mi a 0 = nI kt ∧ mi a 1 = s (80 + 200 * t + 1)) ∧ ∀ k, k < cT s t → cdR kt (stW s t k) (stV s t k) (mi c k)
def RT (sh : List Sh) (mi : MI) (mr : MR) (b : Nat) (s : Rw) (n m p q : Nat) : Prop :=
  (mi b 1 = nI n ∧ mi b 4 = nI m ∧ mi b 10 = nI p ∧ mi b 16 = nI q) ∧
  (mi b 9 = bitsB (fun l => decide (mvd s l = 1)) m ∧ mi b 13 = s 4 ∧ mi b 14 = s 5 ∧ mi b 15 = s 6) ∧
  (∀ i, i < n → mi (b + 1) i = hgt s i ∧ mi (b + 2) i = plc s i) ∧
  (∀ l, l < m → mi (b + 3) l = knd s l ∧ mi (b + 4) l = lng s l ∧ mi (b + 5) l = fot s l ∧ mi (b + 6) l = tpp s l) ∧
  (∀ i, i < p → mi (b + 7) i = spt s i ∧ mi (b + 8) i = stg s i) ∧
  (∀ k, k < 3 → mi (b + 10) k = lstT s q (nI k)) ∧
  (∀ t, t < q → ∃ a, mr (b + 9) t = some a ∧ TXT sh mi mr a s t)
section
variable {sh : List Sh} {mi mi2 : MI} {mr : MR} {b : Nat} {s : Rw} {n m p q : Nat}
theorem RT.en (h : RT sh mi mr b s n m p q) : mi b 1 = nI n := h.1.1
theorem RT.em (h : RT sh mi mr b s n m p q) : mi b 4 = nI m := h.1.2.1
theorem RT.ep (h : RT sh mi mr b s n m p q) : mi b 10 = nI p := h.1.2.2.1
theorem RT.eq (h : RT sh mi mr b s n m p q) : mi b 16 = nI q := h.1.2.2.2
theorem RT.mv (h : RT sh mi mr b s n m p q) : mi b 9 = bitsB (fun l => decide (mvd s l = 1)) m := h.2.1.1
theorem RT.dy (h : RT sh mi mr b s n m p q) : mi b 13 = s 4 := h.2.1.2.1
theorem RT.th (h : RT sh mi mr b s n m p q) : mi b 14 = s 5 := h.2.1.2.2.1
theorem RT.z (h : RT sh mi mr b s n m p q) : mi b 15 = s 6 := h.2.1.2.2.2
theorem RT.hg (h : RT sh mi mr b s n m p q) {i : Nat} (hi : i < n) : mi (b + 1) i = hgt s i := (h.2.2.1 i hi).1
theorem RT.pl (h : RT sh mi mr b s n m p q) {i : Nat} (hi : i < n) : mi (b + 2) i = plc s i := (h.2.2.1 i hi).2
theorem RT.kd (h : RT sh mi mr b s n m p q) {l : Nat} (hl : l < m) : mi (b + 3) l = knd s l := (h.2.2.2.1 l hl).1
theorem RT.ln (h : RT sh mi mr b s n m p q) {l : Nat} (hl : l < m) : mi (b + 4) l = lng s l := (h.2.2.2.1 l hl).2.1
theorem RT.ft (h : RT sh mi mr b s n m p q) {l : Nat} (hl : l < m) : mi (b + 5) l = fot s l := (h.2.2.2.1 l hl).2.2.1
theorem RT.tp (h : RT sh mi mr b s n m p q) {l : Nat} (hl : l < m) : mi (b + 6) l = tpp s l := (h.2.2.2.1 l hl).2.2.2
theorem RT.sp (h : RT sh mi mr b s n m p q) {i : Nat} (hi : i < p) : mi (b + 7) i = spt s i := (h.2.2.2.2.1 i hi).1
theorem RT.sg (h : RT sh mi mr b s n m p q) {i : Nat} (hi : i < p) : mi (b + 8) i = stg s i := (h.2.2.2.2.1 i hi).2
theorem RT.lk (h : RT sh mi mr b s n m p q) {k : Nat} (hk : k < 3) : mi (b + 10) k = lstT s q (nI k) := h.2.2.2.2.2.1 k hk
theorem RT.tx (h : RT sh mi mr b s n m p q) {t : Nat} (ht : t < q) : ∃ a, mr (b + 9) t = some a ∧ TXT sh mi mr a s t := h.2.2.2.2.2.2 t ht
theorem TXT.fr {a t : Nat} (h : TXT sh mi mr a s t) (h2 : ∀ x, 76 ≤ x → mi2 x = mi x) : TXT sh mi2 mr a s t := by
  obtain ⟨c, kt, ⟨h1, h1'⟩, e2, e3, ⟨g1, g2, g3, g4⟩, e5⟩ := h
  exact ⟨c, kt, ⟨h1, h1'⟩, e2, e3, ⟨g1, g2, by rw [h2 a h1]; exact g3, by rw [h2 a h1]; exact g4⟩, fun k hk => by rw [h2 c h1']; exact e5 k hk⟩
/-- what lies in the town's own cells, and behind 75, is the same -/
theorem RT.fr (h : RT sh mi mr b s n m p q) (h1 : ∀ x, b ≤ x → x < b + 11 → mi2 x = mi x) (h2 : ∀ x, 76 ≤ x → mi2 x = mi x) : RT sh mi2 mr b s n m p q := by
  obtain ⟨e1, e2, e3, e4, e5, e6, e7⟩ := h
  have hb := h1 b (by omega) (by omega)
  refine ⟨by rw [hb]; exact e1, by rw [hb]; exact e2, ?_, ?_, ?_, ?_, ?_⟩
  · rw [h1 (b + 1) (by omega) (by omega), h1 (b + 2) (by omega) (by omega)]; exact e3
  · rw [h1 (b + 3) (by omega) (by omega), h1 (b + 4) (by omega) (by omega), h1 (b + 5) (by omega) (by omega), h1 (b + 6) (by omega) (by omega)]; exact e4
  · rw [h1 (b + 7) (by omega) (by omega), h1 (b + 8) (by omega) (by omega)]; exact e5
  · rw [h1 (b + 10) (by omega) (by omega)]; exact e6
  · intro t ht
    obtain ⟨a, g1, g2⟩ := e7 t ht
    exact ⟨a, g1, g2.fr h2⟩
theorem RT.ss (h : RT sh mi mr b s n m p q) (hb : b + 11 < 76) (h2 : SP (b + 11) mi mi2) : RT sh mi2 mr b s n m p q := h.fr (fun x _ _ => h2 x (by omega)) (fun x _ => h2 x (by omega))
end
theorem SP.rf (a : Nat) (mi : MI) : SP a mi mi := fun _ _ => rfl
theorem SP.tr {a : Nat} {x y z : MI} (h : SP a x y) (h2 : SP a y z) : SP a x z := fun w hw => (h2 w hw).trans (h w hw)
theorem div_m1 (x : Int32) : x / (-1) = -x := by
  apply Int32.toInt_inj.mp
  have h1 : (-1 : Int32).toInt = -1 := by decide
  rw [Int32.toInt_div, h1, Int.tdiv_neg, Int.tdiv_one, Int32.toInt_neg]
theorem mx0 (x : Int32) : mxI 0 x = if 0 ≤ x then x else 0 := by
  unfold mxI
  by_cases h : 0 < x
  · rw [if_pos h, if_pos (Int32.le_of_lt h)]
  · rw [if_neg h]
    by_cases h2 : 0 ≤ x
    · rw [if_pos h2]
      exact Int32.le_antisymm h2 (Int32.not_lt.mp h)
    · rw [if_neg h2]
theorem mx_mn (v w : Int32) (hw : 0 ≤ w) : mxI 0 (mnI w v) = clampT v w := by
  rw [mx0]
  unfold mnI clampT
  by_cases h : v < w
  · rw [if_pos h]
    by_cases h2 : 0 ≤ v
    · rw [if_pos h2, if_pos h2, if_pos (Int32.le_of_lt h)]
    · rw [if_neg h2, if_neg h2]
  · rw [if_neg h, if_pos hw]
    have h3 : w ≤ v := Int32.not_lt.mp h
    rw [if_pos (Int32.le_trans hw h3)]
    by_cases h4 : v ≤ w
    · rw [if_pos h4]; exact Int32.le_antisymm h3 h4
    · rw [if_neg h4]
theorem ab_n : ∀ x, x < 100 → ∀ y, y < 100 → abI (nI x - nI y) = apartS (nI x) (nI y) := by decide +kernel
theorem ab_ap {x y : Int32} (hx : inB x 0 99 = true) (hy : inB y 0 99 = true) : abI (x - y) = apartS x y := by
  obtain ⟨i, hi, rfl⟩ := inB_of (hi := 99) hx
  obtain ⟨j, hj, rfl⟩ := inB_of (hi := 99) hy
  exact ab_n i (by omega) j (by omega)
theorem inB_up {x : Int32} {a b c : Int} (h : inB x a b = true) (hb : b ≤ c) : inB x a c = true := by
  unfold inB at h ⊢
  simp only [decide_eq_true_eq] at h ⊢
  omega
theorem ap_b {x y : Int32} (hx : inB x 0 99 = true) (hy : inB y 0 99 = true) : ∃ j, j ≤ 99 ∧ apartS x y = nI j := by
  obtain ⟨i, hi, rfl⟩ := inB_of (hi := 99) hx
  obtain ⟨j, hj, rfl⟩ := inB_of (hi := 99) hy
  unfold apartS
  rcases Nat.le_total j i with h | h
  · rw [if_pos (nI_le h (by omega)), pk_sub h]; exact ⟨i - j, by omega, rfl⟩
  · by_cases e : nI j ≤ nI i
    · rw [if_pos e]
      have : j ≤ i := (nI_leI (by omega) (by omega)).mp e
      rw [pk_sub this]; exact ⟨i - j, by omega, rfl⟩
    · rw [if_neg e, pk_sub h]; exact ⟨j - i, by omega, rfl⟩
theorem cl_sum {a b : Nat} (h : a + b ≤ 999) : clampT (nI a + nI b) 999 = nI a + nI b := by
  unfold clampT
  rw [nI_add, if_pos (nI_pos' (by omega)), if_pos (show nI (a + b) ≤ 999 from nI_le (b := 999) h (by omega))]
