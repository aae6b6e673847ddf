section WR2
variable {d : Nat} {μ : Mt} {pc : Nat} {L L2 S : List Value} {sh : List Sh} {mi : MI} {mr : MR} {cb sb : Nat} {Q : QT}
theorem s_istore_n {j : Fin 4} {i : Nat} {x : Int32} (hd : decode μ.2.1 pc = .ok (.istore_n j, 1)) (hi : (j : Nat) = i) (hn : i < L.length) (hq : L.length ≤ μ.2.2.1) (hcat : L.all catL = true) (hL : L.set i (.int x) = L2) (k : WP d μ (pc + 1) L2 S sh mi mr cb sb Q) : WP d μ pc L (.int x :: S) sh mi mr cb sb Q := by
  subst hL
  exact r_istore_n hd hi hn hq hcat k
theorem s_istore {i : Nat} {x : Int32} (hd : decode μ.2.1 pc = .ok (.istore i, 2)) (hn : i < L.length) (hq : L.length ≤ μ.2.2.1) (hcat : L.all catL = true) (hL : L.set i (.int x) = L2) (k : WP d μ (pc + 2) L2 S sh mi mr cb sb Q) : WP d μ pc L (.int x :: S) sh mi mr cb sb Q := by
  subst hL
  exact r_istore hd hn hq hcat k
theorem s_astore_n {j : Fin 4} {i : Nat} {x : Nat} (hd : decode μ.2.1 pc = .ok (.astore_n j, 1)) (hi : (j : Nat) = i) (hn : i < L.length) (hq : L.length ≤ μ.2.2.1) (hcat : L.all catL = true) (hL : L.set i (.ref x) = L2) (k : WP d μ (pc + 1) L2 S sh mi mr cb sb Q) : WP d μ pc L (.ref x :: S) sh mi mr cb sb Q := by
  subst hL
  exact r_astore_n hd hi hn hq hcat k
theorem s_astore {i : Nat} {x : Nat} (hd : decode μ.2.1 pc = .ok (.astore i, 2)) (hn : i < L.length) (hq : L.length ≤ μ.2.2.1) (hcat : L.all catL = true) (hL : L.set i (.ref x) = L2) (k : WP d μ (pc + 2) L2 S sh mi mr cb sb Q) : WP d μ pc L (.ref x :: S) sh mi mr cb sb Q := by
  subst hL
  exact r_astore hd hn hq hcat k
theorem s_iinc {i : Nat} {n : Int} {x c : Int32} (hd : decode μ.2.1 pc = .ok (.iinc i n, 3)) (h : L[i]? = some (.int x)) (hc : Int32.ofInt n = c) (hq : L.length ≤ μ.2.2.1) (hcat : L.all catL = true) (hL : L.set i (.int (x + c)) = L2) (k : WP d μ (pc + 3) L2 S sh mi mr cb sb Q) : WP d μ pc L S sh mi mr cb sb Q := by
  subst hL
  subst hc
  exact r_iinc hd h rfl hq hcat k
end WR2
/-- an int that is a place below n -/
def inR (x : Int32) (n : Nat) : Bool := decide (0 ≤ x.toInt ∧ x.toInt < n)
theorem inR_nI {j n : Nat} (h : j < n) (hn : n < 2147483648) : inR (nI j) n = true := by
  have := nI_toInt (n := j) (by omega)
  simp only [inR, this, decide_eq_true_eq]
  omega
theorem inR_of {x : Int32} {n : Nat} (h : inR x n = true) : ∃ j, j < n ∧ x = nI j := by
  simp only [inR, decide_eq_true_eq] at h
  refine ⟨x.toInt.toNat, by omega, ?_⟩
  apply Int32.toInt_inj.mp
  have h2 : x.toInt < 2147483648 := by have := Int32.toInt_lt x; simpa using this
  rw [nI_toInt (by omega)]
  omega
theorem nI_ix (a b l w : Nat) : nI a + nI b * nI l + nI w = nI (a + b * l + w) := by rw [pk_mul, nI_add, nI_add]
theorem nI_ix2 (a b l : Nat) : nI a + nI b * nI l = nI (a + b * l) := by rw [pk_mul, nI_add]
theorem i64_le (a b : Int32) : a.toInt64 ≤ b.toInt64 ↔ a.toInt ≤ b.toInt := by
  rw [Int64.le_iff_toInt_le]; simp
