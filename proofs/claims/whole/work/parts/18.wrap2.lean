section WR2
variable {d : Nat} {μ : Mt} {pc : Nat} {L L2 S : List Value} {sh : List Sh} {mi : MI} {mr : MR} {cb sb : Nat} {Q : QT}
theorem s_istore_n {j : Fin 4} {i : Nat} {x : Int32} (hd : decode μ.2.1 pc = .ok (.istore_n j, 1)) (hi : (j : Nat) = i) (hn : i < L.length) (hq : L.length ≤ μ.2.2.1) (hcat : L.all catL = true) (hL : L.set i (.int x) = L2) (k : WP d μ (pc + 1) L2 S sh mi mr cb sb Q) : WP d μ pc L (.int x :: S) sh mi mr cb sb Q := by
  subst hL
  exact r_istore_n hd hi hn hq hcat k
theorem s_istore {i : Nat} {x : Int32} (hd : decode μ.2.1 pc = .ok (.istore i, 2)) (hn : i < L.length) (hq : L.length ≤ μ.2.2.1) (hcat : L.all catL = true) (hL : L.set i (.int x) = L2) (k : WP d μ (pc + 2) L2 S sh mi mr cb sb Q) : WP d μ pc L (.int x :: S) sh mi mr cb sb Q := by
  subst hL
  exact r_istore hd hn hq hcat k
theorem s_astore_n {j : Fin 4} {i : Nat} {x : Nat} (hd : decode μ.2.1 pc = .ok (.astore_n j, 1)) (hi : (j : Nat) = i) (hn : i < L.length) (hq : L.length ≤ μ.2.2.1) (hcat : L.all catL = true) (hL : L.set i (.ref x) = L2) (k : WP d μ (pc + 1) L2 S sh mi mr cb sb Q) : WP d μ pc L (.ref x :: S) sh mi mr cb sb Q := by
  subst hL
  exact r_astore_n hd hi hn hq hcat k
theorem s_astore {i : Nat} {x : Nat} (hd : decode μ.2.1 pc = .ok (.astore i, 2)) (hn : i < L.length) (hq : L.length ≤ μ.2.2.1) (hcat : L.all catL = true) (hL : L.set i (.ref x) = L2) (k : WP d μ (pc + 2) L2 S sh mi mr cb sb Q) : WP d μ pc L (.ref x :: S) sh mi mr cb sb Q := by
  subst hL
  exact r_astore hd hn hq hcat k
theorem s_iinc {i : Nat} {n : Int} {x c : Int32} (hd : decode μ.2.1 pc = .ok (.iinc i n, 3)) (h : L[i]? = some (.int x)) (hc : Int32.ofInt n = c) (hq : L.length ≤ μ.2.2.1) (hcat : L.all catL = true) (hL : L.set i (.int (x + c)) = L2) (k : WP d μ (pc + 3) L2 S sh mi mr cb sb Q) : WP d μ pc L S sh mi mr cb sb Q := by
  subst hL
  subst hc
  exact r_iinc hd h rfl hq hcat k
end WR2
/-- an int that is a place below n -/
def inR (x : Int32) (n : Nat) : Bool := decide (0 ≤ x.toInt ∧ x.toInt < n)
theorem inR_nI {j n : Nat} (h : j < n) (hn : n < 2147483648) : inR (nI j) n = true := by
  have := nI_toInt (n := j) (by omega)
  simp only [inR, this, decide_eq_true_eq]
  omega
theorem inR_of {x : Int32} {n : Nat} (h : inR x n = true) : ∃ j, j < n ∧ x = nI j := by
  simp only [inR, decide_eq_true_eq] at h
  refine ⟨x.toInt.toNat, by omega, ?_⟩
  apply Int32.toInt_inj.mp
  have h2 : x.toInt < 2147483648 := by have := Int32.toInt_lt x; simpa using this
  rw [nI_toInt (by omega)]
  omega
theorem nI_ix (a b l w : Nat) : nI a + nI b * nI l + nI w = nI (a + b * l + w) := by rw [pk_mul, nI_add, nI_add]
theorem nI_ix2 (a b l : Nat) : nI a + nI b * nI l = nI (a + b * l) := by rw [pk_mul, nI_add]
theorem i64_le (a b : Int32) : a.toInt64 ≤ b.toInt64 ↔ a.toInt ≤ b.toInt := by
  rw [Int64.le_iff_toInt_le]; simp
theorem ic_m8 : Int32.ofInt (-8) = -8 := by decide
theorem ic_m1 : Int32.ofInt (-1) = -1 := by decide
theorem ic_0 : Int32.ofInt (0) = 0 := by decide
theorem ic_1 : Int32.ofInt (1) = 1 := by decide
theorem ic_2 : Int32.ofInt (2) = 2 := by decide
theorem ic_3 : Int32.ofInt (3) = 3 := by decide
theorem ic_4 : Int32.ofInt (4) = 4 := by decide
theorem ic_5 : Int32.ofInt (5) = 5 := by decide
theorem ic_6 : Int32.ofInt (6) = 6 := by decide
theorem bp_m100 : (Int8.ofInt (-100)).toInt32 = -100 := by decide
theorem bp_m33 : (Int8.ofInt (-33)).toInt32 = -33 := by decide
theorem bp_6 : (Int8.ofInt (6)).toInt32 = 6 := by decide
theorem bp_8 : (Int8.ofInt (8)).toInt32 = 8 := by decide
theorem bp_9 : (Int8.ofInt (9)).toInt32 = 9 := by decide
theorem bp_10 : (Int8.ofInt (10)).toInt32 = 10 := by decide
theorem bp_12 : (Int8.ofInt (12)).toInt32 = 12 := by decide
theorem bp_14 : (Int8.ofInt (14)).toInt32 = 14 := by decide
theorem bp_16 : (Int8.ofInt (16)).toInt32 = 16 := by decide
theorem bp_17 : (Int8.ofInt (17)).toInt32 = 17 := by decide
theorem bp_20 : (Int8.ofInt (20)).toInt32 = 20 := by decide
theorem bp_24 : (Int8.ofInt (24)).toInt32 = 24 := by decide
theorem bp_28 : (Int8.ofInt (28)).toInt32 = 28 := by decide
theorem bp_29 : (Int8.ofInt (29)).toInt32 = 29 := by decide
theorem bp_30 : (Int8.ofInt (30)).toInt32 = 30 := by decide
theorem bp_32 : (Int8.ofInt (32)).toInt32 = 32 := by decide
theorem bp_33 : (Int8.ofInt (33)).toInt32 = 33 := by decide
theorem bp_38 : (Int8.ofInt (38)).toInt32 = 38 := by decide
theorem bp_40 : (Int8.ofInt (40)).toInt32 = 40 := by decide
theorem bp_41 : (Int8.ofInt (41)).toInt32 = 41 := by decide
theorem bp_42 : (Int8.ofInt (42)).toInt32 = 42 := by decide
theorem bp_43 : (Int8.ofInt (43)).toInt32 = 43 := by decide
theorem bp_45 : (Int8.ofInt (45)).toInt32 = 45 := by decide
theorem bp_47 : (Int8.ofInt (47)).toInt32 = 47 := by decide
theorem bp_48 : (Int8.ofInt (48)).toInt32 = 48 := by decide
theorem bp_57 : (Int8.ofInt (57)).toInt32 = 57 := by decide
theorem bp_60 : (Int8.ofInt (60)).toInt32 = 60 := by decide
theorem bp_61 : (Int8.ofInt (61)).toInt32 = 61 := by decide
theorem bp_62 : (Int8.ofInt (62)).toInt32 = 62 := by decide
theorem bp_63 : (Int8.ofInt (63)).toInt32 = 63 := by decide
theorem bp_68 : (Int8.ofInt (68)).toInt32 = 68 := by decide
theorem bp_80 : (Int8.ofInt (80)).toInt32 = 80 := by decide
theorem bp_96 : (Int8.ofInt (96)).toInt32 = 96 := by decide
theorem bp_97 : (Int8.ofInt (97)).toInt32 = 97 := by decide
theorem bp_99 : (Int8.ofInt (99)).toInt32 = 99 := by decide
theorem bp_100 : (Int8.ofInt (100)).toInt32 = 100 := by decide
theorem bp_101 : (Int8.ofInt (101)).toInt32 = 101 := by decide
theorem bp_104 : (Int8.ofInt (104)).toInt32 = 104 := by decide
theorem bp_108 : (Int8.ofInt (108)).toInt32 = 108 := by decide
theorem bp_109 : (Int8.ofInt (109)).toInt32 = 109 := by decide
theorem bp_110 : (Int8.ofInt (110)).toInt32 = 110 := by decide
theorem bp_111 : (Int8.ofInt (111)).toInt32 = 111 := by decide
theorem bp_112 : (Int8.ofInt (112)).toInt32 = 112 := by decide
theorem bp_115 : (Int8.ofInt (115)).toInt32 = 115 := by decide
theorem bp_116 : (Int8.ofInt (116)).toInt32 = 116 := by decide
theorem bp_118 : (Int8.ofInt (118)).toInt32 = 118 := by decide
theorem bp_120 : (Int8.ofInt (120)).toInt32 = 120 := by decide
theorem bp_122 : (Int8.ofInt (122)).toInt32 = 122 := by decide
theorem bp_124 : (Int8.ofInt (124)).toInt32 = 124 := by decide
theorem sp_128 : (Int16.ofInt (128)).toInt32 = 128 := by decide
theorem sp_200 : (Int16.ofInt (200)).toInt32 = 200 := by decide
theorem sp_255 : (Int16.ofInt (255)).toInt32 = 255 := by decide
theorem sp_999 : (Int16.ofInt (999)).toInt32 = 999 := by decide
theorem sp_1023 : (Int16.ofInt (1023)).toInt32 = 1023 := by decide
theorem sp_2880 : (Int16.ofInt (2880)).toInt32 = 2880 := by decide
theorem sp_3080 : (Int16.ofInt (3080)).toInt32 = 3080 := by decide
theorem sp_10000 : (Int16.ofInt (10000)).toInt32 = 10000 := by decide
theorem sp_12345 : (Int16.ofInt (12345)).toInt32 = 12345 := by decide
theorem lc_0 : Int64.ofNat ((0 : Fin 2) : Nat) = 0 := by decide
theorem lc_1 : Int64.ofNat ((1 : Fin 2) : Nat) = 1 := by decide
