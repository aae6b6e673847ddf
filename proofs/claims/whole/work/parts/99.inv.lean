/-! WHAT THE TOWN KEEPS through its changes -/
section
variable {s s2 : Rw} {n m p q : Nat}
theorem Inv.mk2 {n2 m2 p2 : Nat} (hI : Inv s n m p q) (hx : ∀ k, 80 ≤ k → s2 k = s k) (h3 : s2 3 = s 3) (a : s2 0 = nI n2 ∧ n2 ≤ 10) (b : s2 1 = nI m2 ∧ m2 ≤ 8) (c : s2 2 = nI p2 ∧ p2 ≤ 6) (L : ∀ l, l < m2 → InvL s2 n2 l) (P : ∀ i, i < p2 → (spt s2 i = nI (sN s2 i) ∧ sN s2 i < n2) ∧ inB (stg s2 i) 0 99 = true) (H : ∀ i, i < n2 → inB (hgt s2 i) 0 99 = true ∧ inB (plc s2 i) 0 29 = true) (h5 : inB (s2 5) 0 100 = true) : Inv s2 n2 m2 p2 q :=
  ⟨a, b, c, ⟨h3.trans hI.eq3, hI.q14⟩, L, P, fun t ht => ⟨(hI.tx ht).rg (fun k h1 _ => hx k (by omega)), by rw [hx _ (by omega)]; exact hI.ky ht⟩, H, h5⟩
theorem clN {s : Rw} {k j : Nat} (h : s k = nI j) (hj : j < 100) : (s k).toNatClampNeg = j := by rw [h, nI_clamp (by omega)]
/-- one number of the town changes -/
theorem Inv.one (hI : Inv s n m p q) {k : Nat} {v : Int32} (hk : 5 ≤ k) (hk80 : k < 80) (c5 : k = 5 → inB v 0 100 = true) (c1 : ∀ i, i < n → k = 8 + 2 * i → inB v 0 99 = true) (c2 : ∀ i, i < n → k = 8 + 2 * i + 1 → inB v 0 29 = true) (d0 : ∀ l, l < m → k = 28 + 5 * l + 0 → ∃ j, j < 6 ∧ v = nI j) (d1 : ∀ l, l < m → k = 28 + 5 * l + 1 → inB v 1 99 = true) (d2 : ∀ l, l < m → k = 28 + 5 * l + 2 → ∃ j, j < n ∧ v = nI j) (d3 : ∀ l, l < m → k = 28 + 5 * l + 3 → ∃ j, j < n ∧ v = nI j) (d4 : ∀ l, l < m → k = 28 + 5 * l + 4 → v = 0 ∨ v = 1) (f0 : ∀ i, i < p → k = 68 + 2 * i → ∃ j, j < n ∧ v = nI j) (f1 : ∀ i, i < p → k = 68 + 2 * i + 1 → inB v 0 99 = true) : Inv (upd s k v) n m p q := by
  have hn10 := hI.n10
  refine hI.mk2 (fun j hj => upd_n (by omega)) (upd_n (by omega)) ⟨by rw [upd_n (by omega)]; exact hI.en, hI.n10⟩ ⟨by rw [upd_n (by omega)]; exact hI.em, hI.m8⟩ ⟨by rw [upd_n (by omega)]; exact hI.ep, hI.p6⟩ (fun l hl => ?_) (fun i hi => ?_) (fun i hi => ?_) ?_
  · have h0 := hI.2.2.2.2.1 l hl
    unfold InvL kN fN tN knd lng fot tpp mvd at h0 ⊢
    obtain ⟨a0, a2, a3, a4, a1⟩ := h0
    refine ⟨?_, ?_, ?_, ?_, ?_⟩
    · by_cases e : 28 + 5 * l + 0 = k
      · subst e
        obtain ⟨j, hj, rfl⟩ := d0 l hl rfl
        rw [upd_s, nI_clamp (by omega)]
        exact ⟨rfl, hj⟩
      · rw [upd_n e]; exact a0
    · by_cases e : 28 + 5 * l + 2 = k
      · subst e
        obtain ⟨j, hj, rfl⟩ := d2 l hl rfl
        rw [upd_s, nI_clamp (by omega)]
        exact ⟨rfl, hj⟩
      · rw [upd_n e]; exact a2
    · by_cases e : 28 + 5 * l + 3 = k
      · subst e
        obtain ⟨j, hj, rfl⟩ := d3 l hl rfl
        rw [upd_s, nI_clamp (by omega)]
        exact ⟨rfl, hj⟩
      · rw [upd_n e]; exact a3
    · by_cases e : 28 + 5 * l + 4 = k
      · subst e
        rw [upd_s]; exact d4 l hl rfl
      · rw [upd_n e]; exact a4
    · by_cases e : 28 + 5 * l + 1 = k
      · subst e
        rw [upd_s]; exact d1 l hl rfl
      · rw [upd_n e]; exact a1
  · have h0 := hI.2.2.2.2.2.1 i hi
    unfold sN spt stg at h0 ⊢
    refine ⟨?_, ?_⟩
    · by_cases e : 68 + 2 * i = k
      · subst e
        obtain ⟨j, hj, rfl⟩ := f0 i hi rfl
        rw [upd_s, nI_clamp (by omega)]
        exact ⟨rfl, hj⟩
      · rw [upd_n e]; exact h0.1
    · by_cases e : 68 + 2 * i + 1 = k
      · subst e
        rw [upd_s]; exact f1 i hi rfl
      · rw [upd_n e]; exact h0.2
  · have h0 := hI.hp hi
    unfold hgt plc at h0 ⊢
    refine ⟨?_, ?_⟩
    · by_cases e : 8 + 2 * i = k
      · subst e
        rw [upd_s]; exact c1 i hi rfl
      · rw [upd_n e]; exact h0.1
    · by_cases e : 8 + 2 * i + 1 = k
      · subst e
        rw [upd_s]; exact c2 i hi rfl
      · rw [upd_n e]; exact h0.2
  · by_cases e : 5 = k
    · subst e
      rw [upd_s]; exact c5 rfl
    · rw [upd_n e]; exact hI.th
theorem Inv.n1 (hI : Inv s n m p q) (hn : n < 10) (h1 : inB (hgt s n) 0 99 = true) (h2 : inB (plc s n) 0 29 = true) : Inv (upd s 0 (nI (n + 1))) (n + 1) m p q := by
  refine hI.mk2 (fun j hj => upd_n (by omega)) (upd_n (by omega)) ⟨upd_s, by omega⟩ ⟨by rw [upd_n (by omega)]; exact hI.em, hI.m8⟩ ⟨by rw [upd_n (by omega)]; exact hI.ep, hI.p6⟩ (fun l hl => ?_) (fun i hi => ?_) (fun i hi => ?_) (by rw [upd_n (by omega)]; exact hI.th)
  · have h0 := hI.2.2.2.2.1 l hl
    unfold InvL kN fN tN knd lng fot tpp mvd at h0 ⊢
    obtain ⟨a0, a2, a3, a4, a1⟩ := h0
    refine ⟨by rw [upd_n (by omega)]; exact a0, by rw [upd_n (by omega)]; exact ⟨a2.1, by omega⟩, by rw [upd_n (by omega)]; exact ⟨a3.1, by omega⟩, by rw [upd_n (by omega)]; exact a4, by rw [upd_n (by omega)]; exact a1⟩
  · have h0 := hI.2.2.2.2.2.1 i hi
    unfold sN spt stg at h0 ⊢
    exact ⟨by rw [upd_n (by omega)]; exact ⟨h0.1.1, by omega⟩, by rw [upd_n (by omega)]; exact h0.2⟩
  · have e : ∀ i, hgt (upd s 0 (nI (n + 1))) i = hgt s i ∧ plc (upd s 0 (nI (n + 1))) i = plc s i := fun i => by
      unfold hgt plc
      exact ⟨upd_n (by omega), upd_n (by omega)⟩
    rw [(e i).1, (e i).2]
    rcases Nat.lt_or_ge i n with z | z
    · exact hI.hp z
    · obtain rfl : i = n := by omega
      exact ⟨h1, h2⟩
theorem Inv.m1 (hI : Inv s n m p q) (hm : m < 8) (h1 : InvL s n m) : Inv (upd s 1 (nI (m + 1))) n (m + 1) p q := by
  refine hI.mk2 (fun j hj => upd_n (by omega)) (upd_n (by omega)) ⟨by rw [upd_n (by omega)]; exact hI.en, hI.n10⟩ ⟨upd_s, by omega⟩ ⟨by rw [upd_n (by omega)]; exact hI.ep, hI.p6⟩ (fun l hl => ?_) (fun i hi => ?_) (fun i hi => ?_) (by rw [upd_n (by omega)]; exact hI.th)
  · have h0 : InvL s n l := by
      rcases Nat.lt_or_ge l m with z | z
      · exact hI.2.2.2.2.1 l z
      · obtain rfl : l = m := by omega
        exact h1
    unfold InvL kN fN tN knd lng fot tpp mvd at h0 ⊢
    obtain ⟨a0, a2, a3, a4, a1⟩ := h0
    refine ⟨by rw [upd_n (by omega)]; exact a0, by rw [upd_n (by omega)]; exact a2, by rw [upd_n (by omega)]; exact a3, by rw [upd_n (by omega)]; exact a4, by rw [upd_n (by omega)]; exact a1⟩
  · have h0 := hI.2.2.2.2.2.1 i hi
    unfold sN spt stg at h0 ⊢
    exact ⟨by rw [upd_n (by omega)]; exact h0.1, by rw [upd_n (by omega)]; exact h0.2⟩
  · have h0 := hI.hp hi
    unfold hgt plc at h0 ⊢
    exact ⟨by rw [upd_n (by omega)]; exact h0.1, by rw [upd_n (by omega)]; exact h0.2⟩
theorem Inv.p1 (hI : Inv s n m p q) (hp : p < 6) (h1 : (spt s p = nI (sN s p) ∧ sN s p < n) ∧ inB (stg s p) 0 99 = true) : Inv (upd s 2 (nI (p + 1))) n m (p + 1) q := by
  refine hI.mk2 (fun j hj => upd_n (by omega)) (upd_n (by omega)) ⟨by rw [upd_n (by omega)]; exact hI.en, hI.n10⟩ ⟨by rw [upd_n (by omega)]; exact hI.em, hI.m8⟩ ⟨upd_s, by omega⟩ (fun l hl => ?_) (fun i hi => ?_) (fun i hi => ?_) (by rw [upd_n (by omega)]; exact hI.th)
  · have h0 := hI.2.2.2.2.1 l hl
    unfold InvL kN fN tN knd lng fot tpp mvd at h0 ⊢
    obtain ⟨a0, a2, a3, a4, a1⟩ := h0
    refine ⟨by rw [upd_n (by omega)]; exact a0, by rw [upd_n (by omega)]; exact a2, by rw [upd_n (by omega)]; exact a3, by rw [upd_n (by omega)]; exact a4, by rw [upd_n (by omega)]; exact a1⟩
  · have h0 : (spt s i = nI (sN s i) ∧ sN s i < n) ∧ inB (stg s i) 0 99 = true := by
      rcases Nat.lt_or_ge i p with z | z
      · exact hI.2.2.2.2.2.1 i z
      · obtain rfl : i = p := by omega
        exact h1
    unfold sN spt stg at h0 ⊢
    exact ⟨by rw [upd_n (by omega)]; exact h0.1, by rw [upd_n (by omega)]; exact h0.2⟩
  · have h0 := hI.hp hi
    unfold hgt plc at h0 ⊢
    exact ⟨by rw [upd_n (by omega)]; exact h0.1, by rw [upd_n (by omega)]; exact h0.2⟩
theorem Inv.uH (hI : Inv s n m p q) {b : Nat} (hb : b < 10) {v : Int32} (hv : inB v 0 99 = true) : Inv (upd s (8 + 2 * b + 0) v) n m p q :=
  hI.one (by omega) (by omega) (by omega) (fun _ _ _ => hv) (by omega) (by omega) (by omega) (by omega) (by omega) (by omega) (by omega) (by omega)
theorem Inv.uP (hI : Inv s n m p q) {b : Nat} (hb : b < 10) {v : Int32} (hv : inB v 0 29 = true) : Inv (upd s (8 + 2 * b + 1) v) n m p q :=
  hI.one (by omega) (by omega) (by omega) (by omega) (fun _ _ _ => hv) (by omega) (by omega) (by omega) (by omega) (by omega) (by omega) (by omega)
theorem Inv.thv (hI : Inv s n m p q) {v : Int32} (hv : inB v 0 100 = true) : Inv (upd s 5 v) n m p q :=
  hI.one (by omega) (by omega) (fun _ => hv) (by omega) (by omega) (by omega) (by omega) (by omega) (by omega) (by omega) (by omega) (by omega)
theorem Inv.uK (hI : Inv s n m p q) {l : Nat} (hl : l < 8) {v : Int32} (hv : inB v 0 5 = true) : Inv (upd s (28 + 5 * l + 0) v) n m p q := by
  have hn := hI.n10
  exact hI.one (by omega) (by omega) (by omega) (by omega) (by omega) (fun _ _ _ => by obtain ⟨j, hj, rfl⟩ := inB_of (hi := 5) hv; exact ⟨j, by omega, rfl⟩) (by omega) (by omega) (by omega) (by omega) (by omega) (by omega)
theorem Inv.uL (hI : Inv s n m p q) {l : Nat} (hl : l < 8) {v : Int32} (hv : inB v 1 99 = true) : Inv (upd s (28 + 5 * l + 1) v) n m p q := by
  have hn := hI.n10
  exact hI.one (by omega) (by omega) (by omega) (by omega) (by omega) (by omega) (fun _ _ _ => hv) (by omega) (by omega) (by omega) (by omega) (by omega)
theorem Inv.uF (hI : Inv s n m p q) {l b : Nat} (hl : l < 8) (hb : b < n) : Inv (upd s (28 + 5 * l + 2) (nI b)) n m p q := by
  have hn := hI.n10
  exact hI.one (by omega) (by omega) (by omega) (by omega) (by omega) (by omega) (by omega) (fun _ _ _ => ⟨b, hb, rfl⟩) (by omega) (by omega) (by omega) (by omega)
theorem Inv.uT (hI : Inv s n m p q) {l b : Nat} (hl : l < 8) (hb : b < n) : Inv (upd s (28 + 5 * l + 3) (nI b)) n m p q := by
  have hn := hI.n10
  exact hI.one (by omega) (by omega) (by omega) (by omega) (by omega) (by omega) (by omega) (by omega) (fun _ _ _ => ⟨b, hb, rfl⟩) (by omega) (by omega) (by omega)
theorem Inv.uM (hI : Inv s n m p q) {l : Nat} (hl : l < 8) {v : Int32} (hv : v = 0 ∨ v = 1) : Inv (upd s (28 + 5 * l + 4) v) n m p q := by
  have hn := hI.n10
  exact hI.one (by omega) (by omega) (by omega) (by omega) (by omega) (by omega) (by omega) (by omega) (by omega) (fun _ _ _ => hv) (by omega) (by omega)
theorem Inv.uS (hI : Inv s n m p q) {i b : Nat} (hi : i < 6) (hb : b < n) : Inv (upd s (68 + 2 * i) (nI b)) n m p q := by
  have hn := hI.n10
  have hm := hI.m8
  exact hI.one (by omega) (by omega) (by omega) (by omega) (by omega) (by omega) (by omega) (by omega) (by omega) (by omega) (fun _ _ _ => ⟨b, hb, rfl⟩) (by omega)
theorem Inv.uG (hI : Inv s n m p q) {i : Nat} (hi : i < 6) {v : Int32} (hv : inB v 0 99 = true) : Inv (upd s (68 + 2 * i + 1) v) n m p q := by
  have hn := hI.n10
  have hm := hI.m8
  exact hI.one (by omega) (by omega) (by omega) (by omega) (by omega) (by omega) (by omega) (by omega) (by omega) (by omega) (by omega) (fun _ _ _ => hv)
theorem Inv.adL (hI : Inv s n m p q) (hn : n < 10) {x y : Int32} (hx : inB x 0 99 = true) (hy : inB y 0 29 = true) : Inv (upd (upd (upd s (8 + 2 * n) x) (8 + 2 * n + 1) y) 0 (nI (n + 1))) (n + 1) m p q :=
  ((hI.uH hn hx).uP hn hy).n1 hn (by unfold hgt; rw [upd_n (by omega), show 8 + 2 * n = 8 + 2 * n + 0 from rfl, upd_s]; exact hx) (by unfold plc; rw [upd_s]; exact hy)
theorem Inv.adP (hI : Inv s n m p q) (hp : p < 6) {x y : Int32} (hx : inR x n = true) (hy : inB y 0 99 = true) : Inv (upd (upd (upd s (68 + 2 * p) x) (68 + 2 * p + 1) y) 2 (nI (p + 1))) n m (p + 1) q := by
  obtain ⟨j, hj, rfl⟩ := inR_of hx
  have hn := hI.n10
  refine ((hI.uS hp hj).uG hp hy).p1 hp ⟨?_, ?_⟩
  · unfold sN spt
    rw [upd_n (by omega), upd_s, nI_clamp (by omega)]
    exact ⟨rfl, hj⟩
  · unfold stg
    rw [upd_s]; exact hy
theorem Inv.adD (hI : Inv s n m p q) (hm : m < 8) {x y z w : Int32} (hx : inB x 0 5 = true) (hy : inB y 1 99 = true) (hz : inR z n = true) (hw : inR w n = true) : Inv (upd (upd (upd (upd (upd (upd s 1 (nI (m + 1))) (28 + 5 * m + 0) x) (28 + 5 * m + 1) y) (28 + 5 * m + 2) z) (28 + 5 * m + 3) w) (28 + 5 * m + 4) 0) n (m + 1) p q := by
  obtain ⟨jz, hjz, rfl⟩ := inR_of hz
  obtain ⟨jw, hjw, rfl⟩ := inR_of hw
  obtain ⟨jx, hjx, rfl⟩ := inB_of (hi := 5) hx
  have hn := hI.n10
  have h2 := (((((hI.uK hm hx).uL hm hy).uF hm hjz).uT hm hjw).uM hm (Or.inl rfl)).m1 hm ?_
  · rw [upd_x (k := 28 + 5 * m + 4) (j := 1) (by omega), upd_x (k := 28 + 5 * m + 3) (j := 1) (by omega), upd_x (k := 28 + 5 * m + 2) (j := 1) (by omega), upd_x (k := 28 + 5 * m + 1) (j := 1) (by omega), upd_x (k := 28 + 5 * m + 0) (j := 1) (by omega)] at h2
    exact h2
  · unfold InvL kN fN tN knd lng fot tpp mvd
    refine ⟨?_, ?_, ?_, Or.inl upd_s, ?_⟩
    · rw [upd_n (by omega), upd_n (by omega), upd_n (by omega), upd_n (by omega), upd_s, nI_clamp (by omega)]
      exact ⟨rfl, by omega⟩
    · rw [upd_n (by omega), upd_n (by omega), upd_s, nI_clamp (by omega)]
      exact ⟨rfl, hjz⟩
    · rw [upd_n (by omega), upd_s, nI_clamp (by omega)]
      exact ⟨rfl, hjw⟩
    · rw [upd_n (by omega), upd_n (by omega), upd_n (by omega), upd_s]
      exact hy
theorem clamp_ok (v : Int32) : inB (clampT v 99) 0 99 = true := by
  unfold clampT
  split
  · rename_i h0
    have h0 := Int32.le_iff_toInt_le.mp h0
    split
    · rename_i h1
      have h1 := Int32.le_iff_toInt_le.mp h1
      have e9 : (99 : Int32).toInt = 99 := by decide
      have e0 : (0 : Int32).toInt = 0 := by decide
      rw [e9] at h1
      rw [e0] at h0
      exact decide_eq_true ⟨h0, h1⟩
    · decide
  · decide
theorem pourV_ok {pl : Rw} {b : Nat} (hI : Inv s n m p q) (hb : b < n) : inB (pourV s pl b) 0 99 = true := by
  unfold pourV
  split
  · exact (hI.hp hb).1
  · exact clamp_ok _
theorem pour_ok {pl : Rw} (hI : Inv s n m p q) : ∀ b, b ≤ n → Inv (pourR s pl b).1 n m p q
  | 0, _ => hI
  | b + 1, hb => (pour_ok hI b (by omega)).uH (b := b) (by have := hI.n10; omega) (pourV_ok hI (by omega))
theorem pour_cg {pl pl2 : Rw} : ∀ b, (∀ i, i < b → pl2 i = pl i) → pourR s pl2 b = pourR s pl b
  | 0, _ => rfl
  | b + 1, h => by
    have e := pour_cg b (fun i hi => h i (by omega))
    have e2 : pourV s pl2 b = pourV s pl b := by unfold pourV; rw [h b (by omega)]
    unfold pourR
    rw [e, e2]
theorem drw_n (z : Int32) : ∃ j, j < 16777216 ∧ drw z = nI j := by
  refine ⟨(z.toUInt32 >>> 8).toNat, ?_, ?_⟩
  · rw [UInt32.toNat_shiftRight]
    have := z.toUInt32.toNat_lt
    rw [Nat.shiftRight_eq_div_pow]
    show z.toUInt32.toNat / 256 < _
    omega
  · unfold drw
    rw [show (8 : Int32).toUInt32 &&& Int32.toUInt32 31 = 8 from by decide]
    apply Int32.toBitVec_inj.mp
    apply BitVec.eq_of_toNat_eq
    have hlt := (z.toUInt32 >>> 8).toNat_lt
    show (z.toUInt32 >>> 8).toNat = (BitVec.ofNat 32 (z.toUInt32 >>> 8).toNat).toNat
    rw [BitVec.toNat_ofNat]
    omega
theorem rem_ok (z : Int32) {k : Nat} (h0 : 0 < k) (hk : k ≤ 100) : inB (remS (drw z) (nI k)) 0 ((k - 1 : Nat) : Int) = true := by
  obtain ⟨j, hj, e⟩ := drw_n z
  unfold remS
  rw [e, pk_rem (by omega) h0 (by omega)]
  have := Nat.mod_lt j h0
  exact inB_nI (by omega) (by omega)
theorem deal_ok {M : MI} : ∀ K {n : Nat}, n + K ≤ 10 → Inv (M 1) n m p q → Inv (dealK M n K 1) (n + K) m p q
  | 0, n, _, h => h
  | K + 1, n, hn, h => by
    have h1 := deal_ok K (n := n) (by omega) h
    show Inv (deal1 (dealK M n K) (n + K) 1) (n + K + 1) m p q
    unfold deal1 addL
    rw [upI_self, upI_self, upI_self, upI_self, upI_self]
    exact ((h1.up (Or.inr (Or.inl rfl))).up (Or.inr (Or.inl rfl))).adL (by omega) (rem_ok _ (k := 100) (by decide) (by decide)) (rem_ok _ (k := 30) (by decide) (by decide))
end
