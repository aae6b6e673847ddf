theorem TXT.cg {sh : List Sh} {mi : MI} {mr : MR} {a t : Nat} {s s2 : Rw} (h : TXT sh mi mr a s t) (hx : ∀ k, 80 ≤ k → s2 k = s k) : TXT sh mi mr a s2 t := by
  obtain ⟨c, kt, z, ⟨e2, e2'⟩, e3, ⟨g1, g2, g3, g4⟩, e5⟩ := h
  obtain ⟨t1, t2, t3⟩ := tx_cong hx
  have ec := (t3 t 0 0).2.2
  refine ⟨c, kt, z, ⟨e2, by rw [ec]; exact e2'⟩, e3, ⟨g1, by rw [hx _ (by omega)]; exact g2, g3, by rw [hx _ (by omega)]; exact g4⟩, ?_⟩
  intro k hk
  rw [t1, t2]
  exact e5 k (by rw [← ec]; exact hk)
section
variable {sh : List Sh} {mi mi2 : MI} {mr : MR} {b : Nat} {s s2 : Rw} {n m p q n2 m2 p2 : Nat}
theorem RT.ch (h : RT sh mi mr b s n m p q) (hx : ∀ k, 80 ≤ k → s2 k = s k) (h76 : ∀ x, 76 ≤ x → mi2 x = mi x) (h10 : mi2 (b + 10) = mi (b + 10)) (hq : mi2 b 16 = mi b 16)
    (e1 : mi2 b 1 = nI n2 ∧ mi2 b 4 = nI m2 ∧ mi2 b 10 = nI p2) (e2 : mi2 b 9 = bitsB (fun l => decide (mvd s2 l = 1)) m2 ∧ mi2 b 13 = s2 4 ∧ mi2 b 14 = s2 5 ∧ mi2 b 15 = s2 6)
    (e3 : ∀ i, i < n2 → mi2 (b + 1) i = hgt s2 i ∧ mi2 (b + 2) i = plc s2 i) (e4 : ∀ l, l < m2 → mi2 (b + 3) l = knd s2 l ∧ mi2 (b + 4) l = lng s2 l ∧ mi2 (b + 5) l = fot s2 l ∧ mi2 (b + 6) l = tpp s2 l)
    (e5 : ∀ i, i < p2 → mi2 (b + 7) i = spt s2 i ∧ mi2 (b + 8) i = stg s2 i) : RT sh mi2 mr b s2 n2 m2 p2 q := by
  obtain ⟨g1, g2, g3, g4, g5, g6, g7⟩ := h
  refine ⟨⟨e1.1, e1.2.1, e1.2.2, hq.trans g1.2.2.2⟩, e2, e3, e4, e5, fun k hk => ?_, fun t ht => ?_⟩
  · rw [h10, ((tx_cong hx).2.2 0 (nI k) q).1]; exact g6 k hk
  · obtain ⟨a, a1, a2⟩ := g7 t ht
    exact ⟨a, a1, (a2.fr h76).cg hx⟩

theorem RT.u_hgt (h : RT sh mi mr b s n m p q) (hn10 : n ≤ 10) (hm8 : m ≤ 8) (hp6 : p ≤ 6) (hb : b + 11 < 76) {j : Nat} (hj : j < 10) {v : Int32} : RT sh (upI mi (b + 1) j v) mr b (upd s (8 + 2 * j) v) n m p q := by
  have hmv : ∀ l, l < m → mvd (upd s (8 + 2 * j) v) l = mvd s l := fun l hl => by unfold mvd; rw [upd_n (by omega)]
  refine h.ch (fun k hk => upd_n (by omega)) (fun x hx => upI_ne (by omega)) (upI_ne (by omega)) (up_oth (by omega)) ⟨by rw [up_oth (by omega)]; exact h.en, by rw [up_oth (by omega)]; exact h.em, by rw [up_oth (by omega)]; exact h.ep⟩ ⟨by rw [up_oth (by omega), h.mv]; exact bits_cong m (fun l hl => by rw [hmv l hl]), by rw [up_oth (by omega), upd_n (by omega)]; exact h.dy, by rw [up_oth (by omega), upd_n (by omega)]; exact h.th, by rw [up_oth (by omega), upd_n (by omega)]; exact h.z⟩ ?_ ?_ ?_
  · intro i hi
    exact ⟨(by by_cases e : i = j; (· subst e; rw [up_eq]; unfold hgt; rw [upd_s]); (· rw [up_ne e]; unfold hgt; rw [upd_n (by omega)]; exact h.hg hi)), (by rw [up_oth (by omega)]; unfold plc; rw [upd_n (by omega)]; exact h.pl hi)⟩
  · intro l hl
    exact ⟨(by rw [up_oth (by omega)]; unfold knd; rw [upd_n (by omega)]; exact h.kd hl), (by rw [up_oth (by omega)]; unfold lng; rw [upd_n (by omega)]; exact h.ln hl), (by rw [up_oth (by omega)]; unfold fot; rw [upd_n (by omega)]; exact h.ft hl), (by rw [up_oth (by omega)]; unfold tpp; rw [upd_n (by omega)]; exact h.tp hl)⟩
  · intro i hi
    exact ⟨(by rw [up_oth (by omega)]; unfold spt; rw [upd_n (by omega)]; exact h.sp hi), (by rw [up_oth (by omega)]; unfold stg; rw [upd_n (by omega)]; exact h.sg hi)⟩

theorem RT.u_plc (h : RT sh mi mr b s n m p q) (hn10 : n ≤ 10) (hm8 : m ≤ 8) (hp6 : p ≤ 6) (hb : b + 11 < 76) {j : Nat} (hj : j < 10) {v : Int32} : RT sh (upI mi (b + 2) j v) mr b (upd s (8 + 2 * j + 1) v) n m p q := by
  have hmv : ∀ l, l < m → mvd (upd s (8 + 2 * j + 1) v) l = mvd s l := fun l hl => by unfold mvd; rw [upd_n (by omega)]
  refine h.ch (fun k hk => upd_n (by omega)) (fun x hx => upI_ne (by omega)) (upI_ne (by omega)) (up_oth (by omega)) ⟨by rw [up_oth (by omega)]; exact h.en, by rw [up_oth (by omega)]; exact h.em, by rw [up_oth (by omega)]; exact h.ep⟩ ⟨by rw [up_oth (by omega), h.mv]; exact bits_cong m (fun l hl => by rw [hmv l hl]), by rw [up_oth (by omega), upd_n (by omega)]; exact h.dy, by rw [up_oth (by omega), upd_n (by omega)]; exact h.th, by rw [up_oth (by omega), upd_n (by omega)]; exact h.z⟩ ?_ ?_ ?_
  · intro i hi
    exact ⟨(by rw [up_oth (by omega)]; unfold hgt; rw [upd_n (by omega)]; exact h.hg hi), (by by_cases e : i = j; (· subst e; rw [up_eq]; unfold plc; rw [upd_s]); (· rw [up_ne e]; unfold plc; rw [upd_n (by omega)]; exact h.pl hi))⟩
  · intro l hl
    exact ⟨(by rw [up_oth (by omega)]; unfold knd; rw [upd_n (by omega)]; exact h.kd hl), (by rw [up_oth (by omega)]; unfold lng; rw [upd_n (by omega)]; exact h.ln hl), (by rw [up_oth (by omega)]; unfold fot; rw [upd_n (by omega)]; exact h.ft hl), (by rw [up_oth (by omega)]; unfold tpp; rw [upd_n (by omega)]; exact h.tp hl)⟩
  · intro i hi
    exact ⟨(by rw [up_oth (by omega)]; unfold spt; rw [upd_n (by omega)]; exact h.sp hi), (by rw [up_oth (by omega)]; unfold stg; rw [upd_n (by omega)]; exact h.sg hi)⟩

theorem RT.u_knd (h : RT sh mi mr b s n m p q) (hn10 : n ≤ 10) (hm8 : m ≤ 8) (hp6 : p ≤ 6) (hb : b + 11 < 76) {j : Nat} (hj : j < 8) {v : Int32} : RT sh (upI mi (b + 3) j v) mr b (upd s (28 + 5 * j + 0) v) n m p q := by
  have hmv : ∀ l, l < m → mvd (upd s (28 + 5 * j + 0) v) l = mvd s l := fun l hl => by unfold mvd; rw [upd_n (by omega)]
  refine h.ch (fun k hk => upd_n (by omega)) (fun x hx => upI_ne (by omega)) (upI_ne (by omega)) (up_oth (by omega)) ⟨by rw [up_oth (by omega)]; exact h.en, by rw [up_oth (by omega)]; exact h.em, by rw [up_oth (by omega)]; exact h.ep⟩ ⟨by rw [up_oth (by omega), h.mv]; exact bits_cong m (fun l hl => by rw [hmv l hl]), by rw [up_oth (by omega), upd_n (by omega)]; exact h.dy, by rw [up_oth (by omega), upd_n (by omega)]; exact h.th, by rw [up_oth (by omega), upd_n (by omega)]; exact h.z⟩ ?_ ?_ ?_
  · intro i hi
    exact ⟨(by rw [up_oth (by omega)]; unfold hgt; rw [upd_n (by omega)]; exact h.hg hi), (by rw [up_oth (by omega)]; unfold plc; rw [upd_n (by omega)]; exact h.pl hi)⟩
  · intro l hl
    exact ⟨(by by_cases e : l = j; (· subst e; rw [up_eq]; unfold knd; rw [upd_s]); (· rw [up_ne e]; unfold knd; rw [upd_n (by omega)]; exact h.kd hl)), (by rw [up_oth (by omega)]; unfold lng; rw [upd_n (by omega)]; exact h.ln hl), (by rw [up_oth (by omega)]; unfold fot; rw [upd_n (by omega)]; exact h.ft hl), (by rw [up_oth (by omega)]; unfold tpp; rw [upd_n (by omega)]; exact h.tp hl)⟩
  · intro i hi
    exact ⟨(by rw [up_oth (by omega)]; unfold spt; rw [upd_n (by omega)]; exact h.sp hi), (by rw [up_oth (by omega)]; unfold stg; rw [upd_n (by omega)]; exact h.sg hi)⟩

theorem RT.u_lng (h : RT sh mi mr b s n m p q) (hn10 : n ≤ 10) (hm8 : m ≤ 8) (hp6 : p ≤ 6) (hb : b + 11 < 76) {j : Nat} (hj : j < 8) {v : Int32} : RT sh (upI mi (b + 4) j v) mr b (upd s (28 + 5 * j + 1) v) n m p q := by
  have hmv : ∀ l, l < m → mvd (upd s (28 + 5 * j + 1) v) l = mvd s l := fun l hl => by unfold mvd; rw [upd_n (by omega)]
  refine h.ch (fun k hk => upd_n (by omega)) (fun x hx => upI_ne (by omega)) (upI_ne (by omega)) (up_oth (by omega)) ⟨by rw [up_oth (by omega)]; exact h.en, by rw [up_oth (by omega)]; exact h.em, by rw [up_oth (by omega)]; exact h.ep⟩ ⟨by rw [up_oth (by omega), h.mv]; exact bits_cong m (fun l hl => by rw [hmv l hl]), by rw [up_oth (by omega), upd_n (by omega)]; exact h.dy, by rw [up_oth (by omega), upd_n (by omega)]; exact h.th, by rw [up_oth (by omega), upd_n (by omega)]; exact h.z⟩ ?_ ?_ ?_
  · intro i hi
    exact ⟨(by rw [up_oth (by omega)]; unfold hgt; rw [upd_n (by omega)]; exact h.hg hi), (by rw [up_oth (by omega)]; unfold plc; rw [upd_n (by omega)]; exact h.pl hi)⟩
  · intro l hl
    exact ⟨(by rw [up_oth (by omega)]; unfold knd; rw [upd_n (by omega)]; exact h.kd hl), (by by_cases e : l = j; (· subst e; rw [up_eq]; unfold lng; rw [upd_s]); (· rw [up_ne e]; unfold lng; rw [upd_n (by omega)]; exact h.ln hl)), (by rw [up_oth (by omega)]; unfold fot; rw [upd_n (by omega)]; exact h.ft hl), (by rw [up_oth (by omega)]; unfold tpp; rw [upd_n (by omega)]; exact h.tp hl)⟩
  · intro i hi
    exact ⟨(by rw [up_oth (by omega)]; unfold spt; rw [upd_n (by omega)]; exact h.sp hi), (by rw [up_oth (by omega)]; unfold stg; rw [upd_n (by omega)]; exact h.sg hi)⟩

theorem RT.u_fot (h : RT sh mi mr b s n m p q) (hn10 : n ≤ 10) (hm8 : m ≤ 8) (hp6 : p ≤ 6) (hb : b + 11 < 76) {j : Nat} (hj : j < 8) {v : Int32} : RT sh (upI mi (b + 5) j v) mr b (upd s (28 + 5 * j + 2) v) n m p q := by
  have hmv : ∀ l, l < m → mvd (upd s (28 + 5 * j + 2) v) l = mvd s l := fun l hl => by unfold mvd; rw [upd_n (by omega)]
  refine h.ch (fun k hk => upd_n (by omega)) (fun x hx => upI_ne (by omega)) (upI_ne (by omega)) (up_oth (by omega)) ⟨by rw [up_oth (by omega)]; exact h.en, by rw [up_oth (by omega)]; exact h.em, by rw [up_oth (by omega)]; exact h.ep⟩ ⟨by rw [up_oth (by omega), h.mv]; exact bits_cong m (fun l hl => by rw [hmv l hl]), by rw [up_oth (by omega), upd_n (by omega)]; exact h.dy, by rw [up_oth (by omega), upd_n (by omega)]; exact h.th, by rw [up_oth (by omega), upd_n (by omega)]; exact h.z⟩ ?_ ?_ ?_
  · intro i hi
    exact ⟨(by rw [up_oth (by omega)]; unfold hgt; rw [upd_n (by omega)]; exact h.hg hi), (by rw [up_oth (by omega)]; unfold plc; rw [upd_n (by omega)]; exact h.pl hi)⟩
  · intro l hl
    exact ⟨(by rw [up_oth (by omega)]; unfold knd; rw [upd_n (by omega)]; exact h.kd hl), (by rw [up_oth (by omega)]; unfold lng; rw [upd_n (by omega)]; exact h.ln hl), (by by_cases e : l = j; (· subst e; rw [up_eq]; unfold fot; rw [upd_s]); (· rw [up_ne e]; unfold fot; rw [upd_n (by omega)]; exact h.ft hl)), (by rw [up_oth (by omega)]; unfold tpp; rw [upd_n (by omega)]; exact h.tp hl)⟩
  · intro i hi
    exact ⟨(by rw [up_oth (by omega)]; unfold spt; rw [upd_n (by omega)]; exact h.sp hi), (by rw [up_oth (by omega)]; unfold stg; rw [upd_n (by omega)]; exact h.sg hi)⟩

theorem RT.u_tpp (h : RT sh mi mr b s n m p q) (hn10 : n ≤ 10) (hm8 : m ≤ 8) (hp6 : p ≤ 6) (hb : b + 11 < 76) {j : Nat} (hj : j < 8) {v : Int32} : RT sh (upI mi (b + 6) j v) mr b (upd s (28 + 5 * j + 3) v) n m p q := by
  have hmv : ∀ l, l < m → mvd (upd s (28 + 5 * j + 3) v) l = mvd s l := fun l hl => by unfold mvd; rw [upd_n (by omega)]
  refine h.ch (fun k hk => upd_n (by omega)) (fun x hx => upI_ne (by omega)) (upI_ne (by omega)) (up_oth (by omega)) ⟨by rw [up_oth (by omega)]; exact h.en, by rw [up_oth (by omega)]; exact h.em, by rw [up_oth (by omega)]; exact h.ep⟩ ⟨by rw [up_oth (by omega), h.mv]; exact bits_cong m (fun l hl => by rw [hmv l hl]), by rw [up_oth (by omega), upd_n (by omega)]; exact h.dy, by rw [up_oth (by omega), upd_n (by omega)]; exact h.th, by rw [up_oth (by omega), upd_n (by omega)]; exact h.z⟩ ?_ ?_ ?_
  · intro i hi
    exact ⟨(by rw [up_oth (by omega)]; unfold hgt; rw [upd_n (by omega)]; exact h.hg hi), (by rw [up_oth (by omega)]; unfold plc; rw [upd_n (by omega)]; exact h.pl hi)⟩
  · intro l hl
    exact ⟨(by rw [up_oth (by omega)]; unfold knd; rw [upd_n (by omega)]; exact h.kd hl), (by rw [up_oth (by omega)]; unfold lng; rw [upd_n (by omega)]; exact h.ln hl), (by rw [up_oth (by omega)]; unfold fot; rw [upd_n (by omega)]; exact h.ft hl), (by by_cases e : l = j; (· subst e; rw [up_eq]; unfold tpp; rw [upd_s]); (· rw [up_ne e]; unfold tpp; rw [upd_n (by omega)]; exact h.tp hl))⟩
  · intro i hi
    exact ⟨(by rw [up_oth (by omega)]; unfold spt; rw [upd_n (by omega)]; exact h.sp hi), (by rw [up_oth (by omega)]; unfold stg; rw [upd_n (by omega)]; exact h.sg hi)⟩

theorem RT.u_spt (h : RT sh mi mr b s n m p q) (hn10 : n ≤ 10) (hm8 : m ≤ 8) (hp6 : p ≤ 6) (hb : b + 11 < 76) {j : Nat} (hj : j < 6) {v : Int32} : RT sh (upI mi (b + 7) j v) mr b (upd s (68 + 2 * j) v) n m p q := by
  have hmv : ∀ l, l < m → mvd (upd s (68 + 2 * j) v) l = mvd s l := fun l hl => by unfold mvd; rw [upd_n (by omega)]
  refine h.ch (fun k hk => upd_n (by omega)) (fun x hx => upI_ne (by omega)) (upI_ne (by omega)) (up_oth (by omega)) ⟨by rw [up_oth (by omega)]; exact h.en, by rw [up_oth (by omega)]; exact h.em, by rw [up_oth (by omega)]; exact h.ep⟩ ⟨by rw [up_oth (by omega), h.mv]; exact bits_cong m (fun l hl => by rw [hmv l hl]), by rw [up_oth (by omega), upd_n (by omega)]; exact h.dy, by rw [up_oth (by omega), upd_n (by omega)]; exact h.th, by rw [up_oth (by omega), upd_n (by omega)]; exact h.z⟩ ?_ ?_ ?_
  · intro i hi
    exact ⟨(by rw [up_oth (by omega)]; unfold hgt; rw [upd_n (by omega)]; exact h.hg hi), (by rw [up_oth (by omega)]; unfold plc; rw [upd_n (by omega)]; exact h.pl hi)⟩
  · intro l hl
    exact ⟨(by rw [up_oth (by omega)]; unfold knd; rw [upd_n (by omega)]; exact h.kd hl), (by rw [up_oth (by omega)]; unfold lng; rw [upd_n (by omega)]; exact h.ln hl), (by rw [up_oth (by omega)]; unfold fot; rw [upd_n (by omega)]; exact h.ft hl), (by rw [up_oth (by omega)]; unfold tpp; rw [upd_n (by omega)]; exact h.tp hl)⟩
  · intro i hi
    exact ⟨(by by_cases e : i = j; (· subst e; rw [up_eq]; unfold spt; rw [upd_s]); (· rw [up_ne e]; unfold spt; rw [upd_n (by omega)]; exact h.sp hi)), (by rw [up_oth (by omega)]; unfold stg; rw [upd_n (by omega)]; exact h.sg hi)⟩

theorem RT.u_stg (h : RT sh mi mr b s n m p q) (hn10 : n ≤ 10) (hm8 : m ≤ 8) (hp6 : p ≤ 6) (hb : b + 11 < 76) {j : Nat} (hj : j < 6) {v : Int32} : RT sh (upI mi (b + 8) j v) mr b (upd s (68 + 2 * j + 1) v) n m p q := by
  have hmv : ∀ l, l < m → mvd (upd s (68 + 2 * j + 1) v) l = mvd s l := fun l hl => by unfold mvd; rw [upd_n (by omega)]
  refine h.ch (fun k hk => upd_n (by omega)) (fun x hx => upI_ne (by omega)) (upI_ne (by omega)) (up_oth (by omega)) ⟨by rw [up_oth (by omega)]; exact h.en, by rw [up_oth (by omega)]; exact h.em, by rw [up_oth (by omega)]; exact h.ep⟩ ⟨by rw [up_oth (by omega), h.mv]; exact bits_cong m (fun l hl => by rw [hmv l hl]), by rw [up_oth (by omega), upd_n (by omega)]; exact h.dy, by rw [up_oth (by omega), upd_n (by omega)]; exact h.th, by rw [up_oth (by omega), upd_n (by omega)]; exact h.z⟩ ?_ ?_ ?_
  · intro i hi
    exact ⟨(by rw [up_oth (by omega)]; unfold hgt; rw [upd_n (by omega)]; exact h.hg hi), (by rw [up_oth (by omega)]; unfold plc; rw [upd_n (by omega)]; exact h.pl hi)⟩
  · intro l hl
    exact ⟨(by rw [up_oth (by omega)]; unfold knd; rw [upd_n (by omega)]; exact h.kd hl), (by rw [up_oth (by omega)]; unfold lng; rw [upd_n (by omega)]; exact h.ln hl), (by rw [up_oth (by omega)]; unfold fot; rw [upd_n (by omega)]; exact h.ft hl), (by rw [up_oth (by omega)]; unfold tpp; rw [upd_n (by omega)]; exact h.tp hl)⟩
  · intro i hi
    exact ⟨(by rw [up_oth (by omega)]; unfold spt; rw [upd_n (by omega)]; exact h.sp hi), (by by_cases e : i = j; (· subst e; rw [up_eq]; unfold stg; rw [upd_s]); (· rw [up_ne e]; unfold stg; rw [upd_n (by omega)]; exact h.sg hi))⟩

theorem RT.u_dy (h : RT sh mi mr b s n m p q) (hn10 : n ≤ 10) (hm8 : m ≤ 8) (hp6 : p ≤ 6) (hb : b + 11 < 76) {v : Int32} : RT sh (upI mi b 13 v) mr b (upd s 4 v) n m p q := by
  refine h.ch (fun k hk => upd_n (by omega)) (fun x hx => upI_ne (by omega)) (upI_ne (by omega)) (up_ne (by decide)) ⟨by rw [up_ne (by decide)]; exact h.en, by rw [up_ne (by decide)]; exact h.em, by rw [up_ne (by decide)]; exact h.ep⟩ ⟨by rw [up_ne (by decide), h.mv]; exact bits_cong m (fun l hl => by unfold mvd; rw [upd_n (by omega)]), by rw [up_eq, upd_s], by rw [up_ne (by decide), upd_n (by decide)]; exact h.th, by rw [up_ne (by decide), upd_n (by decide)]; exact h.z⟩ ?_ ?_ ?_
  · intro i hi
    exact ⟨(by rw [up_oth (by omega)]; unfold hgt; rw [upd_n (by omega)]; exact h.hg hi), (by rw [up_oth (by omega)]; unfold plc; rw [upd_n (by omega)]; exact h.pl hi)⟩
  · intro l hl
    exact ⟨(by rw [up_oth (by omega)]; unfold knd; rw [upd_n (by omega)]; exact h.kd hl), (by rw [up_oth (by omega)]; unfold lng; rw [upd_n (by omega)]; exact h.ln hl), (by rw [up_oth (by omega)]; unfold fot; rw [upd_n (by omega)]; exact h.ft hl), (by rw [up_oth (by omega)]; unfold tpp; rw [upd_n (by omega)]; exact h.tp hl)⟩
  · intro i hi
    exact ⟨(by rw [up_oth (by omega)]; unfold spt; rw [upd_n (by omega)]; exact h.sp hi), (by rw [up_oth (by omega)]; unfold stg; rw [upd_n (by omega)]; exact h.sg hi)⟩

theorem RT.u_th (h : RT sh mi mr b s n m p q) (hn10 : n ≤ 10) (hm8 : m ≤ 8) (hp6 : p ≤ 6) (hb : b + 11 < 76) {v : Int32} : RT sh (upI mi b 14 v) mr b (upd s 5 v) n m p q := by
  refine h.ch (fun k hk => upd_n (by omega)) (fun x hx => upI_ne (by omega)) (upI_ne (by omega)) (up_ne (by decide)) ⟨by rw [up_ne (by decide)]; exact h.en, by rw [up_ne (by decide)]; exact h.em, by rw [up_ne (by decide)]; exact h.ep⟩ ⟨by rw [up_ne (by decide), h.mv]; exact bits_cong m (fun l hl => by unfold mvd; rw [upd_n (by omega)]), by rw [up_ne (by decide), upd_n (by decide)]; exact h.dy, by rw [up_eq, upd_s], by rw [up_ne (by decide), upd_n (by decide)]; exact h.z⟩ ?_ ?_ ?_
  · intro i hi
    exact ⟨(by rw [up_oth (by omega)]; unfold hgt; rw [upd_n (by omega)]; exact h.hg hi), (by rw [up_oth (by omega)]; unfold plc; rw [upd_n (by omega)]; exact h.pl hi)⟩
  · intro l hl
    exact ⟨(by rw [up_oth (by omega)]; unfold knd; rw [upd_n (by omega)]; exact h.kd hl), (by rw [up_oth (by omega)]; unfold lng; rw [upd_n (by omega)]; exact h.ln hl), (by rw [up_oth (by omega)]; unfold fot; rw [upd_n (by omega)]; exact h.ft hl), (by rw [up_oth (by omega)]; unfold tpp; rw [upd_n (by omega)]; exact h.tp hl)⟩
  · intro i hi
    exact ⟨(by rw [up_oth (by omega)]; unfold spt; rw [upd_n (by omega)]; exact h.sp hi), (by rw [up_oth (by omega)]; unfold stg; rw [upd_n (by omega)]; exact h.sg hi)⟩

theorem RT.u_z (h : RT sh mi mr b s n m p q) (hn10 : n ≤ 10) (hm8 : m ≤ 8) (hp6 : p ≤ 6) (hb : b + 11 < 76) {v : Int32} : RT sh (upI mi b 15 v) mr b (upd s 6 v) n m p q := by
  refine h.ch (fun k hk => upd_n (by omega)) (fun x hx => upI_ne (by omega)) (upI_ne (by omega)) (up_ne (by decide)) ⟨by rw [up_ne (by decide)]; exact h.en, by rw [up_ne (by decide)]; exact h.em, by rw [up_ne (by decide)]; exact h.ep⟩ ⟨by rw [up_ne (by decide), h.mv]; exact bits_cong m (fun l hl => by unfold mvd; rw [upd_n (by omega)]), by rw [up_ne (by decide), upd_n (by decide)]; exact h.dy, by rw [up_ne (by decide), upd_n (by decide)]; exact h.th, by rw [up_eq, upd_s]⟩ ?_ ?_ ?_
  · intro i hi
    exact ⟨(by rw [up_oth (by omega)]; unfold hgt; rw [upd_n (by omega)]; exact h.hg hi), (by rw [up_oth (by omega)]; unfold plc; rw [upd_n (by omega)]; exact h.pl hi)⟩
  · intro l hl
    exact ⟨(by rw [up_oth (by omega)]; unfold knd; rw [upd_n (by omega)]; exact h.kd hl), (by rw [up_oth (by omega)]; unfold lng; rw [upd_n (by omega)]; exact h.ln hl), (by rw [up_oth (by omega)]; unfold fot; rw [upd_n (by omega)]; exact h.ft hl), (by rw [up_oth (by omega)]; unfold tpp; rw [upd_n (by omega)]; exact h.tp hl)⟩
  · intro i hi
    exact ⟨(by rw [up_oth (by omega)]; unfold spt; rw [upd_n (by omega)]; exact h.sp hi), (by rw [up_oth (by omega)]; unfold stg; rw [upd_n (by omega)]; exact h.sg hi)⟩

theorem RT.u_mv (h : RT sh mi mr b s n m p q) (hn10 : n ≤ 10) (hm8 : m ≤ 8) (hp6 : p ≤ 6) (hb : b + 11 < 76) {j : Nat} (hj : j < m) : RT sh (upI mi b 9 (mi b 9 ||| 1 <<< (nI j &&& 31))) mr b (upd s (28 + 5 * j + 4) 1) n m p q := by
  refine h.ch (fun k hk => upd_n (by omega)) (fun x hx => upI_ne (by omega)) (upI_ne (by omega)) (up_ne (by decide)) ⟨by rw [up_ne (by decide)]; exact h.en, by rw [up_ne (by decide)]; exact h.em, by rw [up_ne (by decide)]; exact h.ep⟩ ⟨?_, by rw [up_ne (by decide), upd_n (by omega)]; exact h.dy, by rw [up_ne (by decide), upd_n (by omega)]; exact h.th, by rw [up_ne (by decide), upd_n (by omega)]; exact h.z⟩ ?_ ?_ ?_
  · rw [up_eq, h.mv]
    have h1 := bits_or2 (P := fun l => decide (mvd s l = 1)) hj hj (show m ≤ 32 by omega)
    have h2 : (1 : Int32) <<< (nI j &&& 31) ||| 1 <<< (nI j &&& 31) = 1 <<< (nI j &&& 31) := Int32.or_self
    rw [h2] at h1
    rw [h1]
    refine bits_cong m (fun l hl => ?_)
    by_cases e : l = j
    · subst e
      simp [mvd, upd_s]
    · have : mvd (upd s (28 + 5 * j + 4) 1) l = mvd s l := by unfold mvd; rw [upd_n (by omega)]
      simp [this, e]
  · intro i hi
    exact ⟨(by rw [up_oth (by omega)]; unfold hgt; rw [upd_n (by omega)]; exact h.hg hi), (by rw [up_oth (by omega)]; unfold plc; rw [upd_n (by omega)]; exact h.pl hi)⟩
  · intro l hl
    exact ⟨(by rw [up_oth (by omega)]; unfold knd; rw [upd_n (by omega)]; exact h.kd hl), (by rw [up_oth (by omega)]; unfold lng; rw [upd_n (by omega)]; exact h.ln hl), (by rw [up_oth (by omega)]; unfold fot; rw [upd_n (by omega)]; exact h.ft hl), (by rw [up_oth (by omega)]; unfold tpp; rw [upd_n (by omega)]; exact h.tp hl)⟩
  · intro i hi
    exact ⟨(by rw [up_oth (by omega)]; unfold spt; rw [upd_n (by omega)]; exact h.sp hi), (by rw [up_oth (by omega)]; unfold stg; rw [upd_n (by omega)]; exact h.sg hi)⟩

theorem clrR_n {s : Rw} {k : Nat} : ∀ j, (∀ l, l < j → k ≠ 28 + 5 * l + 4) → clrR s j k = s k
  | 0, _ => rfl
  | j + 1, h => by
    show upd (clrR s j) (28 + 5 * j + 4) 0 k = s k
    rw [upd_n (h j (by omega))]
    exact clrR_n j (fun l hl => h l (by omega))
theorem clrR_z {s : Rw} {l : Nat} : ∀ j, l < j → clrR s j (28 + 5 * l + 4) = 0
  | 0, h => absurd h (Nat.not_lt_zero _)
  | j + 1, h => by
    show upd (clrR s j) (28 + 5 * j + 4) 0 _ = 0
    by_cases e : l = j
    · subst e; rw [upd_s]
    · rw [upd_n (by omega)]; exact clrR_z j (by omega)
theorem bits_z {P : Nat → Bool} : ∀ n, (∀ l, l < n → P l = false) → bitsB P n = 0
  | 0, _ => rfl
  | n + 1, h => by
    show bitsB P n ||| (if P n then 1 <<< (nI n &&& 31) else 0) = 0
    rw [bits_z n (fun l hl => h l (by omega)), h n (by omega)]
    simp
theorem RT.clr (h : RT sh mi mr b s n m p q) (hn10 : n ≤ 10) (hm8 : m ≤ 8) (hp6 : p ≤ 6) (hb : b + 11 < 76) : RT sh (upI mi b 9 0) mr b (clrR s m) n m p q := by
  refine h.ch (fun k hk => clrR_n m (by omega)) (fun x hx => upI_ne (by omega)) (upI_ne (by omega)) (up_ne (by decide)) ⟨by rw [up_ne (by decide)]; exact h.en, by rw [up_ne (by decide)]; exact h.em, by rw [up_ne (by decide)]; exact h.ep⟩ ⟨?_, by rw [up_ne (by decide), clrR_n m (by omega)]; exact h.dy, by rw [up_ne (by decide), clrR_n m (by omega)]; exact h.th, by rw [up_ne (by decide), clrR_n m (by omega)]; exact h.z⟩ ?_ ?_ ?_
  · rw [up_eq]
    exact (bits_z m (fun l hl => by unfold mvd; rw [clrR_z m hl]; rfl)).symm
  · intro i hi
    exact ⟨(by rw [up_oth (by omega)]; unfold hgt; rw [clrR_n m (by omega)]; exact h.hg hi), (by rw [up_oth (by omega)]; unfold plc; rw [clrR_n m (by omega)]; exact h.pl hi)⟩
  · intro l hl
    exact ⟨(by rw [up_oth (by omega)]; unfold knd; rw [clrR_n m (by omega)]; exact h.kd hl), (by rw [up_oth (by omega)]; unfold lng; rw [clrR_n m (by omega)]; exact h.ln hl), (by rw [up_oth (by omega)]; unfold fot; rw [clrR_n m (by omega)]; exact h.ft hl), (by rw [up_oth (by omega)]; unfold tpp; rw [clrR_n m (by omega)]; exact h.tp hl)⟩
  · intro i hi
    exact ⟨(by rw [up_oth (by omega)]; unfold spt; rw [clrR_n m (by omega)]; exact h.sp hi), (by rw [up_oth (by omega)]; unfold stg; rw [clrR_n m (by omega)]; exact h.sg hi)⟩

theorem RT.u_m0 (h : RT sh mi mr b s n m p q) (hn10 : n ≤ 10) (hm8 : m ≤ 8) (hp6 : p ≤ 6) (hb : b + 11 < 76) {j : Nat} (hj : j < 8) (hjm : m ≤ j) {v : Int32} : RT sh mi mr b (upd s (28 + 5 * j + 4) v) n m p q := by
  refine h.ch (fun k hk => upd_n (by omega)) (fun x hx => rfl) rfl rfl ⟨h.en, h.em, h.ep⟩ ⟨?_, by rw [upd_n (by omega)]; exact h.dy, by rw [upd_n (by omega)]; exact h.th, by rw [upd_n (by omega)]; exact h.z⟩ ?_ ?_ ?_
  · rw [h.mv]
    exact bits_cong m (fun l hl => by unfold mvd; rw [upd_n (by omega)])
  · intro i hi
    exact ⟨(by unfold hgt; rw [upd_n (by omega)]; exact h.hg hi), (by unfold plc; rw [upd_n (by omega)]; exact h.pl hi)⟩
  · intro l hl
    exact ⟨(by unfold knd; rw [upd_n (by omega)]; exact h.kd hl), (by unfold lng; rw [upd_n (by omega)]; exact h.ln hl), (by unfold fot; rw [upd_n (by omega)]; exact h.ft hl), (by unfold tpp; rw [upd_n (by omega)]; exact h.tp hl)⟩
  · intro i hi
    exact ⟨(by unfold spt; rw [upd_n (by omega)]; exact h.sp hi), (by unfold stg; rw [upd_n (by omega)]; exact h.sg hi)⟩

theorem RT.a_n (h : RT sh mi mr b s n m p q) (hn10 : n ≤ 10) (hm8 : m ≤ 8) (hp6 : p ≤ 6) (hb : b + 11 < 76) (hw : mi (b + 1) n = hgt s n ∧ mi (b + 2) n = plc s n) : RT sh (upI mi b 1 (nI (n + 1))) mr b (upd s 0 (nI (n + 1))) (n + 1) m p q := by
  refine h.ch (fun k hk => upd_n (by omega)) (fun x hx => upI_ne (by omega)) (upI_ne (by omega)) (up_ne (by decide)) ⟨by rw [up_eq], by rw [up_ne (by decide)]; exact h.em, by rw [up_ne (by decide)]; exact h.ep⟩ ⟨by rw [up_ne (by decide), h.mv]; exact bits_cong m (fun l hl => by unfold mvd; rw [upd_n (by omega)]), by rw [up_ne (by decide), upd_n (by omega)]; exact h.dy, by rw [up_ne (by decide), upd_n (by omega)]; exact h.th, by rw [up_ne (by decide), upd_n (by omega)]; exact h.z⟩ ?_ ?_ ?_
  · intro i hi
    exact ⟨(by rw [up_oth (by omega)]; unfold hgt; rw [upd_n (by omega)]; rcases Nat.lt_or_ge i n with g | g; (· exact h.hg g); (· have e : i = n := (by omega); subst e; exact hw.1)), (by rw [up_oth (by omega)]; unfold plc; rw [upd_n (by omega)]; rcases Nat.lt_or_ge i n with g | g; (· exact h.pl g); (· have e : i = n := (by omega); subst e; exact hw.2))⟩
  · intro l hl
    exact ⟨(by rw [up_oth (by omega)]; unfold knd; rw [upd_n (by omega)]; exact h.kd hl), (by rw [up_oth (by omega)]; unfold lng; rw [upd_n (by omega)]; exact h.ln hl), (by rw [up_oth (by omega)]; unfold fot; rw [upd_n (by omega)]; exact h.ft hl), (by rw [up_oth (by omega)]; unfold tpp; rw [upd_n (by omega)]; exact h.tp hl)⟩
  · intro i hi
    exact ⟨(by rw [up_oth (by omega)]; unfold spt; rw [upd_n (by omega)]; exact h.sp hi), (by rw [up_oth (by omega)]; unfold stg; rw [upd_n (by omega)]; exact h.sg hi)⟩

theorem RT.a_m (h : RT sh mi mr b s n m p q) (hn10 : n ≤ 10) (hm8 : m ≤ 8) (hp6 : p ≤ 6) (hb : b + 11 < 76) (hw : mi (b + 3) m = knd s m ∧ mi (b + 4) m = lng s m ∧ mi (b + 5) m = fot s m ∧ mi (b + 6) m = tpp s m) (hm0 : ¬ mvd s m = 1) : RT sh (upI mi b 4 (nI (m + 1))) mr b (upd s 1 (nI (m + 1))) n (m + 1) p q := by
  refine h.ch (fun k hk => upd_n (by omega)) (fun x hx => upI_ne (by omega)) (upI_ne (by omega)) (up_ne (by decide)) ⟨by rw [up_ne (by decide)]; exact h.en, by rw [up_eq], by rw [up_ne (by decide)]; exact h.ep⟩ ⟨(by rw [up_ne (by decide), h.mv]; show _ = bitsB _ m ||| _; rw [show (fun l => decide (mvd (upd s 1 (nI (m + 1))) l = 1)) = (fun l => decide (mvd s l = 1)) from funext (fun l => by unfold mvd; rw [upd_n (by omega)])]; simp [hm0]), by rw [up_ne (by decide), upd_n (by omega)]; exact h.dy, by rw [up_ne (by decide), upd_n (by omega)]; exact h.th, by rw [up_ne (by decide), upd_n (by omega)]; exact h.z⟩ ?_ ?_ ?_
  · intro i hi
    exact ⟨(by rw [up_oth (by omega)]; unfold hgt; rw [upd_n (by omega)]; exact h.hg hi), (by rw [up_oth (by omega)]; unfold plc; rw [upd_n (by omega)]; exact h.pl hi)⟩
  · intro l hl
    exact ⟨(by rw [up_oth (by omega)]; unfold knd; rw [upd_n (by omega)]; rcases Nat.lt_or_ge l m with g | g; (· exact h.kd g); (· have e : l = m := (by omega); subst e; exact hw.1)), (by rw [up_oth (by omega)]; unfold lng; rw [upd_n (by omega)]; rcases Nat.lt_or_ge l m with g | g; (· exact h.ln g); (· have e : l = m := (by omega); subst e; exact hw.2.1)), (by rw [up_oth (by omega)]; unfold fot; rw [upd_n (by omega)]; rcases Nat.lt_or_ge l m with g | g; (· exact h.ft g); (· have e : l = m := (by omega); subst e; exact hw.2.2.1)), (by rw [up_oth (by omega)]; unfold tpp; rw [upd_n (by omega)]; rcases Nat.lt_or_ge l m with g | g; (· exact h.tp g); (· have e : l = m := (by omega); subst e; exact hw.2.2.2))⟩
  · intro i hi
    exact ⟨(by rw [up_oth (by omega)]; unfold spt; rw [upd_n (by omega)]; exact h.sp hi), (by rw [up_oth (by omega)]; unfold stg; rw [upd_n (by omega)]; exact h.sg hi)⟩

theorem RT.a_p (h : RT sh mi mr b s n m p q) (hn10 : n ≤ 10) (hm8 : m ≤ 8) (hp6 : p ≤ 6) (hb : b + 11 < 76) (hw : mi (b + 7) p = spt s p ∧ mi (b + 8) p = stg s p) : RT sh (upI mi b 10 (nI (p + 1))) mr b (upd s 2 (nI (p + 1))) n m (p + 1) q := by
  refine h.ch (fun k hk => upd_n (by omega)) (fun x hx => upI_ne (by omega)) (upI_ne (by omega)) (up_ne (by decide)) ⟨by rw [up_ne (by decide)]; exact h.en, by rw [up_ne (by decide)]; exact h.em, by rw [up_eq]⟩ ⟨by rw [up_ne (by decide), h.mv]; exact bits_cong m (fun l hl => by unfold mvd; rw [upd_n (by omega)]), by rw [up_ne (by decide), upd_n (by omega)]; exact h.dy, by rw [up_ne (by decide), upd_n (by omega)]; exact h.th, by rw [up_ne (by decide), upd_n (by omega)]; exact h.z⟩ ?_ ?_ ?_
  · intro i hi
    exact ⟨(by rw [up_oth (by omega)]; unfold hgt; rw [upd_n (by omega)]; exact h.hg hi), (by rw [up_oth (by omega)]; unfold plc; rw [upd_n (by omega)]; exact h.pl hi)⟩
  · intro l hl
    exact ⟨(by rw [up_oth (by omega)]; unfold knd; rw [upd_n (by omega)]; exact h.kd hl), (by rw [up_oth (by omega)]; unfold lng; rw [upd_n (by omega)]; exact h.ln hl), (by rw [up_oth (by omega)]; unfold fot; rw [upd_n (by omega)]; exact h.ft hl), (by rw [up_oth (by omega)]; unfold tpp; rw [upd_n (by omega)]; exact h.tp hl)⟩
  · intro i hi
    exact ⟨(by rw [up_oth (by omega)]; unfold spt; rw [upd_n (by omega)]; rcases Nat.lt_or_ge i p with g | g; (· exact h.sp g); (· have e : i = p := (by omega); subst e; exact hw.1)), (by rw [up_oth (by omega)]; unfold stg; rw [upd_n (by omega)]; rcases Nat.lt_or_ge i p with g | g; (· exact h.sg g); (· have e : i = p := (by omega); subst e; exact hw.2))⟩

theorem upd_x {s : Rw} {k j : Nat} {v w : Int32} (h : k ≠ j) : upd (upd s k v) j w = upd (upd s j w) k v := by
  funext i
  by_cases hj : i = j
  · subst hj; rw [upd_s, upd_n (Ne.symm h), upd_s]
  · rw [upd_n hj]
    by_cases hk : i = k
    · subst hk; rw [upd_s, upd_s]
    · rw [upd_n hk, upd_n hk, upd_n hj]
theorem RT.addL (h : RT sh mi mr b s n m p q) (hn10 : n ≤ 10) (hm8 : m ≤ 8) (hp6 : p ≤ 6) (hb : b + 11 < 76) (hn : n < 10) {x y : Int32} : RT sh (upI (upI (upI mi (b + 1) n x) (b + 2) n y) b 1 (nI (n + 1))) mr b (upd (upd (upd s (8 + 2 * n) x) (8 + 2 * n + 1) y) 0 (nI (n + 1))) (n + 1) m p q :=
  ((h.u_hgt hn10 hm8 hp6 hb hn).u_plc hn10 hm8 hp6 hb hn).a_n hn10 hm8 hp6 hb ⟨by rw [up_oth (by omega), up_eq]; unfold hgt; rw [upd_n (by omega), upd_s], by rw [up_eq]; unfold plc; rw [upd_s]⟩
theorem RT.addP (h : RT sh mi mr b s n m p q) (hn10 : n ≤ 10) (hm8 : m ≤ 8) (hp6 : p ≤ 6) (hb : b + 11 < 76) (hn : p < 6) {x y : Int32} : RT sh (upI (upI (upI mi (b + 7) p x) (b + 8) p y) b 10 (nI (p + 1))) mr b (upd (upd (upd s (68 + 2 * p) x) (68 + 2 * p + 1) y) 2 (nI (p + 1))) n m (p + 1) q :=
  ((h.u_spt hn10 hm8 hp6 hb hn).u_stg hn10 hm8 hp6 hb hn).a_p hn10 hm8 hp6 hb ⟨by rw [up_oth (by omega), up_eq]; unfold spt; rw [upd_n (by omega), upd_s], by rw [up_eq]; unfold stg; rw [upd_s]⟩
theorem RT.addD (h : RT sh mi mr b s n m p q) (hn10 : n ≤ 10) (hm8 : m ≤ 8) (hp6 : p ≤ 6) (hb : b + 11 < 76) (hn : m < 8) {x y z w : Int32} : RT sh (upI (upI (upI (upI (upI mi (b + 3) m x) (b + 4) m y) (b + 5) m z) (b + 6) m w) b 4 (nI (m + 1))) mr b (upd (upd (upd (upd (upd (upd s 1 (nI (m + 1))) (28 + 5 * m + 0) x) (28 + 5 * m + 1) y) (28 + 5 * m + 2) z) (28 + 5 * m + 3) w) (28 + 5 * m + 4) 0) n (m + 1) p q := by
  have h1 := ((((h.u_knd hn10 hm8 hp6 hb hn (v := x)).u_lng hn10 hm8 hp6 hb hn (v := y)).u_fot hn10 hm8 hp6 hb hn (v := z)).u_tpp hn10 hm8 hp6 hb hn (v := w)).u_m0 hn10 hm8 hp6 hb hn (Nat.le_refl m) (v := 0)
  have h2 := h1.a_m hn10 hm8 hp6 hb ⟨by rw [up_oth (by omega), up_oth (by omega), up_oth (by omega), up_eq]; unfold knd; rw [upd_n (by omega), upd_n (by omega), upd_n (by omega), upd_n (by omega), upd_s], by rw [up_oth (by omega), up_oth (by omega), up_eq]; unfold lng; rw [upd_n (by omega), upd_n (by omega), upd_n (by omega), upd_s], by rw [up_oth (by omega), up_eq]; unfold fot; rw [upd_n (by omega), upd_n (by omega), upd_s], by rw [up_eq]; unfold tpp; rw [upd_n (by omega), upd_s]⟩ (by unfold mvd; rw [upd_s]; decide)
  rw [upd_x (k := 28 + 5 * m + 4) (j := 1) (by omega), upd_x (k := 28 + 5 * m + 3) (j := 1) (by omega), upd_x (k := 28 + 5 * m + 2) (j := 1) (by omega), upd_x (k := 28 + 5 * m + 1) (j := 1) (by omega), upd_x (k := 28 + 5 * m + 0) (j := 1) (by omega)] at h2
  exact h2

end
