/-! NIGHTS, over rows -/
theorem upd_s {f : Rw} {k : Nat} {v : Int32} : upd f k v k = v := by simp [upd]
theorem upd_n {f : Rw} {k j : Nat} {v : Int32} (h : j ≠ k) : upd f k v j = f j := by simp [upd, h]
/-- rows that agree where texts lie -/
theorem tx_cong {s s2 : Rw} (h : ∀ k, 80 ≤ k → s2 k = s k) : stW s2 = stW s ∧ stV s2 = stV s ∧ (∀ t key q, lstT s2 q key = lstT s q key ∧ s2 (80 + 200 * t) = s (80 + 200 * t) ∧ cT s2 t = cT s t) := by
  refine ⟨?_, ?_, ?_⟩
  · funext t k; exact h _ (by omega)
  · funext t k; exact h _ (by omega)
  · intro t key q
    refine ⟨?_, h _ (by omega), by unfold cT; rw [h _ (by omega)]⟩
    unfold lstT
    congr 1
    funext t
    rw [h _ (by omega)]
theorem dep_cong {s s2 : Rw} (h : ∀ k, 80 ≤ k → s2 k = s k) (t : Nat) : ∀ k, depT s2 t k = depT s t k := by
  obtain ⟨h1, h2, -⟩ := tx_cong h
  intro k
  induction k with
  | zero => rfl
  | succ k ih => simp only [depT, h1, h2, ih]
theorem run_cong {s s2 : Rw} (h : ∀ k, 80 ≤ k → s2 k = s k) (t : Nat) (nm : Rw) : ∀ k, runL s2 t nm k = runL s t nm k := by
  obtain ⟨h1, h2, -⟩ := tx_cong h
  intro k
  induction k with
  | zero => rfl
  | succ k ih => simp only [runL, h1, h2, ih]
theorem giv_cong {s s2 : Rw} (h : ∀ k, 80 ≤ k → s2 k = s k) (t : Nat) (nm : Rw) : givT s2 t nm = givT s t nm := by
  unfold givT
  rw [run_cong h, ((tx_cong h).2.2 t 0 0).2.2]
theorem wf_cong {s s2 : Rw} (h : ∀ k, 80 ≤ k → s2 k = s k) {t : Nat} (hw : WFt s t) : WFt s2 t := by
  obtain ⟨h1, h2, h3⟩ := tx_cong h
  obtain ⟨a, b, c, e⟩ := hw
  have hc := (h3 t 0 0).2.2
  refine ⟨by rw [hc, h _ (by omega)]; exact a, by rw [hc]; exact b, by rw [hc, dep_cong h]; exact c, ?_⟩
  intro k hk
  rw [hc] at hk
  have := e k hk
  unfold stOK at this ⊢
  rw [h1, h2, dep_cong h, h (80 + 200 * t) (by omega)]
  exact this
/-- what reaching hangs on -/
def RelS (s s2 : Rw) : Prop := (∀ k, 80 ≤ k → s2 k = s k) ∧ (∀ k, 8 ≤ k → k < 28 → s2 k = s k) ∧ ∀ l, l < 8 → s2 (28 + 5 * l + 0) = s (28 + 5 * l + 0) ∧ s2 (28 + 5 * l + 1) = s (28 + 5 * l + 1) ∧ s2 (28 + 5 * l + 2) = s (28 + 5 * l + 2)
theorem RelS.rf (s : Rw) : RelS s s := ⟨fun _ _ => rfl, fun _ _ _ => rfl, fun _ _ => ⟨rfl, rfl, rfl⟩⟩
theorem RelS.tr {a b c : Rw} (h : RelS a b) (h2 : RelS b c) : RelS a c := ⟨fun k hk => (h2.1 k hk).trans (h.1 k hk), fun k h3 h4 => (h2.2.1 k h3 h4).trans (h.2.1 k h3 h4), fun l hl => ⟨(h2.2.2 l hl).1.trans (h.2.2 l hl).1, (h2.2.2 l hl).2.1.trans (h.2.2 l hl).2.1, (h2.2.2 l hl).2.2.trans (h.2.2 l hl).2.2⟩⟩
theorem RelS.upd {s : Rw} {k : Nat} {v : Int32} (h : k < 8 ∨ (∃ l, k = 28 + 5 * l + 3 ∧ l < 8) ∨ (∃ l, k = 28 + 5 * l + 4 ∧ l < 8) ∨ (68 ≤ k ∧ k < 80)) : RelS s (upd s k v) := by
  refine ⟨fun j hj => upd_n ?_, fun j h1 h2 => upd_n ?_, fun l hl => ⟨upd_n ?_, upd_n ?_, upd_n ?_⟩⟩ <;> rcases h with h | ⟨x, rfl, h⟩ | ⟨x, rfl, h⟩ | h <;> omega
theorem len_cong {s s2 : Rw} (h : RelS s s2) (q : Nat) {a b : Nat} (ha : a < 10) (hb : b < 10) : lenS s2 q a b = lenS s q a b := by
  unfold lenS hgt plc
  rw [((tx_cong h.1).2.2 0 0 q).1, giv_cong h.1, h.2.1 _ (by omega) (by omega), h.2.1 _ (by omega) (by omega), h.2.1 _ (by omega) (by omega), h.2.1 _ (by omega) (by omega)]
theorem rch_cong {s s2 : Rw} (h : RelS s s2) (q : Nat) {l b : Nat} (hl : l < 8) (hf : fN s l < 10) (hb : b < 10) : rchS s2 q l b = rchS s q l b := by
  obtain ⟨h1, h2, h3⟩ := h.2.2 l hl
  have e : fN s2 l = fN s l := by unfold fN fot; rw [h3]
  unfold rchS
  rw [e, len_cong h q hf hb]
  unfold hgt knd lng
  rw [h1, h2, h.2.1 _ (by omega) (by omega), h.2.1 _ (by omega) (by omega)]
theorem Inv.of {s s2 : Rw} {n m p q : Nat} (h : Inv s n m p q) (hR : RelS s s2) (h1 : ∀ k, k < 4 ∨ k = 5 ∨ (68 ≤ k ∧ k < 80) → s2 k = s k) (h3 : ∀ l, l < m → ∃ b, b < n ∧ s2 (28 + 5 * l + 3) = nI b) (h4 : ∀ l, l < m → s2 (28 + 5 * l + 4) = 0 ∨ s2 (28 + 5 * l + 4) = 1) : Inv s2 n m p q := by
  have hn10 := h.n10
  have hm8 := h.m8
  have hp6 := h.p6
  refine ⟨⟨by rw [h1 0 (by omega)]; exact h.en, h.n10⟩, ⟨by rw [h1 1 (by omega)]; exact h.em, h.m8⟩, ⟨by rw [h1 2 (by omega)]; exact h.ep, h.p6⟩, ⟨by rw [h1 3 (by omega)]; exact h.eq3, h.q14⟩, ?_, ?_, ?_, ?_, by rw [h1 5 (by omega)]; exact h.th⟩
  · intro l hl
    obtain ⟨e1, e2, e3⟩ := hR.2.2 l (by omega)
    have hh := h.2.2.2.2.1 l hl
    obtain ⟨b, hb, eb⟩ := h3 l hl
    have ek : knd s2 l = knd s l := e1
    have ef : fot s2 l = fot s l := e3
    have el : lng s2 l = lng s l := e2
    have et : tpp s2 l = nI b := eb
    refine ⟨?_, ?_, ?_, h4 l hl, by rw [el]; exact hh.2.2.2.2⟩
    · unfold kN; rw [ek]; exact hh.1
    · unfold fN; rw [ef]; exact hh.2.1
    · unfold tN; rw [et, nI_clamp (by omega)]; exact ⟨rfl, hb⟩
  · intro i hi
    have e1 : spt s2 i = spt s i := h1 _ (by omega)
    have e2 : stg s2 i = stg s i := h1 _ (by omega)
    have hh := h.2.2.2.2.2.1 i hi
    refine ⟨?_, by rw [e2]; exact hh.2⟩
    unfold sN; rw [e1]; exact hh.1
  · intro t ht
    exact ⟨wf_cong hR.1 (h.tx ht), by rw [hR.1 _ (by omega)]; exact h.ky ht⟩
  · intro i hi
    have e1 : hgt s2 i = hgt s i := hR.2.1 _ (by omega) (by omega)
    have e2 : plc s2 i = plc s i := hR.2.1 _ (by omega) (by omega)
    rw [e1, e2]
    exact h.hp hi
theorem Inv.up {s : Rw} {n m p q : Nat} (h : Inv s n m p q) {k : Nat} {v : Int32} (hk : k = 4 ∨ k = 6 ∨ k = 7) : Inv (upd s k v) n m p q := by
  have hm8 := h.m8
  refine h.of (RelS.upd (by omega)) (fun j hj => upd_n (by omega)) (fun l hl => ⟨tN s l, h.tn hl, ?_⟩) (fun l hl => ?_)
  · rw [upd_n (by omega)]; exact h.t hl
  · rw [upd_n (by omega)]; exact h.mv hl
theorem Inv.upM {s : Rw} {n m p q : Nat} (h : Inv s n m p q) {l : Nat} (hl : l < m) {v : Int32} (hv : v = 0 ∨ v = 1) : Inv (upd s (28 + 5 * l + 4) v) n m p q := by
  have hm8 := h.m8
  refine h.of (RelS.upd (by right; right; left; exact ⟨l, rfl, by omega⟩)) (fun j hj => upd_n (by omega)) (fun l2 hl2 => ⟨tN s l2, h.tn hl2, ?_⟩) (fun l2 hl2 => ?_)
  · rw [upd_n (by omega)]; exact h.t hl2
  · by_cases e : l2 = l
    · subst e; rw [upd_s]; exact hv
    · rw [upd_n (by omega)]; exact h.mv hl2
theorem Inv.upT {s : Rw} {n m p q : Nat} (h : Inv s n m p q) {l b : Nat} (hl : l < m) (hb : b < n) : Inv (upd s (28 + 5 * l + 3) (nI b)) n m p q := by
  have hm8 := h.m8
  refine h.of (RelS.upd (by right; left; exact ⟨l, rfl, by omega⟩)) (fun j hj => upd_n (by omega)) (fun l2 hl2 => ?_) (fun l2 hl2 => ?_)
  · by_cases e : l2 = l
    · subst e; exact ⟨b, hb, upd_s⟩
    · exact ⟨tN s l2, h.tn hl2, by rw [upd_n (by omega)]; exact h.t hl2⟩
  · rw [upd_n (by omega)]; exact h.mv hl2
/-- the row 1 is now s2; of the others only 14, 15 may have changed -/
def SR (mi mi2 : MI) (s2 : Rw) : Prop := mi2 1 = s2 ∧ ∀ a, a ≠ 1 → a ≠ 14 → a ≠ 15 → mi2 a = mi a
theorem SR.rf {mi : MI} {s : Rw} (h : mi 1 = s) : SR mi mi s := ⟨h, fun _ _ _ _ => rfl⟩
theorem SR.sb {a b c : MI} {s : Rw} (h : SR a b s) (h2 : SB b c) : SR a c s := ⟨h2.r1.trans h.1, fun x h3 h4 h5 => (h2 x h4 h5).trans (h.2 x h3 h4 h5)⟩
theorem SR.up {a b : MI} {s : Rw} (h : SR a b s) {k : Nat} {v : Int32} : SR a (upI b 1 k v) (upd s k v) := ⟨by rw [upI_self, h.1], fun x h3 h4 h5 => (upI_ne h3).trans (h.2 x h3 h4 h5)⟩
theorem SR.tr {a b c : MI} {s s2 : Rw} (h : SR a b s) (h2 : SR b c s2) : SR a c s2 := ⟨h2.1, fun x h3 h4 h5 => (h2.2 x h3 h4 h5).trans (h.2 x h3 h4 h5)⟩
theorem SB.sr {a b : MI} {s : Rw} (h : SB a b) (hs : a 1 = s) : SR a b s := ⟨h.r1.trans hs, fun x _ h4 h5 => h x h4 h5⟩
/-- the next one, round, that passes, or was itself -/
def nxB (f : Nat → Bool) (n was : Nat) : Nat → Nat → Nat
  | 0, b => b
  | k + 1, b => if b = was then b else if f b then b else nxB f n was k ((b + 1) % n)
def clrR (s : Rw) : Nat → Rw
  | 0 => s
  | k + 1 => upd (clrR s k) (28 + 5 * k + 4) 0
def nstep (s0 : Rw) (q n l : Nat) (x : Rw × Nat) : Rw × Nat :=
  if remS (drw (nz (x.1 6))) 100 < x.1 5 then
    (upd (upd x.1 6 (nz (x.1 6))) (28 + 5 * l + 3) (nI (nxB (rchS s0 q l) n (tN x.1 l) n ((tN x.1 l + 1) % n))), x.2 + (if nxB (rchS s0 q l) n (tN x.1 l) n ((tN x.1 l + 1) % n) = tN x.1 l then 0 else 1))
  else (upd x.1 6 (nz (x.1 6)), x.2)
def ngtR (s : Rw) (q n m : Nat) : Nat → Rw × Nat
  | 0 => (clrR s m, 0)
  | k + 1 => nstep s q n k (ngtR s q n m k)
def nightR (s : Rw) (q n m : Nat) : Rw := upd (ngtR s q n m m).1 4 ((ngtR s q n m m).1 4 + 1)
theorem nxB_lt (f : Nat → Bool) {n was : Nat} (hn : 0 < n) : ∀ k b, b < n → nxB f n was k b < n
  | 0, b, hb => hb
  | k + 1, b, hb => by
    simp only [nxB]
    split
    · exact hb
    · split
      · exact hb
      · exact nxB_lt f hn k _ (Nat.mod_lt _ hn)
theorem clrR_ok {s : Rw} {n m p q : Nat} (h : Inv s n m p q) : ∀ k, k ≤ m → Inv (clrR s k) n m p q ∧ RelS s (clrR s k)
  | 0, _ => ⟨h, RelS.rf s⟩
  | k + 1, hk => by
    have hm8 := h.m8
    obtain ⟨h1, h2⟩ := clrR_ok h k (by omega)
    exact ⟨h1.upM (by omega) (Or.inl rfl), h2.tr (RelS.upd (by right; right; left; exact ⟨k, rfl, by omega⟩))⟩
theorem ngtR_ok {s : Rw} {n m p q : Nat} (h : Inv s n m p q) : ∀ k, k ≤ m → Inv (ngtR s q n m k).1 n m p q ∧ RelS s (ngtR s q n m k).1 ∧ (ngtR s q n m k).2 ≤ k
  | 0, _ => ⟨(clrR_ok h m (Nat.le_refl _)).1, (clrR_ok h m (Nat.le_refl _)).2, Nat.le_refl _⟩
  | k + 1, hk => by
    have hm8 := h.m8
    obtain ⟨h1, h2, h3⟩ := ngtR_ok h k (by omega)
    have hn : 0 < n := Nat.lt_of_le_of_lt (Nat.zero_le _) (h1.tn (show k < m by omega))
    have r1 : RelS (ngtR s q n m k).1 (upd (ngtR s q n m k).1 6 (nz ((ngtR s q n m k).1 6))) := RelS.upd (by omega)
    have i1 := h1.up (k := 6) (v := nz ((ngtR s q n m k).1 6)) (by omega)
    show Inv (nstep s q n k (ngtR s q n m k)).1 n m p q ∧ RelS s (nstep s q n k (ngtR s q n m k)).1 ∧ (nstep s q n k (ngtR s q n m k)).2 ≤ k + 1
    unfold nstep
    split
    · refine ⟨i1.upT (by omega) (nxB_lt _ hn _ _ (Nat.mod_lt _ hn)), (h2.tr r1).tr (RelS.upd (by right; left; exact ⟨k, rfl, by omega⟩)), ?_⟩
      dsimp only
      split <;> omega
    · exact ⟨i1, h2.tr r1, by dsimp only; omega⟩
theorem nightR_ok {s : Rw} {n m p q : Nat} (h : Inv s n m p q) : Inv (nightR s q n m) n m p q ∧ RelS s (nightR s q n m) :=
  ⟨(ngtR_ok h m (Nat.le_refl _)).1.up (by omega), (ngtR_ok h m (Nat.le_refl _)).2.1.tr (RelS.upd (by omega))⟩
/-- n nights: how many came to another top, the row behind them -/
def ngtsR (s : Rw) (q n m : Nat) : Nat → Rw × Nat
  | 0 => (s, 0)
  | k + 1 => (nightR (ngtsR s q n m k).1 q n m, (ngtsR s q n m k).2 + (ngtR (ngtsR s q n m k).1 q n m m).2)
