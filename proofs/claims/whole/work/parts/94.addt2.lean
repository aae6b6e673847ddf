/-! ONE TEXT MORE in the class's town -/
theorem vd_pd {tp : Nat} {T : Rw} (h96 : tp ≤ 96) (hok : (pdF tp T).1 = true) : VD (kyP tp T) (PS.o (pdF tp T).2) 0 1 := by
  have h1 := (nxT_ok (T := T) (k := 3) h96 (Nat.zero_le tp)).1
  have h2 := (nxT_ok (T := T) (k := Tok.k (tk1 tp T)) h96 h1.2.1).1
  have h := pdF_e (T := T) h96
  rw [show pdF tp T = (true, (pdF tp T).2) from by rw [← hok]] at h
  have g := pd_good (T := T) (key := kyP tp T) h96 970 8 (ps1 tp T) (pdF tp T).2 h2 tv_nx h
  obtain ⟨_, _, new, e, v⟩ := g
  have v : ∀ d, VD (kyP tp T) new d (d + 1) := v
  rw [e]
  exact v 0
theorem ctab_17 : ∀ k, ctab 17 k = none := fun k => by cases k <;> rfl
theorem ctab_t {b : Nat} (hb : isT b) : ∀ k, ctab (b + 9) k = none := by
  rcases hb with rfl | rfl | rfl <;> exact fun k => by cases k <;> rfl
section
variable {sh sh2 : List Sh} {mi mi5 : MI} {mr mr5 : MR} {key : Int32} {sd q kt : Nat} {O : List Int32}
theorem TxN.hs (h : TxN sh mi mr key sd O sh2 mi5 mr5) : ∀ (x : Nat) (y : Sh), sh[x]? = some y → sh2[x]? = some y := fun x y hx => by rw [h.1]; exact sh_l (sh_l hx)
theorem TxN.hm (h : TxN sh mi mr key sd O sh2 mi5 mr5) : ∀ x, 76 ≤ x → x < sh.length → mi5 x = mi x ∧ mr5 x = mr x := fun x h1 h2 => ⟨h.2.1.1 x h2 (by omega) (by omega) (by omega), h.2.2.2.2.1 x h2⟩
theorem TxN.b (h : TxN sh mi mr key sd O sh2 mi5 mr5) (hF : SHC sh) : ∀ x, x < 48 → mi5 x = mi x ∧ mr5 x = mr x := fun x hx => by
  have := hF.n
  exact ⟨h.2.1.1 x (by omega) (by omega) (by omega) (by omega), h.2.2.2.2.1 x (by omega)⟩
theorem TxN.rt (h : TxN sh mi mr key sd O sh2 mi5 mr5) (hF : SHC sh) {b : Nat} (hb : b + 11 < 48) {s : Rw} {n m p q : Nat} (hR : RT sh mi mr b s n m p q) (hI : Inv s n m p q) : RT sh2 mi5 mr5 b s n m p q :=
  hR.mv2 hI (fun x h1 h2 => (h.b hF x (by omega)).1) (h.b hF (b + 9) (by omega)).2 h.hs h.hm
theorem TxN.tx (h : TxN sh mi mr key sd O sh2 mi5 mr5) (hF : SHC sh) {b : Nat} (hb : b + 11 < 48) (hx : TxR sh mr b) : TxR sh2 mr5 b := fun t ht a ha => by
  rw [(h.b hF (b + 9) (by omega)).2] at ha
  have := hx t ht a ha
  exact ⟨this.1, h.hs _ _ this.2⟩
theorem TxN.tx8 (h : TxN sh mi mr key sd O sh2 mi5 mr5) (hF : SHC sh) (hx : TxR sh mr 8) (q : Nat) : TxR sh2 (upR mr5 17 q (some sh.length)) 8 := fun t ht a ha => by
  have hn := hF.n
  have ha : upR mr5 17 q (some sh.length) 17 t = some a := ha
  unfold upR at ha
  rw [if_pos rfl] at ha
  unfold va_up at ha
  split at ha
  · obtain rfl := Option.some.inj ha
    exact ⟨hn, by rw [h.1]; exact sh_l sh_n⟩
  · exact h.tx hF (by omega) hx t ht a ha
theorem TxN.txo (h : TxN sh mi mr key sd O sh2 mi5 mr5) (hF : SHC sh) {b : Nat} (hb : b + 11 < 48) (h8 : b ≠ 8) (hx : TxR sh mr b) (q : Nat) : TxR sh2 (upR mr5 17 q (some sh.length)) b := fun t ht a ha => by
  rw [upR_ne (by omega)] at ha
  exact h.tx hF hb hx t ht a ha
theorem TxN.cb (h : TxN sh mi mr key sd O sh2 mi5 mr5) (hF : SHC sh) (hB : CB mr) (q : Nat) : CB (upR mr5 17 q (some sh.length)) := fun a k b hx => by
  by_cases e : a = 17
  · subst e; rw [ctab_17] at hx; cases hx
  · rw [upR_ne e]; exact h.B hF hB a k b hx
theorem TxN.aT {o : List Ste} (h : TxN sh mi mr key sd O sh2 mi5 mr5) (hF : SHC sh) (hO : O = o.map (cdO key)) (hkt : kt < 3) (hkk : key = nI kt) (hv : VD key o 0 1) {s : Rw} {n m p : Nat} (hR : RT sh mi mr 8 s n m p q) (hI : Inv s n m p q) (hq : q < 14) :
    RT sh2 (upI (upI mi5 18 kt (nI q)) 8 16 (nI (q + 1))) (upR mr5 17 q (some sh.length)) 8 (addT s q key o sd) n m p (q + 1) := by
  have hn := hF.n
  have hol : o.length ≤ 92 := by have := h.2.2.2.2.2.2; rw [hO, List.length_map] at this; exact this
  have hR5 := h.rt hF (by omega) hR hI
  have lo : ∀ k, k < 80 → k ≠ 3 → addT s q key o sd k = s k := fun k h h3 => aT_lo (by omega) h3
  have hm8 := hI.m8
  have hn10 := hI.n10
  have hp6 := hI.p6
  obtain ⟨⟨g1, g1b, g1c, g1d⟩, ⟨g2, g2b, g2c, g2d⟩, g3, g4, g5, g6, g7⟩ := hR5
  have e8 : ∀ j, j ≠ 16 → upI (upI mi5 18 kt (nI q)) 8 16 (nI (q + 1)) 8 j = mi5 8 j := fun j hj => by rw [up_ne hj, upI_ne (by decide)]
  have er : ∀ x, x ≠ 8 → x ≠ 18 → upI (upI mi5 18 kt (nI q)) 8 16 (nI (q + 1)) x = mi5 x := fun x h1 h2 => by rw [upI_ne h1, upI_ne h2]
  refine ⟨⟨by rw [e8 1 (by decide)]; exact g1, by rw [e8 4 (by decide)]; exact g1b, by rw [e8 10 (by decide)]; exact g1c, up_eq⟩, ⟨?_, ?_, ?_, ?_⟩, fun i hi => ?_, fun l hl => ?_, fun i hi => ?_, fun k hk => ?_, fun t ht => ?_⟩
  · rw [e8 9 (by decide), g2]
    exact bits_cong m (fun l hl => by unfold mvd; rw [lo _ (by omega) (by omega)])
  · rw [e8 13 (by decide), lo 4 (by decide) (by decide)]; exact g2b
  · rw [e8 14 (by decide), lo 5 (by decide) (by decide)]; exact g2c
  · rw [e8 15 (by decide), lo 6 (by decide) (by decide)]; exact g2d
  · rw [er (8 + 1) (by decide) (by decide), er (8 + 2) (by decide) (by decide)]
    have := g3 i hi
    unfold hgt plc at this ⊢
    rw [lo _ (by omega) (by omega), lo _ (by omega) (by omega)]
    exact this
  · rw [er (8 + 3) (by decide) (by decide), er (8 + 4) (by decide) (by decide), er (8 + 5) (by decide) (by decide), er (8 + 6) (by decide) (by decide)]
    have := g4 l hl
    unfold knd lng fot tpp at this ⊢
    rw [lo _ (by omega) (by omega), lo _ (by omega) (by omega), lo _ (by omega) (by omega), lo _ (by omega) (by omega)]
    exact this
  · rw [er (8 + 7) (by decide) (by decide), er (8 + 8) (by decide) (by decide)]
    have := g5 i hi
    unfold spt stg at this ⊢
    rw [lo _ (by omega) (by omega), lo _ (by omega) (by omega)]
    exact this
  · have el : lstT (addT s q key o sd) (q + 1) (nI k) = if decide (key = nI k) = true then nI q else lstT s q (nI k) := by
      unfold lstT
      show (if decide (addT s q key o sd (80 + 200 * q) = nI k) = true then nI q else lastB (fun t => decide (addT s q key o sd (80 + 200 * t) = nI k)) q) = _
      rw [lastB_cg (g := fun t => decide (s (80 + 200 * t) = nI k)) q (fun t ht => by show decide _ = decide _; rw [aT_lo (by omega) (by omega)])]
      have ek := aT_key (s := s) (q := q) (key := key) (o := o) (sd := sd)
      simp only [ek]
    rw [el, show (8 : Nat) + 10 = 18 from rfl, upI_ne (by decide)]
    by_cases e : k = kt
    · subst e
      rw [up_eq, hkk, if_pos (by simp)]
    · rw [up_ne e, if_neg (by
        rw [hkk, decide_eq_true_eq]
        exact fun z => e ((nI_eq (by omega) (by omega)).mp z).symm)]
      exact g6 k hk
  · rcases Nat.lt_or_ge t q with z | z
    · obtain ⟨a, a1, a2⟩ := g7 t z
      refine ⟨a, ?_, ?_⟩
      · show upR mr5 17 q (some sh.length) 17 t = some a
        unfold upR va_up
        rw [if_pos rfl, if_neg (by omega)]
        exact a1
      · refine a2.rg ((hI.2.2.2.2.2.2.1 t z).1.2.1) (fun k h1 h2 => aT_lo (by omega) (by omega)) (fun x y hx => hx) (fun x h1 h2 => ⟨er x (by omega) (by omega), upR_ne (by omega)⟩)
    · obtain rfl : t = q := by omega
      refine ⟨sh.length, ?_, sh.length + 1, kt, ⟨hn, by omega⟩, ⟨by rw [h.1]; exact sh_l sh_n, ?_⟩, ?_, ⟨hkt, by rw [aT_key, hkk], ?_, ?_⟩, fun k hk => ?_⟩
      · show upR mr5 17 t (some sh.length) 17 t = _
        unfold upR va_up
        rw [if_pos rfl, if_pos rfl]
      · rw [h.1, aT_c (by omega)]
        have hL : (sh ++ [((12, 3) : Sh)]).length = sh.length + 1 := by rw [List.length_append]; rfl
        rw [← hL, sh_n, hO, List.length_map]
      · rw [upR_ne (by omega)]; exact h.2.2.2.2.2.1
      · rw [er _ (by omega) (by omega), h.2.2.1.1, hkk]
      · rw [er _ (by omega) (by omega), h.2.2.1.2, aT_sd]
      · rw [aT_c (by omega)] at hk
        obtain ⟨x, hx⟩ : ∃ x, o[k]? = some x := ⟨_, List.getElem?_eq_getElem hk⟩
        obtain ⟨w, v⟩ := aT_w (s := s) (q := t) (key := key) (sd := sd) hx
        rw [w, v, er _ (by omega) (by omega), h.2.2.2.1 k (cdO key x) (by rw [hO, List.getElem?_map, hx]; rfl)]
        have := hv.at_ hx
        rw [hkk] at this ⊢
        exact cd_ok hkt this
end
