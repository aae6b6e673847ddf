/-! ONE TEXT MORE, in the model's row and in the class's town -/
section
variable {s s2 : Rw} {t : Nat}
theorem st_rg (h : ∀ k, 80 + 200 * t ≤ k → k < 280 + 200 * t → s2 k = s k) {k : Nat} (hk : k < 96) : stW s2 t k = stW s t k ∧ stV s2 t k = stV s t k := ⟨h _ (by omega) (by omega), h _ (by omega) (by omega)⟩
theorem dep_rg (h : ∀ k, 80 + 200 * t ≤ k → k < 280 + 200 * t → s2 k = s k) : ∀ k, k ≤ 96 → depT s2 t k = depT s t k
  | 0, _ => rfl
  | k + 1, hk => by
    unfold depT
    rw [(st_rg h (k := k) (by omega)).1, (st_rg h (k := k) (by omega)).2, dep_rg h k (by omega)]
theorem cT_rg (h : ∀ k, 80 + 200 * t ≤ k → k < 280 + 200 * t → s2 k = s k) : cT s2 t = cT s t := by
  unfold cT
  rw [h _ (by omega) (by omega)]
theorem WFt.rg (hw : WFt s t) (h : ∀ k, 80 + 200 * t ≤ k → k < 280 + 200 * t → s2 k = s k) : WFt s2 t := by
  obtain ⟨a1, a2, a3, a4⟩ := hw
  have e := cT_rg h
  refine ⟨by rw [e, h _ (by omega) (by omega)]; exact a1, by rw [e]; exact a2, by rw [e, dep_rg h _ a2]; exact a3, fun k hk => ?_⟩
  rw [e] at hk
  have := a4 k hk
  unfold stOK at this ⊢
  rw [(st_rg h (k := k) (by omega)).1, (st_rg h (k := k) (by omega)).2, dep_rg h k (by omega), h (80 + 200 * t) (by omega) (by omega)]
  exact this
theorem TXT.rg {sh sh2 : List Sh} {mi mi2 : MI} {mr mr2 : MR} {a : Nat} (h : TXT sh mi mr a s t) (h96 : cT s t ≤ 96) (hr : ∀ k, 80 + 200 * t ≤ k → k < 280 + 200 * t → s2 k = s k) (hs : ∀ (x : Nat) (y : Sh), sh[x]? = some y → sh2[x]? = some y) (hm : ∀ x, 76 ≤ x → x < sh.length → mi2 x = mi x ∧ mr2 x = mr x) : TXT sh2 mi2 mr2 a s2 t := by
  obtain ⟨c, kt, ⟨z1, z2⟩, ⟨e2, e2'⟩, e3, ⟨g1, g2, g3, g4⟩, e5⟩ := h
  have la := (List.getElem?_eq_some_iff.mp e2).1
  have lc := (List.getElem?_eq_some_iff.mp e2').1
  have e := cT_rg hr
  refine ⟨c, kt, ⟨z1, z2⟩, ⟨hs _ _ e2, by rw [e]; exact hs _ _ e2'⟩, by rw [(hm a z1 la).2]; exact e3, ⟨g1, by rw [hr _ (by omega) (by omega)]; exact g2, by rw [(hm a z1 la).1]; exact g3, by rw [(hm a z1 la).1, hr _ (by omega) (by omega)]; exact g4⟩, fun k hk => ?_⟩
  rw [e] at hk
  rw [(st_rg hr (k := k) (by omega)).1, (st_rg hr (k := k) (by omega)).2, (hm c z2 lc).1]
  exact e5 k hk
end
theorem lastB_cg {f g : Nat → Bool} : ∀ n, (∀ t, t < n → f t = g t) → lastB f n = lastB g n
  | 0, _ => rfl
  | n + 1, h => by
    simp only [lastB]
    rw [h n (by omega), lastB_cg n (fun t ht => h t (by omega))]
/-- a town stays as it is while texts are made elsewhere -/
theorem RT.mv2 {sh sh2 : List Sh} {mi mi2 : MI} {mr mr2 : MR} {b : Nat} {s : Rw} {n m p q : Nat} (h : RT sh mi mr b s n m p q) (hI : Inv s n m p q) (hb : ∀ x, b ≤ x → x ≤ b + 10 → mi2 x = mi x) (hr : mr2 (b + 9) = mr (b + 9)) (hs : ∀ (x : Nat) (y : Sh), sh[x]? = some y → sh2[x]? = some y) (hm : ∀ x, 76 ≤ x → x < sh.length → mi2 x = mi x ∧ mr2 x = mr x) : RT sh2 mi2 mr2 b s n m p q := by
  obtain ⟨g1, g2, g3, g4, g5, g6, g7⟩ := h
  refine ⟨by rw [hb b (by omega) (by omega)]; exact g1, by rw [hb b (by omega) (by omega)]; exact g2, ?_, ?_, ?_, ?_, ?_⟩
  · rw [hb (b + 1) (by omega) (by omega), hb (b + 2) (by omega) (by omega)]; exact g3
  · rw [hb (b + 3) (by omega) (by omega), hb (b + 4) (by omega) (by omega), hb (b + 5) (by omega) (by omega), hb (b + 6) (by omega) (by omega)]; exact g4
  · rw [hb (b + 7) (by omega) (by omega), hb (b + 8) (by omega) (by omega)]; exact g5
  · rw [hb (b + 10) (by omega) (by omega)]; exact g6
  · rw [hr]
    intro t ht
    obtain ⟨a, a1, a2⟩ := g7 t ht
    exact ⟨a, a1, a2.rg ((hI.2.2.2.2.2.2.1 t ht).1.2.1) (fun _ _ _ => rfl) hs hm⟩
section
variable {s : Rw} {q sd : Nat} {key : Int32} {o : List Ste}
theorem aT_lo {k : Nat} (h : k < 80 + 200 * q) (h3 : k ≠ 3) : addT s q key o sd k = s k := by
  unfold addT
  rw [upd_n h3, upd_n (by omega), upd_n (by omega), upd_n (by omega)]
  unfold layR
  rw [if_neg (by omega)]
theorem aT_3 : addT s q key o sd 3 = nI (q + 1) := by unfold addT; rw [upd_s]
theorem aT_key : addT s q key o sd (80 + 200 * q) = key := by
  unfold addT
  rw [upd_n (by omega), upd_n (by omega), upd_n (by omega), show 80 + 200 * q + 0 = 80 + 200 * q from rfl, upd_s]
theorem aT_sd : addT s q key o sd (80 + 200 * q + 1) = nI sd := by
  unfold addT
  rw [upd_n (by omega), upd_n (by omega), upd_s]
theorem aT_l : addT s q key o sd (80 + 200 * q + 2) = nI o.length := by
  unfold addT
  rw [upd_n (by omega), upd_s]
theorem aT_c (h : o.length ≤ 96) : cT (addT s q key o sd) q = o.length := by
  unfold cT
  rw [aT_l, nI_clamp (by omega)]
theorem aT_w {k : Nat} {x : Ste} (h : o[k]? = some x) : stW (addT s q key o sd) q k = x.1 ∧ stV (addT s q key o sd) q k = x.2 := by
  have hk : k < o.length := (List.getElem?_eq_some_iff.mp h).1
  have hg : o.getD k (0, 0) = x := by rw [List.getD_eq_getElem?_getD, h]; rfl
  constructor
  · unfold stW addT
    rw [upd_n (by omega), upd_n (by omega), upd_n (by omega), upd_n (by omega)]
    unfold layR
    rw [if_pos (by omega), if_pos (by omega), show (80 + 200 * q + 4 + 2 * k - (80 + 200 * q + 4)) / 2 = k by omega, hg]
  · unfold stV addT
    rw [upd_n (by omega), upd_n (by omega), upd_n (by omega), upd_n (by omega)]
    unfold layR
    rw [if_pos (by omega), if_neg (by omega), show (80 + 200 * q + 4 + 2 * k + 1 - (80 + 200 * q + 4)) / 2 = k by omega, hg]
theorem dep_s (S : Rw) (t k : Nat) : depT S t (k + 1) = if stW S t k = 2 then (if stV S t k = 33 then depT S t k else depT S t k - 1) else depT S t k + 1 := rfl
theorem sg_33 {x : Int32} (h : sgOK x) : ¬ x = 33 := by
  intro z
  subst z
  revert h
  unfold sgOK
  decide
theorem aT_vd (hv : VD key o 0 1) : ∀ k, k ≤ o.length → VD key (o.drop k) (depT (addT s q key o sd) q k) 1
  | 0, _ => hv
  | k + 1, hk => by
    have h := aT_vd hv k (by omega)
    obtain ⟨x, hx⟩ : ∃ x, o[k]? = some x := ⟨_, List.getElem?_eq_getElem (by omega)⟩
    have hd : o.drop k = x :: o.drop (k + 1) := by
      rw [List.drop_eq_getElem_cons (by omega)]
      congr 1
      exact (List.getElem?_eq_some_iff.mp hx).2
    rw [hd] at h
    obtain ⟨w, v⟩ := aT_w (s := s) (q := q) (key := key) (sd := sd) hx
    rw [dep_s, w, v]
    rcases h with ⟨a, b, c⟩ | ⟨a, b, c⟩ | ⟨a, b, c, e⟩ | ⟨a, b, c, e⟩
    · rw [a, if_neg (by decide)]; exact c
    · rw [a, if_neg (by decide)]; exact c
    · rw [a, if_pos rfl, if_pos b]; exact e
    · rw [a, if_pos rfl, if_neg (sg_33 b)]; exact e
theorem nm_ok {c : Int32} (h : nmB key c = true) (hk : key = 0 ∨ key = 1 ∨ key = 2) : ∃ j, j < 128 ∧ c = nI j ∧ nmOK key j := by
  unfold nmB at h
  unfold nmOK
  rcases hk with rfl | rfl | rfl
  · rw [if_pos rfl] at h
    simp only [Bool.or_eq_true, decide_eq_true_eq] at h
    rcases h with rfl | rfl
    · exact ⟨104, by decide, rfl, by simp⟩
    · exact ⟨112, by decide, rfl, by simp⟩
  · rw [if_neg (by decide), if_pos rfl] at h
    simp only [Bool.or_eq_true, decide_eq_true_eq] at h
    rcases h with (rfl | rfl) | rfl
    · exact ⟨115, by decide, rfl, by simp⟩
    · exact ⟨108, by decide, rfl, by simp⟩
    · exact ⟨100, by decide, rfl, by simp⟩
  · rw [if_neg (by decide), if_neg (by decide)] at h
    simp only [Bool.or_eq_true, decide_eq_true_eq] at h
    rcases h with rfl | rfl
    · exact ⟨109, by decide, rfl, by simp⟩
    · exact ⟨110, by decide, rfl, by simp⟩
theorem aT_wf (hv : VD key o 0 1) (hl : o.length ≤ 96) (hk : key = 0 ∨ key = 1 ∨ key = 2) : WFt (addT s q key o sd) q := by
  have ec := aT_c (s := s) (q := q) (key := key) (sd := sd) hl
  refine ⟨by rw [ec, aT_l], by rw [ec]; exact hl, ?_, fun k hk2 => ?_⟩
  · rw [ec]
    have h := aT_vd (s := s) (q := q) (sd := sd) hv o.length (Nat.le_refl _)
    rw [List.drop_length] at h
    have h : depT (addT s q key o sd) q o.length = 1 := h
    omega
  · rw [ec] at hk2
    have h := aT_vd (s := s) (q := q) (sd := sd) hv k (by omega)
    obtain ⟨x, hx⟩ : ∃ x, o[k]? = some x := ⟨_, List.getElem?_eq_getElem hk2⟩
    have hd : o.drop k = x :: o.drop (k + 1) := by
      rw [List.drop_eq_getElem_cons hk2]
      congr 1
      exact (List.getElem?_eq_some_iff.mp hx).2
    rw [hd] at h
    obtain ⟨w, v⟩ := aT_w (s := s) (q := q) (key := key) (sd := sd) hx
    unfold stOK
    rw [w, v, aT_key]
    rcases h with ⟨a, b, c⟩ | ⟨a, b, c⟩ | ⟨a, b, c, e⟩ | ⟨a, b, c, e⟩
    · exact Or.inl a
    · exact Or.inr (Or.inl ⟨a, nm_ok b hk⟩)
    · exact Or.inr (Or.inr ⟨a, Or.inl ⟨b, c⟩⟩)
    · exact Or.inr (Or.inr ⟨a, Or.inr ⟨b, c⟩⟩)
theorem VD.at_ : ∀ {o : List Ste} {d d2 k : Nat} {x : Ste}, VD key o d d2 → o[k]? = some x → (x.1 = 0 ∧ ∃ j, j < 10000 ∧ x.2 = nI j) ∨ (x.1 = 1 ∧ nmB key x.2 = true) ∨ (x.1 = 2 ∧ (x.2 = 33 ∨ sgOK x.2))
  | [], _, _, _, _, _, h => by simp at h
  | y :: l, d, d2, 0, x, h, hx => by
    obtain rfl : y = x := by simpa using hx
    rcases h with ⟨a, b, c⟩ | ⟨a, b, c⟩ | ⟨a, b, c, e⟩ | ⟨a, b, c, e⟩
    · exact Or.inl ⟨a, b⟩
    · exact Or.inr (Or.inl ⟨a, b⟩)
    · exact Or.inr (Or.inr ⟨a, Or.inl b⟩)
    · exact Or.inr (Or.inr ⟨a, Or.inr b⟩)
  | y :: l, d, d2, k + 1, x, h, hx => by
    have hx : l[k]? = some x := by simpa using hx
    rcases h with ⟨a, b, c⟩ | ⟨a, b, c⟩ | ⟨a, b, c, e⟩ | ⟨a, b, c, e⟩
    · exact VD.at_ c hx
    · exact VD.at_ c hx
    · exact VD.at_ e hx
    · exact VD.at_ e hx
theorem cd_ok {kt : Nat} (hkt : kt < 3) {x : Ste} (h : (x.1 = 0 ∧ ∃ j, j < 10000 ∧ x.2 = nI j) ∨ (x.1 = 1 ∧ nmB (nI kt) x.2 = true) ∨ (x.1 = 2 ∧ (x.2 = 33 ∨ sgOK x.2))) : cdR kt x.1 x.2 (cdO (nI kt) x) := by
  unfold cdR cdO
  rcases h with ⟨a, b⟩ | ⟨a, b⟩ | ⟨a, b⟩
  · exact Or.inl ⟨a, by rw [if_pos a], b⟩
  · refine Or.inr (Or.inl ⟨a, ?_⟩)
    rw [a, if_neg (by decide), if_pos rfl]
    unfold nmB at b
    match kt, hkt with
    | 0, _ =>
      rw [if_pos (by decide)] at b
      simp only [Bool.or_eq_true, decide_eq_true_eq] at b
      rcases b with z | z
      · exact ⟨0, by decide, by rw [z]; rfl, by rw [z]; rfl⟩
      · exact ⟨1, by decide, by rw [z]; rfl, by rw [z]; rfl⟩
    | 1, _ =>
      rw [if_neg (by decide), if_pos (by decide)] at b
      simp only [Bool.or_eq_true, decide_eq_true_eq] at b
      rcases b with (z | z) | z
      · exact ⟨0, by decide, by rw [z]; rfl, by rw [z]; rfl⟩
      · exact ⟨1, by decide, by rw [z]; rfl, by rw [z]; rfl⟩
      · exact ⟨2, by decide, by rw [z]; rfl, by rw [z]; rfl⟩
    | 2, _ =>
      rw [if_neg (by decide), if_neg (by decide)] at b
      simp only [Bool.or_eq_true, decide_eq_true_eq] at b
      rcases b with z | z
      · exact ⟨0, by decide, by rw [z]; rfl, by rw [z]; rfl⟩
      · exact ⟨1, by decide, by rw [z]; rfl, by rw [z]; rfl⟩
  · exact Or.inr (Or.inr ⟨a, by rw [a, if_neg (by decide), if_neg (by decide)], b⟩)
theorem Inv.aT {n m p : Nat} (hI : Inv s n m p q) (hq : q < 14) (hv : VD key o 0 1) (hl : o.length ≤ 96) (hk : key = 0 ∨ key = 1 ∨ key = 2) : Inv (addT s q key o sd) n m p (q + 1) := by
  obtain ⟨⟨a1, a1'⟩, ⟨a2, a2'⟩, ⟨a3, a3'⟩, ⟨a4, a4'⟩, a5, a6, a7, a8, a9⟩ := hI
  have lo : ∀ k, k < 80 → k ≠ 3 → addT s q key o sd k = s k := fun k h h3 => aT_lo (by omega) h3
  refine ⟨⟨by rw [lo 0 (by decide) (by decide)]; exact a1, a1'⟩, ⟨by rw [lo 1 (by decide) (by decide)]; exact a2, a2'⟩, ⟨by rw [lo 2 (by decide) (by decide)]; exact a3, a3'⟩, ⟨aT_3, by omega⟩, fun l hl => ?_, fun i hi => ?_, fun t ht => ?_, fun i hi => ?_, by rw [lo 5 (by decide) (by decide)]; exact a9⟩
  · have := a5 l hl
    unfold InvL kN fN tN knd lng fot tpp mvd at this ⊢
    rw [lo _ (by omega) (by omega), lo _ (by omega) (by omega), lo _ (by omega) (by omega), lo _ (by omega) (by omega), lo _ (by omega) (by omega)]
    exact this
  · have := a6 i hi
    unfold sN spt stg at this ⊢
    rw [lo _ (by omega) (by omega), lo _ (by omega) (by omega)]
    exact this
  · rcases Nat.lt_or_ge t q with z | z
    · have := a7 t z
      refine ⟨this.1.rg (fun k h1 h2 => aT_lo (by omega) (by omega)), ?_⟩
      rw [aT_lo (by omega) (by omega)]
      exact this.2
    · obtain rfl : t = q := by omega
      refine ⟨aT_wf hv hl hk, ?_⟩
      rw [aT_key]
      rcases hk with rfl | rfl | rfl <;> decide
  · have := a8 i hi
    unfold hgt plc at this ⊢
    rw [lo _ (by omega) (by omega), lo _ (by omega) (by omega)]
    exact this
end
