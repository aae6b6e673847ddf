section
variable {sh : List Sh} {mi mi2 : MI} {mr : MR} {M M2 : MI} {Mr : MR}
theorem wm1 {w : Int32} (h : inB w (-1) 1 = true) (h2 : w < 0) : w = -1 := by
  have h := of_decide_eq_true h
  have h2 := Int32.lt_iff_toInt_lt.mp h2
  have e0 : (0 : Int32).toInt = 0 := by decide
  have e1 : (-1 : Int32).toInt = -1 := by decide
  rw [e0] at h2
  exact Int32.toInt_inj.mp (by rw [e1]; omega)
theorem w01 {w : Int32} (h : inB w (-1) 1 = true) (h2 : ¬ w < 0) : w = 0 ∨ w = 1 := by
  have h := of_decide_eq_true h
  have h2 := Int32.le_iff_toInt_le.mp (Int32.not_lt.mp h2)
  have e0 : (0 : Int32).toInt = 0 := by decide
  have e1 : (1 : Int32).toInt = 1 := by decide
  rw [e0] at h2
  rcases (show w.toInt = 0 ∨ w.toInt = 1 by omega) with z | z
  · exact Or.inl (Int32.toInt_inj.mp (by rw [e0]; exact z))
  · exact Or.inr (Int32.toInt_inj.mp (by rw [e1]; exact z))
theorem REL.shG (h : REL sh mi mr M Mr) {k z : Nat} {w : Int32} (hk : k < 4) (hz : z ≤ 24) (hw : w = -1 ∨ w = 0 ∨ w = 1) : REL sh (flI (upI (upI mi (53 + 2 * k) 0 w) (53 + 2 * k) 1 (nI z)) (54 + 2 * k) 24 0) mr (zr24 (upI (upI M 4 k w) 5 k (nI z)) k 24) Mr := by
  have hG := h.2.2.2.2.2.1
  refine h.sheet (fun x hx => by rw [flI_ne (by omega), upI_ne (by omega), upI_ne (by omega)]) (fun a h4 h5 h6 _ => by rw [zr24_o h6, upI_ne h5, upI_ne h4]) (hG.at_ k (fun k2 hk2 hne => ⟨by rw [flI_ne (by omega), upI_ne (by omega), upI_ne (by omega)], by rw [flI_ne (by omega), upI_ne (by omega), upI_ne (by omega)], by rw [zr24_o (by decide), upI_ne (by decide), up_ne hne], by rw [zr24_o (by decide), up_ne hne, upI_ne (by decide)], fun j hj => by rw [zr24_a, if_neg (by omega), upI_ne (by decide), upI_ne (by decide)]⟩) ⟨⟨?_, ?_, fun j hj => ?_⟩, ?_, ⟨z, hz, ?_⟩, fun j hj => ?_⟩)
  · rw [flI_ne (by omega), up_ne (by decide), up_eq, zr24_o (by decide), upI_ne (by decide), up_eq]
  · rw [flI_ne (by omega), up_eq, zr24_o (by decide), up_eq]
  · rw [flI_at hj, zr24_a, if_pos (by omega)]
  · rw [zr24_o (by decide), upI_ne (by decide), up_eq]; exact hw
  · rw [zr24_o (by decide), up_eq]
  · rw [zr24_a, if_pos (by omega)]; exact Or.inr (by decide)
theorem REL.mkG (h : REL sh mi mr M Mr) {k j : Nat} {v : Int32} (hk : k < 4) (hj : j < 24) (hv : v = NONEc ∨ inB v (-99999) 99999 = true) : REL sh (upI mi (54 + 2 * k) j v) mr (upI M 6 (24 * k + j) v) Mr := by
  have hG := h.2.2.2.2.2.1
  obtain ⟨⟨g1, g2, g3⟩, g4, g5, g6⟩ := hG k hk
  refine h.sheet (fun x hx => upI_ne (by omega)) (fun a h4 h5 h6 _ => upI_ne h6) (hG.at_ k (fun k2 hk2 hne => ⟨upI_ne (by omega), upI_ne (by omega), by rw [upI_ne (by decide)], by rw [upI_ne (by decide)], fun i hi => up_ne (by omega)⟩) ⟨⟨by rw [upI_ne (by omega), upI_ne (by decide)]; exact g1, by rw [upI_ne (by omega), upI_ne (by decide)]; exact g2, fun i hi => ?_⟩, by rw [upI_ne (by decide)]; exact g4, by rw [upI_ne (by decide)]; exact g5, fun i hi => ?_⟩)
  · by_cases e : i = j
    · subst e; rw [up_eq, up_eq]
    · rw [up_ne e, up_ne (by omega)]; exact g3 i hi
  · by_cases e : i = j
    · subst e; rw [up_eq]; exact hv
    · rw [up_ne (by omega)]; exact g6 i hi
theorem REL.cpG (h : REL sh mi mr M Mr) {f t a b c : Nat} (hf : f < 4) (ht : t < 4) (ha : a + c ≤ 24) (hb : b + c ≤ 24) : REL sh (cpI mi (54 + 2 * f) (54 + 2 * t) a b c) mr (cw6 (cr16 M f a c) t b c) Mr := by
  have hG := h.2.2.2.2.2.1
  obtain ⟨⟨g1, g2, g3⟩, g4, g5, g6⟩ := hG t ht
  obtain ⟨⟨f1, f2, f3⟩, f4, f5, f6⟩ := hG f hf
  have ex : ∀ x, x ≠ 6 → x ≠ 16 → cw6 (cr16 M f a c) t b c x = M x := fun x h6 h16 => by rw [cw6_x h6, cr16_o h16]
  have e6 : ∀ i, cw6 (cr16 M f a c) t b c 6 i = if 24 * t + b ≤ i ∧ i < 24 * t + b + c then M 6 (24 * f + a + (i - (24 * t + b))) else M 6 i := fun i => by
    rw [cw6_a]
    by_cases e : 24 * t + b ≤ i ∧ i < 24 * t + b + c
    · rw [if_pos e, if_pos e, cr16_a, if_pos (by omega)]
    · rw [if_neg e, if_neg e, cr16_6]
  refine h.sheet (fun x hx => cpI_ne (by omega)) (fun x h4 h5 h6 h16 => ex x h6 h16) (hG.at_ t (fun k2 hk2 hne => ⟨cpI_ne (by omega), cpI_ne (by omega), by rw [ex 4 (by decide) (by decide)], by rw [ex 5 (by decide) (by decide)], fun i hi => by rw [e6, if_neg (by omega)]⟩) ⟨⟨by rw [cpI_ne (by omega), ex 4 (by decide) (by decide)]; exact g1, by rw [cpI_ne (by omega), ex 5 (by decide) (by decide)]; exact g2, fun i hi => ?_⟩, by rw [ex 4 (by decide) (by decide)]; exact g4, by rw [ex 5 (by decide) (by decide)]; exact g5, fun i hi => ?_⟩)
  · rw [cpI_self, e6]
    by_cases e : b ≤ i ∧ i < b + c
    · rw [va_cpy_in e, if_pos (by omega), f3 _ (by omega), show 24 * f + (a + (i - b)) = 24 * f + a + (24 * t + i - (24 * t + b)) by omega]
    · rw [va_cpy_out e, if_neg (by omega)]; exact g3 i hi
  · rw [e6]
    by_cases e : b ≤ i ∧ i < b + c
    · rw [if_pos (by omega), show 24 * f + a + (24 * t + i - (24 * t + b)) = 24 * f + (a + (i - b)) by omega]
      exact f6 _ (by omega)
    · rw [if_neg (by omega)]; exact g6 i hi
theorem nlt {x : Int32} (h : x = -1 ∨ x = 0 ∨ x = 1) (hs : ¬ x = -1) : ¬ x < 0 := by
  rcases h with e | e | e
  · exact absurd e hs
  · rw [e]; decide
  · rw [e]; decide
/-- the slots changed, at one -/
theorem REL.slot (h : REL sh mi mr M Mr) {u : Nat} (hc : ∀ x, x < 61 ∨ 74 < x → mi2 x = mi x) (hm : ∀ a, a < 7 ∨ 11 < a → M2 a = M a) (ho : ∀ u2, u2 < 5 → u2 ≠ u → (mi2 61 u2 = mi 61 u2 ∧ mi2 62 u2 = mi 62 u2 ∧ mi2 63 u2 = mi 63 u2 ∧ mi2 (65 + 2 * u2) = mi (65 + 2 * u2) ∧ mi2 (66 + 2 * u2) = mi (66 + 2 * u2)) ∧ M2 7 u2 = M 7 u2 ∧ M2 8 u2 = M 8 u2 ∧ M2 9 u2 = M 9 u2 ∧ M2 10 u2 = M 10 u2 ∧ ∀ j, j < 24 → M2 11 (24 * u2 + j) = M 11 (24 * u2 + j)) (hu : mi2 61 u = M2 7 u ∧ (M2 7 u = 1 → mi2 62 u = M2 8 u ∧ M2 9 u = wthK (mi2 62 u) (mi2 63 u) ∧ ∃ kk, kk < 6 ∧ mi2 62 u = nI kk) ∧ (M2 7 u = 2 → mi2 (65 + 2 * u) 1 = M2 10 u ∧ (∃ z, z ≤ 24 ∧ M2 10 u = nI z) ∧ ∀ j, j < 24 → mi2 (66 + 2 * u) j = M2 11 (24 * u + j)) ∧ (M2 7 u = 3 → mi2 63 u = M2 8 u)) : REL sh mi2 mr M2 Mr := by
  obtain ⟨-, -, -, -, hP, hG, hU, hW⟩ := id h
  refine h.re (fun x a b => hc x (by omega)) (fun x a => hc x (by omega)) (hm 1 (by omega)) (hm 2 (by omega)) (by rw [hc 0 (by omega)]) (by rw [hm 0 (by omega)]) (hP.cg (hc 48 (by omega)) (hc 49 (by omega)) (hm 13 (by omega)) (by rw [hm 0 (by omega)])) (hG.fc (fun x a b => hc x (by omega)) (fun a x y => hm a (by omega))) (fun u2 hu2 => ?_) (hW.cg (by rw [hc 0 (by omega)]) (hc 75 (by omega)) (hm 17 (by omega)) (by rw [hm 0 (by omega)]))
  by_cases e : u2 = u
  · subst e; exact hu
  · obtain ⟨⟨c1, c2, c3, c4, c5⟩, m1, m2, m3, m4, m5⟩ := ho u2 hu2 e
    obtain ⟨a1, a2, a3, a4⟩ := hU u2 hu2
    rw [c1, c2, c3, c4, c5, m1, m2, m3, m4]
    exact ⟨a1, a2, fun z => ⟨(a3 z).1, (a3 z).2.1, fun j hj => by rw [m5 j hj]; exact (a3 z).2.2 j hj⟩, a4⟩
theorem ldRow_a {u k x : Nat} : ∀ i, ldRow M u k i 11 x = if 24 * u ≤ x ∧ x < 24 * u + i then M 6 (24 * k + (x - 24 * u)) else M 11 x
  | 0 => by rw [if_neg (by omega)]; rfl
  | i + 1 => by
    show upI (ldRow M u k i) 11 (24 * u + i) (M 6 (24 * k + i)) 11 x = _
    by_cases e : x = 24 * u + i
    · subst e; rw [up_eq, if_pos (by omega), show 24 * u + i - 24 * u = i by omega]
    · rw [up_ne e, ldRow_a i]
      by_cases h : 24 * u ≤ x ∧ x < 24 * u + i
      · rw [if_pos h, if_pos (by omega)]
      · rw [if_neg h, if_neg (by omega)]
end

theorem sim_sheet {sh : List Sh} {mi : MI} {mr : MR} {M : MI} {Mr : MR} (h : REL sh mi mr M Mr) (x w v : Int32) : SimAt sh mi mr M Mr mX11_sheet mX12_sheet [.int x, .int w, .int v] := by
  obtain ⟨⟨hF, hB, hM⟩, ⟨hT8, hT20⟩, ⟨n, m, p, q, hR, hI⟩, hRI, hP, hG, hU, hW⟩ := id h
  have hn10 := hI.n10
  have hm8 := hI.m8
  have hp6 := hI.p6
  have hq14 := hI.q14
  by_cases hb : inB x 0 3 = true ∧ inB w (-1) 1 = true ∧ (w < 0 ∨ v ≤ 24)
  · obtain ⟨h1, h2, h3⟩ := hb
    obtain ⟨k, hk, rfl⟩ := inB_of (hi := 3) h1
    have hk4 : k < 4 := by omega
    by_cases hw : w < 0
    · obtain rfl := wm1 h2 hw
      exact sim_x (k_sheet_miss (d := 1198) hF hB hk4) (c_sheet_miss (d := 1198) hM hk4) (fun mi2 M2 g h2 => by subst g h2; exact h.shG (z := 0) hk4 (by decide) (Or.inl rfl))
    · by_cases hv : v < 0
      · exact sim_i h (k_sheet_size (d := 1199) hF hB h1 h2 hw hv) (c_sheet_size (d := 1198) hM h1 h2 hw hv)
      · have hv2 : inB v 0 ((24 : Nat) : Int) = true := by
          have a1 := Int32.le_iff_toInt_le.mp (Int32.not_lt.mp hv)
          have a2 := Int32.le_iff_toInt_le.mp (h3.resolve_left hw)
          have e0 : (0 : Int32).toInt = 0 := by decide
          have e2 : (24 : Int32).toInt = 24 := by decide
          rw [e0] at a1
          rw [e2] at a2
          exact decide_eq_true ⟨a1, a2⟩
        obtain ⟨z, hz, rfl⟩ := inB_of hv2
        exact sim_x (k_sheet (d := 1198) hF hB hk4 hz h2 hw) (c_sheet (d := 1198) hM hk4 hz h2 hw) (fun mi2 M2 g h2' => by subst g h2'; exact h.shG hk4 hz (Or.inr (w01 h2 hw)))
  · exact sim_i h (k_sheet_bad (d := 1199) hF hB hb) (c_sheet_bad (d := 1198) hM hb)

theorem sim_mark {sh : List Sh} {mi : MI} {mr : MR} {M : MI} {Mr : MR} (h : REL sh mi mr M Mr) (x y v : Int32) : SimAt sh mi mr M Mr mX11_mark mX12_mark [.int x, .int y, .int v] := by
  obtain ⟨⟨hF, hB, hM⟩, ⟨hT8, hT20⟩, ⟨n, m, p, q, hR, hI⟩, hRI, hP, hG, hU, hW⟩ := id h
  have hn10 := hI.n10
  have hm8 := hI.m8
  have hp6 := hI.p6
  have hq14 := hI.q14
  by_cases hb : inB x 0 3 = true
  · obtain ⟨k, hk, rfl⟩ := inB_of (hi := 3) hb
    have hk4 : k < 4 := by omega
    obtain ⟨⟨g1, g2, g3⟩, g4, ⟨z, hz, g5⟩, g6⟩ := hG k hk4
    have z1 : mi (53 + 2 * k) 1 = nI z := g2.trans g5
    by_cases hs : M 4 k = -1
    · exact sim_i h (k_mark_none (d := 1199) hF hB hk4 (g1.trans hs)) (c_mark_none (d := 1198) hM hk4 (by rw [hs]; decide))
    · have hs2 : ¬ mi (53 + 2 * k) 0 = -1 := by rw [g1]; exact hs
      by_cases hx : inR y z = true
      · rcases g4 with e | e | e
        · exact absurd e hs
        · by_cases hv : v = -1000000005
          · subst hv
            exact sim_i h (k_mark_kind (d := 1199) hF hB hk4 z1 hz (g1.trans e) hx) (c_mark_kind (d := 1198) hM hk4 g5 hz e hx)
          · obtain ⟨j, hj, rfl⟩ := inR_of hx
            exact sim_x (k_mark0 (d := 1199) hF hB hk4 z1 hz hj (g1.trans e) hv) (c_mark0 (d := 1198) hM hk4 g5 hz hj e hv) (fun mi2 M2 g h2 => by subst g h2; exact h.mkG hk4 (by omega) (Or.inr (s16_ok v)))
        · by_cases hv : v = -1000000005
          · subst hv
            obtain ⟨j, hj, rfl⟩ := inR_of hx
            exact sim_x (k_mark1n (d := 1199) hF hB hk4 z1 hz hj (g1.trans e)) (c_mark1n (d := 1198) hM hk4 g5 hz hj e) (fun mi2 M2 g h2 => by subst g h2; exact h.mkG hk4 (by omega) (Or.inl rfl))
          · by_cases hv2 : inB v (-99999) 99999 = true
            · obtain ⟨j, hj, rfl⟩ := inR_of hx
              exact sim_x (k_mark1 (d := 1199) hF hB hk4 z1 hz hj (g1.trans e) hv hv2) (c_mark1 (d := 1198) hM hk4 g5 hz hj e hv hv2) (fun mi2 M2 g h2 => by subst g h2; exact h.mkG hk4 (by omega) (Or.inr hv2))
            · have hv2 : inB v (-99999) 99999 = false := by simpa using hv2
              exact sim_i h (k_mark_v (d := 1199) hF hB hk4 z1 hz (g1.trans e) hx hv hv2) (c_mark_v (d := 1198) hM hk4 g5 hz e hx hv hv2)
      · have hx : inR y z = false := by simpa using hx
        exact sim_i h (k_mark_ix (d := 1199) hF hB hk4 z1 hz hs2 hx) (c_mark_ix (d := 1198) hM hk4 g5 hz (nlt g4 hs) hx)
  · exact sim_i h (k_mark_bad (d := 1199) hF hB hb) (c_mark_bad (d := 1198) hM hb)

theorem sim_copy {sh : List Sh} {mi : MI} {mr : MR} {M : MI} {Mr : MR} (h : REL sh mi mr M Mr) (x a y b c : Int32) : SimAt sh mi mr M Mr mX11_copy mX12_copy [.int x, .int a, .int y, .int b, .int c] := by
  obtain ⟨⟨hF, hB, hM⟩, ⟨hT8, hT20⟩, ⟨n, m, p, q, hR, hI⟩, hRI, hP, hG, hU, hW⟩ := id h
  have hn10 := hI.n10
  have hm8 := hI.m8
  have hp6 := hI.p6
  have hq14 := hI.q14
  by_cases hb : inB x 0 3 = true ∧ inB y 0 3 = true
  · obtain ⟨f, hf, rfl⟩ := inB_of (hi := 3) hb.1
    obtain ⟨t, ht, rfl⟩ := inB_of (hi := 3) hb.2
    have hf4 : f < 4 := by omega
    have ht4 : t < 4 := by omega
    obtain ⟨⟨g1, g2, g3⟩, g4, ⟨zf, hzf, g5⟩, g6⟩ := hG f hf4
    obtain ⟨⟨k1, k2, k3⟩, k4, ⟨zt, hzt, k5⟩, k6⟩ := hG t ht4
    by_cases hs : M 4 f = -1 ∨ M 4 t = -1
    · exact sim_i h (k_copy_none (d := 1199) hF hB hf4 ht4 (hs.imp g1.trans k1.trans)) (c_copy_none (d := 1198) hM hf4 ht4 (hs.imp (fun e => by rw [e]; decide) (fun e => by rw [e]; decide)))
    · have s1 : ¬ M 4 f = -1 := fun e => hs (Or.inl e)
      have s2 : ¬ M 4 t = -1 := fun e => hs (Or.inr e)
      have t1 : ¬ mi (53 + 2 * f) 0 = -1 := by rw [g1]; exact s1
      have t2 : ¬ mi (53 + 2 * t) 0 = -1 := by rw [k1]; exact s2
      by_cases he : M 4 f = M 4 t
      · have he2 : mi (53 + 2 * f) 0 = mi (53 + 2 * t) 0 := by rw [g1, k1]; exact he
        by_cases hi : ixOK a c zf = true ∧ ixOK b c zt = true
        · obtain ⟨a1, c1, rfl, rfl, h1⟩ := ixOK_of hi.1
          obtain ⟨b1, c2, rfl, e2, h2⟩ := ixOK_of hi.2
          have h2' : b1 + c1 ≤ zt := by
            have hi2 := hi.2
            simp only [ixOK, decide_eq_true_eq] at hi2
            rw [e2, nI_toInt (by omega), nI_toInt (by omega)] at hi2
            have : c1 = c2 := (nI_eq (by omega) (by omega)).mp e2
            omega
          exact sim_x (k_copy (d := 1199) hF hB hf4 ht4 t1 t2 he2 (g2.trans g5) (k2.trans k5) hzf hzt h1 h2') (c_copy (d := 1198) hM hf4 ht4 (nlt g4 s1) (nlt k4 s2) he g5 k5 hzf hzt h1 h2') (fun mi2 M2 g h3 => by subst g h3; exact h.cpG hf4 ht4 (by omega) (by omega))
        · exact sim_i h (k_copy_ix (d := 1199) hF hB hf4 ht4 t1 t2 he2 (g2.trans g5) (k2.trans k5) hzf hzt hi) (c_copy_ix (d := 1198) hM hf4 ht4 (nlt g4 s1) (nlt k4 s2) he g5 k5 hzf hzt hi)
      · exact sim_i h (k_copy_kind (d := 1199) hF hB hf4 ht4 t1 t2 (by rw [g1, k1]; exact he)) (c_copy_kind (d := 1198) hM hf4 ht4 (nlt g4 s1) (nlt k4 s2) he)
  · exact sim_i h (k_copy_bad (d := 1199) hF hB hb) (c_copy_bad (d := 1198) hM hb)

