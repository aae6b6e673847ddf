section
variable {sh : List Sh} {mi mi2 : MI} {mr : MR} {M M2 : MI} {Mr : MR}
theorem tkI_r {tp : Nat} {v : Int32} (i : Nat) : tkI mi tp v (i + 1) 49 = upd (tkI mi tp v i 49) (tp + i) (v >>> ((24 - 8 * nI i) &&& 31) &&& 255) := by
  show upI (upI (tkI mi tp v i) 49 (tp + i) _) 48 1 _ 49 = _
  rw [upI_ne (by decide), upI_self]
theorem tkI_o {tp : Nat} {v : Int32} {x : Nat} (h1 : x ≠ 48) (h2 : x ≠ 49) : ∀ i, tkI mi tp v i x = mi x
  | 0 => rfl
  | i + 1 => by
    show upI (upI (tkI mi tp v i) 49 (tp + i) _) 48 1 _ x = _
    rw [upI_ne h1, upI_ne h2]; exact tkI_o h1 h2 i
theorem fdM_r {tp : Nat} {a b c : Int32} (i : Nat) : fdM M tp a b c (i + 1) 13 = upd (fdM M tp a b c i 13) (tp + i) (fdB a b c i) := by
  show upI (upI (fdM M tp a b c i) 13 (tp + i) _) 0 17 _ 13 = _
  rw [upI_ne (by decide), upI_self]
theorem fdM_o2 {tp : Nat} {a b c : Int32} {x : Nat} (h1 : x ≠ 0) (h2 : x ≠ 13) : ∀ i, fdM M tp a b c i x = M x
  | 0 => rfl
  | i + 1 => by
    show upI (upI (fdM M tp a b c i) 13 (tp + i) _) 0 17 _ x = _
    rw [upI_ne h1, upI_ne h2]; exact fdM_o2 h1 h2 i
theorem fdM_f {tp : Nat} {a b c : Int32} {j : Nat} (h : j ≠ 17) : ∀ i, fdM M tp a b c i 0 j = M 0 j
  | 0 => rfl
  | i + 1 => by
    show upI (upI (fdM M tp a b c i) 13 (tp + i) _) 0 17 _ 0 j = _
    rw [up_ne h, upI_ne (by decide)]; exact fdM_f h i
theorem fd_row {tp : Nat} {a b c : Int32} (h : mi 49 = M 13) : tkI (tkI (tkI mi tp a 4) (tp + 4) b 4) (tp + 8) c 4 49 = fdM M tp a b c 12 13 := by
  rw [tkI_r 3, tkI_r 2, tkI_r 1, tkI_r 0, fdM_r 11, fdM_r 10, fdM_r 9, fdM_r 8, fdM_r 7, fdM_r 6, fdM_r 5, fdM_r 4, fdM_r 3, fdM_r 2, fdM_r 1, fdM_r 0]
  show upd (upd (upd (upd (tkI (tkI mi tp a 4) (tp + 4) b 4 49) _ _) _ _) _ _) _ _ = _
  rw [tkI_r 3, tkI_r 2, tkI_r 1, tkI_r 0]
  show upd (upd (upd (upd (upd (upd (upd (upd (tkI mi tp a 4 49) _ _) _ _) _ _) _ _) _ _) _ _) _ _) _ _ = _
  rw [tkI_r 3, tkI_r 2, tkI_r 1, tkI_r 0, show tkI mi tp a 0 49 = mi 49 from rfl, show fdM M tp a b c 0 13 = M 13 from rfl, h]
  rfl
theorem RelG.at_ (h : RelG mi M) (k : Nat) (hc : ∀ k2, k2 < 4 → k2 ≠ k → mi2 (53 + 2 * k2) = mi (53 + 2 * k2) ∧ mi2 (54 + 2 * k2) = mi (54 + 2 * k2) ∧ M2 4 k2 = M 4 k2 ∧ M2 5 k2 = M 5 k2 ∧ ∀ j, j < 24 → M2 6 (24 * k2 + j) = M 6 (24 * k2 + j)) (hk : (mi2 (53 + 2 * k) 0 = M2 4 k ∧ mi2 (53 + 2 * k) 1 = M2 5 k ∧ ∀ j, j < 24 → mi2 (54 + 2 * k) j = M2 6 (24 * k + j)) ∧ (M2 4 k = -1 ∨ M2 4 k = 0 ∨ M2 4 k = 1) ∧ (∃ z, z ≤ 24 ∧ M2 5 k = nI z) ∧ ∀ j, j < 24 → M2 6 (24 * k + j) = NONEc ∨ inB (M2 6 (24 * k + j)) (-99999) 99999 = true) : RelG mi2 M2 := by
  intro k2 hk2
  by_cases e : k2 = k
  · subst e; exact hk
  · obtain ⟨c1, c2, c3, c4, c5⟩ := hc k2 hk2 e
    obtain ⟨⟨a1, a2, a3⟩, b1, b2, b3⟩ := h k2 hk2
    rw [c1, c2, c3, c4]
    exact ⟨⟨a1, a2, fun j hj => by rw [c5 j hj]; exact a3 j hj⟩, b1, b2, fun j hj => by rw [c5 j hj]; exact b3 j hj⟩
theorem zr24_a {k x : Nat} : ∀ i, zr24 M k i 6 x = if 24 * k ≤ x ∧ x < 24 * k + i then 0 else M 6 x
  | 0 => by rw [if_neg (by omega)]; rfl
  | i + 1 => by
    show upI (zr24 M k i) 6 (24 * k + i) 0 6 x = _
    by_cases e : x = 24 * k + i
    · subst e; rw [up_eq, if_pos (by omega)]
    · rw [up_ne e, zr24_a i]
      by_cases h : 24 * k ≤ x ∧ x < 24 * k + i
      · rw [if_pos h, if_pos (by omega)]
      · rw [if_neg h, if_neg (by omega)]
theorem cr16_6 {f a : Nat} (i : Nat) : cr16 M f a i 6 = M 6 := cr16_o (by decide) i
theorem cr16_a {f a x : Nat} : ∀ i, cr16 M f a i 16 x = if x < i then M 6 (24 * f + a + x) else M 16 x
  | 0 => by rw [if_neg (by omega)]; rfl
  | i + 1 => by
    show upI (cr16 M f a i) 16 i _ 16 x = _
    by_cases e : x = i
    · subst e; rw [up_eq, if_pos (by omega)]
    · rw [up_ne e, cr16_a i]
      by_cases h : x < i
      · rw [if_pos h, if_pos (by omega)]
      · rw [if_neg h, if_neg (by omega)]
theorem cw6_a {t b x : Nat} : ∀ i, cw6 M t b i 6 x = if 24 * t + b ≤ x ∧ x < 24 * t + b + i then M 16 (x - (24 * t + b)) else M 6 x
  | 0 => by rw [if_neg (by omega)]; rfl
  | i + 1 => by
    show upI (cw6 M t b i) 6 (24 * t + b + i) (M 16 i) 6 x = _
    by_cases e : x = 24 * t + b + i
    · subst e; rw [up_eq, if_pos (by omega), show 24 * t + b + i - (24 * t + b) = i by omega]
    · rw [up_ne e, cw6_a i]
      by_cases h : 24 * t + b ≤ x ∧ x < 24 * t + b + i
      · rw [if_pos h, if_pos (by omega)]
      · rw [if_neg h, if_neg (by omega)]
theorem cw6_x {t b x : Nat} (h : x ≠ 6) : ∀ i, cw6 M t b i x = M x
  | 0 => rfl
  | i + 1 => (upI_ne h).trans (cw6_x h i)
/-- the sheets changed, at one -/
theorem REL.sheet (h : REL sh mi mr M Mr) (hc : ∀ x, x < 53 ∨ 60 < x → mi2 x = mi x) (hm : ∀ a, a ≠ 4 → a ≠ 5 → a ≠ 6 → a ≠ 16 → M2 a = M a) (G : RelG mi2 M2) : REL sh mi2 mr M2 Mr := by
  obtain ⟨-, -, -, -, hP, -, hU, hW⟩ := id h
  have m : ∀ a, a < 4 ∨ 6 < a ∧ a < 16 ∨ a = 17 → M2 a = M a := fun a ha => hm a (by omega) (by omega) (by omega) (by omega)
  exact h.re (fun x a b => hc x (by omega)) (fun x a => hc x (by omega)) (m 1 (by omega)) (m 2 (by omega)) (by rw [hc 0 (by omega)]) (by rw [m 0 (by omega)]) (hP.cg (hc 48 (by omega)) (hc 49 (by omega)) (m 13 (by omega)) (by rw [m 0 (by omega)])) G (hU.cg (fun x a b => hc x (by omega)) (fun a x y => m a (by omega))) (hW.cg (by rw [hc 0 (by omega)]) (hc 75 (by omega)) (m 17 (by omega)) (by rw [m 0 (by omega)]))
theorem near_cg {s : Rw} {q n m z : Nat} {pl pl2 : Rw} (h : ∀ j, j < z → pl2 j = pl j) (w : Int32) : nearS s q n m pl2 z w = nearS s q n m pl z w := by
  have e1 : ∀ i j, j ≤ z → nrSum s q n m pl2 i j = nrSum s q n m pl i j := by
    intro i j
    induction j with
    | zero => intro _; rfl
    | succ j ih =>
      intro hj
      show nrSum s q n m pl2 i j + (if pl2 j = NONEc then 0 else apartS (pl2 j) (nrD s q n m i j)) = _
      rw [ih (by omega), h j (by omega)]
      rfl
  have e2 : ∀ i, nrR s q n m pl2 z i = nrR s q n m pl z i := by
    intro i
    induction i with
    | zero => rfl
    | succ i ih =>
      show (if (nrR s q n m pl2 z i).1 < 0 ∨ nrSum s q n m pl2 i z < (nrR s q n m pl2 z i).2 then (nI i, nrSum s q n m pl2 i z) else nrR s q n m pl2 z i) = _
      rw [ih, e1 i z (Nat.le_refl _)]
      rfl
  unfold nearS
  rw [e2]
theorem s16_ok (v : Int32) : inB (v <<< ((16 : Int32) &&& 31) >>> ((16 : Int32) &&& 31)) (-99999) 99999 = true := by
  rw [← i2s_sh]
  have h := v.toInt16.toInt_lt
  have h2 := v.toInt16.le_toInt
  unfold inB
  rw [Int16.toInt_toInt32]
  exact decide_eq_true (by omega)
end

theorem sim_feed {sh : List Sh} {mi : MI} {mr : MR} {M : MI} {Mr : MR} (h : REL sh mi mr M Mr) (a b c : Int32) : SimAt sh mi mr M Mr mX11_feed mX12_feed [.int a, .int b, .int c] := by
  obtain ⟨⟨hF, hB, hM⟩, ⟨hT8, hT20⟩, ⟨n, m, p, q, hR, hI⟩, hRI, hP, hG, hU, hW⟩ := id h
  have hn10 := hI.n10
  have hm8 := hI.m8
  have hp6 := hI.p6
  have hq14 := hI.q14
  obtain ⟨hp1, hp2, tp, htp, hp3⟩ := id hP
  have hp4 : mi 48 1 = nI tp := hp1.trans hp3
  by_cases hb : 84 < tp
  · exact sim_i h (k_feed_full (d := 1199) hF hB hp4 htp hb) (c_feed_full (d := 1198) hM hp3 htp hb)
  · refine sim_x (k_feed (d := 1199) hF hB hp4 (by omega)) (c_feed (d := 1198) hM hp3 (by omega)) (fun mi2 M2 g h2 => by
      subst g h2
      have c0 : ∀ x, x ≠ 48 → x ≠ 49 → tkI (tkI (tkI mi tp a 4) (tp + 4) b 4) (tp + 8) c 4 x = mi x := fun x h1 h2 => by rw [tkI_o h1 h2, tkI_o h1 h2, tkI_o h1 h2]
      have e1 : tkI (tkI (tkI mi tp a 4) (tp + 4) b 4) (tp + 8) c 4 48 1 = nI (tp + 12) := tkI_1 (tkI_1 (tkI_1 hp4 4) 4) 4
      exact h.re (fun x a b => c0 x (by omega) (by omega)) (fun x a => c0 x (by omega) (by omega)) (fdM_o2 (by decide) (by decide) _) (fdM_o2 (by decide) (by decide) _) (by rw [c0 0 (by decide) (by decide)]) (fdM_f (by decide) _) ⟨by rw [e1, fdM_17 hp3], fd_row hp2, tp + 12, by omega, fdM_17 hp3 12⟩ (hG.fc (fun x a b => c0 x (by omega) (by omega)) (fun a x y => fdM_o2 (by omega) (by omega) _)) (hU.cg (fun x a b => c0 x (by omega) (by omega)) (fun a x y => fdM_o2 (by omega) (by omega) _)) (hW.cg (by rw [c0 0 (by decide) (by decide)]) (c0 75 (by decide) (by decide)) (fdM_o2 (by decide) (by decide) _) (fdM_f (by decide) _)))

theorem sim_pour {sh : List Sh} {mi : MI} {mr : MR} {M : MI} {Mr : MR} (h : REL sh mi mr M Mr) (x : Int32) : SimAt sh mi mr M Mr mX11_pour mX12_pour [.int x] := by
  obtain ⟨⟨hF, hB, hM⟩, ⟨hT8, hT20⟩, ⟨n, m, p, q, hR, hI⟩, hRI, hP, hG, hU, hW⟩ := id h
  have hn10 := hI.n10
  have hm8 := hI.m8
  have hp6 := hI.p6
  have hq14 := hI.q14
  by_cases hb : inB x 0 3 = true
  · obtain ⟨k, hk, rfl⟩ := inB_of (hi := 3) hb
    have hk4 : k < 4 := by omega
    obtain ⟨⟨g1, g2, g3⟩, g4, ⟨z, hz, g5⟩, g6⟩ := hG k hk4
    by_cases hs : M 4 k = -1
    · exact sim_i h (k_pour_none (d := 1199) hF hB hk4 (g1.trans hs)) (c_pour_none (d := 1198) hM hk4 (by rw [hs]; decide))
    · have hk := k_pour (d := 1199) hF hB hR hI hk4 (g2.trans g5) hz (by rw [g1]; exact hs)
      rw [pour_cg (pl := fun i => M 6 (24 * k + i)) (min z n) (fun i hi => g3 i (by omega))] at hk
      refine sim_x (G := fun mi2 => (∀ x, x ≠ 9 → mi2 x = mi x) ∧ RT sh mi2 mr 8 (pourR (M 1) (fun i => M 6 (24 * k + i)) (min z n)).1 n m p q) hk (c_pour (d := 1198) hM rfl hI.en hn10 hk4 g5 hz (by rcases g4 with e | e | e; (· exact absurd e hs); (· rw [e]; decide); (· rw [e]; decide))) (fun mi2 M2 g h2 => h.town (fun a ha => g.1 a (by omega)) h2.fm.1 (Or.inl rfl) (by rw [h2.fm.2]; exact g.2) (by rw [h2.fm.2]; exact pour_ok hI _ (Nat.min_le_right _ _)))
  · exact sim_i h (k_pour_bad (d := 1199) hF hB hb) (c_pour_bad (d := 1198) hM hb)

theorem sim_nearest {sh : List Sh} {mi : MI} {mr : MR} {M : MI} {Mr : MR} (h : REL sh mi mr M Mr) (x w : Int32) : SimAt sh mi mr M Mr mX11_nearest mX12_nearest [.int x, .int w] := by
  obtain ⟨⟨hF, hB, hM⟩, ⟨hT8, hT20⟩, ⟨n, m, p, q, hR, hI⟩, hRI, hP, hG, hU, hW⟩ := id h
  have hn10 := hI.n10
  have hm8 := hI.m8
  have hp6 := hI.p6
  have hq14 := hI.q14
  by_cases hb : inB x 0 3 = true ∧ inB w 0 1 = true
  · obtain ⟨k, hk, rfl⟩ := inB_of (hi := 3) hb.1
    have hk4 : k < 4 := by omega
    obtain ⟨⟨g1, g2, g3⟩, g4, ⟨z, hz, g5⟩, g6⟩ := hG k hk4
    by_cases hs : M 4 k = -1
    · exact sim_i h (k_nearest_none (d := 1199) hF hB hk4 hb.2 (g1.trans hs)) (c_nearest_none (d := 1198) hM hk4 hb.2 (by rw [hs]; decide))
    · have hc := c_nearest (d := 1194) hM rfl hI hk4 g5 hz hb.2 (by rcases g4 with e | e | e; (· exact absurd e hs); (· rw [e]; decide); (· rw [e]; decide))
      by_cases hn0 : n = 0
      · have e0 : nearS (M 1) q n m (fun j => M 6 (24 * k + j)) z w = NONEc := by subst hn0; rfl
        rw [e0] at hc
        have hk0 := (k_nearest_0 (d := 1199) hF hB hR hI hk4 (g2.trans g5) hz hb.2 (by rw [g1]; exact hs) hn0).imp (Q2 := PX sh mr (fun r mi2 => r = NONEc ∧ SP 19 mi mi2)) (fun v sh2 mi2 mr2 y => by obtain ⟨y1, rfl, rfl, rfl⟩ := y; exact ⟨_, y1, rfl, rfl, rfl, fun _ _ => rfl⟩)
        exact sim_s h hk0 hc (fun M2 z => z.fm)
      · have hk := k_nearest (d := 1193) hF hB hR hI hk4 (g2.trans g5) hz (fun j hj => by rw [g3 j (by omega)]; exact g6 j (by omega)) hb.2 (by rw [g1]; exact hs) (by omega)
        rw [near_cg (pl := fun j => M 6 (24 * k + j)) (fun j hj => g3 j (by omega))] at hk
        exact sim_w h hk hc (fun M2 z => z.fm)
  · exact sim_i h (k_nearest_bad (d := 1199) hF hB hb) (c_nearest_bad (d := 1198) hM hb)

