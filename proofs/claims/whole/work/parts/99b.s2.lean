theorem cp_T {d : Nat} {μ : Mt} {as : List Value} {sh : List Sh} {mi : MI} {mr : MR} {mc ms : Nat} {C : Prop} {ins : Decidable C} {A B : Int32 → MI → Prop} (hC : C) (h : CP d μ as sh mi mr mc ms (PX sh mr (fun r mi2 => @ite _ C ins (A r mi2) (B r mi2)))) : CP d μ as sh mi mr mc ms (PX sh mr A) := h.imp (fun v sh2 mi2 mr2 z => by obtain ⟨r, e1, e2, e3, e4⟩ := z; rw [if_pos hC] at e4; exact ⟨r, e1, e2, e3, e4⟩)
theorem cp_F {d : Nat} {μ : Mt} {as : List Value} {sh : List Sh} {mi : MI} {mr : MR} {mc ms : Nat} {C : Prop} {ins : Decidable C} {A B : Int32 → MI → Prop} (hC : ¬ C) (h : CP d μ as sh mi mr mc ms (PX sh mr (fun r mi2 => @ite _ C ins (A r mi2) (B r mi2)))) : CP d μ as sh mi mr mc ms (PX sh mr B) := h.imp (fun v sh2 mi2 mr2 z => by obtain ⟨r, e1, e2, e3, e4⟩ := z; rw [if_neg hC] at e4; exact ⟨r, e1, e2, e3, e4⟩)
section
variable {sh : List Sh} {mi mi2 : MI} {mr : MR} {M M2 : MI} {Mr : MR}
/-- the towns stay, the rest as told -/
theorem REL.re (h : REL sh mi mr M Mr) (hc : ∀ x, 8 ≤ x → x < 48 → mi2 x = mi x) (hc2 : ∀ x, 76 ≤ x → mi2 x = mi x) (h1 : M2 1 = M 1) (h2 : M2 2 = M 2) (h4 : mi2 0 4 = mi 0 4) (h3 : M2 0 3 = M 0 3) (P : RelP mi2 M2) (G : RelG mi2 M2) (U : RelU mi2 M2) (W : RelW mi2 M2) : REL sh mi2 mr M2 Mr := by
  obtain ⟨a, b, ⟨n, m, p, q, r1, r2⟩, ⟨d1, d2⟩, -, -, -, -⟩ := h
  refine ⟨a, b, ⟨n, m, p, q, ?_, by rw [h1]; exact r2⟩, ⟨by rw [h4, h3]; exact d1, ?_⟩, P, G, U, W⟩
  · rw [h1]; exact r1.mvq r2 (by decide) (Or.inl rfl) (fun x h1 h2 => hc x (by omega) (by omega)) hc2
  · rw [h3, h2]
    rcases d2 with z | ⟨z, n2, m2, p2, q2, e1, e2⟩
    · exact Or.inl z
    · exact Or.inr ⟨z, n2, m2, p2, q2, e1.mvq e2 (by decide) (Or.inl rfl) (fun x h1 h2 => hc x (by omega) (by omega)) hc2, e2⟩
theorem RelP.cg (h : RelP mi M) (h1 : mi2 48 = mi 48) (h2 : mi2 49 = mi 49) (h3 : M2 13 = M 13) (h4 : M2 0 17 = M 0 17) : RelP mi2 M2 := by
  unfold RelP at h ⊢
  rw [h1, h2, h3, h4]; exact h
theorem RelG.cg (h : RelG mi M) (h1 : ∀ x, 53 ≤ x → x ≤ 60 → mi2 x = mi x) (h4 : M2 4 = M 4) (h5 : M2 5 = M 5) (h6 : M2 6 = M 6) : RelG mi2 M2 := by
  intro k hk
  rw [h1 _ (by omega) (by omega), h1 _ (by omega) (by omega), h4, h5, h6]; exact h k hk
theorem RelU.cg (h : RelU mi M) (h1 : ∀ x, 61 ≤ x → x ≤ 74 → mi2 x = mi x) (h2 : ∀ a, 7 ≤ a → a ≤ 11 → M2 a = M a) : RelU mi2 M2 := by
  intro u hu
  rw [h1 61 (by omega) (by omega), h1 62 (by omega) (by omega), h1 63 (by omega) (by omega), h1 (65 + 2 * u) (by omega) (by omega), h1 (66 + 2 * u) (by omega) (by omega), h2 7 (by omega) (by omega), h2 8 (by omega) (by omega), h2 9 (by omega) (by omega), h2 10 (by omega) (by omega), h2 11 (by omega) (by omega)]
  exact h u hu
theorem RelW.cg (h : RelW mi M) (h1 : mi2 0 13 = mi 0 13) (h2 : mi2 75 = mi 75) (h3 : M2 17 = M 17) (h4 : M2 0 32 = M 0 32) : RelW mi2 M2 := by
  unfold RelW at h ⊢
  rw [h1, h2, h3, h4]; exact h
theorem kdl_rt {m p q : Nat} : ∀ K {n : Nat}, n + K ≤ 10 → RT sh mi mr 8 (M 1) n m p q → Inv (M 1) n m p q → RT sh (kdlK mi n K) mr 8 (dealK M n K 1) (n + K) m p q
  | 0, n, _, h, _ => h
  | K + 1, n, hn, h, hI => by
    have h1 := kdl_rt K (n := n) (by omega) h hI
    have hI1 := deal_ok K (n := n) (by omega) hI
    have hz : kdlK mi n K 8 15 = dealK M n K 1 6 := h1.z
    show RT sh (kdl1 (kdlK mi n K) (n + K)) mr 8 (deal1 (dealK M n K) (n + K) 1) (n + K + 1) m p q
    unfold kdl1 deal1 addL
    rw [upI_self, upI_self, upI_self, upI_self, upI_self, hz]
    exact ((h1.u_z hI1.n10 hI1.m8 hI1.p6 (by decide)).u_z hI1.n10 hI1.m8 hI1.p6 (by decide)).addL hI1.n10 hI1.m8 hI1.p6 (by decide) (by omega)
theorem kdl_fc : ∀ K {n : Nat}, FrC mi (kdlK mi n K)
  | 0, n => fun _ _ => rfl
  | K + 1, n => fun x hx => by
    show kdl1 (kdlK mi n K) (n + K) x = _
    unfold kdl1
    rw [upI_ne (by omega), upI_ne (by omega), upI_ne (by omega), upI_ne (by omega), upI_ne (by omega)]
    exact kdl_fc K x hx
theorem deal_fm : ∀ K {n : Nat}, FrM M (dealK M n K)
  | 0, n => FrM.rf M
  | K + 1, n => by
    show FrM M (deal1 (dealK M n K) (n + K))
    unfold deal1 addL
    exact (deal_fm K).up.up.up.up.up
end

theorem sim_deal {sh : List Sh} {mi : MI} {mr : MR} {M : MI} {Mr : MR} (h : REL sh mi mr M Mr) (x : Int32) : SimAt sh mi mr M Mr mX11_deal mX12_deal [.int x] := by
  obtain ⟨⟨hF, hB, hM⟩, ⟨hT8, hT20⟩, ⟨n, m, p, q, hR, hI⟩, hRI, hP, hG, hU, hW⟩ := id h
  have hn10 := hI.n10
  have hm8 := hI.m8
  have hp6 := hI.p6
  have hq14 := hI.q14
  by_cases hb : inB x 1 10 = true
  · obtain ⟨K, hK, rfl⟩ := inB_of (hi := 10) (x := x) (by unfold inB at hb ⊢; have hb := of_decide_eq_true hb; exact decide_eq_true (by omega))
    have h1 : 1 ≤ K := by unfold inB at hb; have hb := of_decide_eq_true hb; rw [nI_toInt (by omega)] at hb; omega
    refine sim_x (k_deal (d := 1199) hF hB hR hI h1 hK) (c_deal (d := 1198) hM hI.en hn10 h1 hK) (fun mi2 M2 g h2 => by
      subst g h2
      exact h.town (kdl_fc _) (deal_fm _) (Or.inl rfl) (kdl_rt _ (by omega) hR hI) (deal_ok _ (by omega) hI))
  · exact sim_i h (k_deal_bad (d := 1199) hF hB hR hI hb) (c_deal_bad (d := 1198) hM hb)

theorem sim_move {sh : List Sh} {mi : MI} {mr : MR} {M : MI} {Mr : MR} (h : REL sh mi mr M Mr) (x y z : Int32) : SimAt sh mi mr M Mr mX11_move mX12_move [.int x, .int y, .int z] := by
  obtain ⟨⟨hF, hB, hM⟩, ⟨hT8, hT20⟩, ⟨n, m, p, q, hR, hI⟩, hRI, hP, hG, hU, hW⟩ := id h
  have hn10 := hI.n10
  have hm8 := hI.m8
  have hp6 := hI.p6
  have hq14 := hI.q14
  by_cases hb : inR x p = true ∧ inR y m = true ∧ inR z n = true
  · obtain ⟨h1, h2, h3⟩ := hb
    obtain ⟨i, hi, rfl⟩ := inR_of h1
    obtain ⟨l, hl, rfl⟩ := inR_of h2
    obtain ⟨b, hb, rfl⟩ := inR_of h3
    by_cases hC : maySt (M 1) p q i l = true ∧ ¬ tN (M 1) l = b ∧ rchS (M 1) q l b = true
    · refine sim_x (cp_T hC (k_move (d := 1194) hF hB hR hI hi hl hb)) (cp_T hC (c_move (d := 1195) hM rfl hI hi hl hb)) (fun mi2 M2 g h2 => by
        obtain ⟨c1, hc1, rfl⟩ := g
        obtain ⟨m1, hm1, rfl⟩ := h2
        have hR1 : RT sh c1 mr 8 (M 1) n m p q := hR.mvq hI (by decide) (Or.inl rfl) (fun x a b => hc1 x (by omega)) (fun x a => hc1 x (by omega))
        exact h.town (fun a ha => by rw [upI_ne (by omega), upI_ne (by omega)]; exact hc1 a (by omega)) (hm1.fm.1.up.up) (Or.inl rfl) (by rw [upI_self, upI_self, hm1.fm.2]; exact (hR1.u_mv hn10 hm8 hp6 (by decide) hl).u_tpp hn10 hm8 hp6 (by decide) (by omega)) (by rw [upI_self, upI_self, hm1.fm.2]; exact (hI.uM (by omega) (Or.inr rfl)).uT (by omega) hb))
    · exact sim_s h (cp_F hC (k_move (d := 1194) hF hB hR hI hi hl hb)) (cp_F hC (c_move (d := 1195) hM rfl hI hi hl hb)) (fun M2 z => z.fm)
  · exact sim_i h (k_move_bad (d := 1199) hF hB hR hI hb) (c_move_bad (d := 1198) hM rfl hI hb)

theorem sim_climb {sh : List Sh} {mi : MI} {mr : MR} {M : MI} {Mr : MR} (h : REL sh mi mr M Mr) (x y : Int32) : SimAt sh mi mr M Mr mX11_climb mX12_climb [.int x, .int y] := by
  obtain ⟨⟨hF, hB, hM⟩, ⟨hT8, hT20⟩, ⟨n, m, p, q, hR, hI⟩, hRI, hP, hG, hU, hW⟩ := id h
  have hn10 := hI.n10
  have hm8 := hI.m8
  have hp6 := hI.p6
  have hq14 := hI.q14
  by_cases hb : inR x p = true ∧ inR y m = true
  · obtain ⟨i, hi, rfl⟩ := inR_of hb.1
    obtain ⟨l, hl, rfl⟩ := inR_of hb.2
    by_cases hC : stdS (M 1) q l = true ∧ (sN (M 1) i = fN (M 1) l ∨ sN (M 1) i = tN (M 1) l)
    · refine sim_x (cp_T hC (k_climb (d := 1194) hF hB hR hI hi hl)) (cp_T hC (c_climb (d := 1195) hM rfl hI hi hl)) (fun mi2 M2 g h2 => by
        obtain ⟨c1, hc1, rfl⟩ := g
        obtain ⟨m1, hm1, rfl⟩ := h2
        have hR1 : RT sh c1 mr 8 (M 1) n m p q := hR.mvq hI (by decide) (Or.inl rfl) (fun x a b => hc1 x (by omega)) (fun x a => hc1 x (by omega))
        exact h.town (fun a ha => by rw [upI_ne (by omega)]; exact hc1 a (by omega)) (hm1.fm.1.up) (Or.inl rfl) (by rw [upI_self, hm1.fm.2]; exact hR1.u_spt hn10 hm8 hp6 (by decide) (by omega)) (by rw [upI_self, hm1.fm.2]; exact hI.uS (by omega) (by split; (· exact hI.tn hl); (· exact hI.fn hl))))
    · exact sim_s h (cp_F hC (k_climb (d := 1194) hF hB hR hI hi hl)) (cp_F hC (c_climb (d := 1195) hM rfl hI hi hl)) (fun M2 z => z.fm)
  · exact sim_i h (k_climb_bad (d := 1199) hF hB hR hI hb) (c_climb_bad (d := 1198) hM rfl hI hb)

theorem sim_nights {sh : List Sh} {mi : MI} {mr : MR} {M : MI} {Mr : MR} (h : REL sh mi mr M Mr) (x : Int32) : SimAt sh mi mr M Mr mX11_nights mX12_nights [.int x] := by
  obtain ⟨⟨hF, hB, hM⟩, ⟨hT8, hT20⟩, ⟨n, m, p, q, hR, hI⟩, hRI, hP, hG, hU, hW⟩ := id h
  have hn10 := hI.n10
  have hm8 := hI.m8
  have hp6 := hI.p6
  have hq14 := hI.q14
  by_cases hb : inB x 1 30 = true
  · obtain ⟨K, hK, rfl⟩ := inB_of (hi := 30) (x := x) (by unfold inB at hb ⊢; have hb := of_decide_eq_true hb; exact decide_eq_true (by omega))
    have h1 : 1 ≤ K := by unfold inB at hb; have hb := of_decide_eq_true hb; rw [nI_toInt (by omega)] at hb; omega
    refine sim_y (G := fun _ mi2 mr2 => mr2 = upR mr 44 0 (some 8) ∧ (∀ x, x ≠ 8 → x ≠ 14 → x ≠ 19 → x ≠ 45 → x ≠ 46 → mi2 x = mi x) ∧ RT sh mi2 mr2 8 (ngtsR (M 1) q n m K).1 n m p q) (k_nights (d := 1193) hF hB hR hI h1 hK) (c_nights (d := 1195) hM rfl hI h1 hK) (fun mi2 mr2 M2 g h2 => by
      obtain ⟨g1, g2, g3⟩ := g
      exact h.town (fun a ha => g2 a (by omega) (by omega) (by omega) (by omega) (by omega)) h2.fm.1 (Or.inr g1) (by rw [h2.fm.2]; exact g3) (by rw [h2.fm.2]; exact (ngts_ok hI K).1))
  · exact sim_i h (k_nights_bad (d := 1199) hF hB hR hI hb) (c_nights_bad (d := 1198) hM rfl hI hb)

theorem sim_trim {sh : List Sh} {mi : MI} {mr : MR} {M : MI} {Mr : MR} (h : REL sh mi mr M Mr) (x : Int32) : SimAt sh mi mr M Mr mX11_trim mX12_trim [.int x] := by
  obtain ⟨⟨hF, hB, hM⟩, ⟨hT8, hT20⟩, ⟨n, m, p, q, hR, hI⟩, hRI, hP, hG, hU, hW⟩ := id h
  have hn10 := hI.n10
  have hm8 := hI.m8
  have hp6 := hI.p6
  have hq14 := hI.q14
  obtain ⟨hp1, hp2, tp, htp, hp3⟩ := id hP
  have hp4 : mi 48 1 = nI tp := hp1.trans hp3
  by_cases hb : inB x 0 tp = true
  · refine sim_x (k_trim (d := 1200) hF hB hp4 htp hb) (c_trim (d := 1198) hM hp3 htp hb) (fun mi2 M2 g h2 => by
      subst g h2
      obtain ⟨j, hj, rfl⟩ := inB_of hb
      exact h.re (fun x a b => upI_ne (by omega)) (fun x a => upI_ne (by omega)) (upI_ne (by decide)) (upI_ne (by decide)) (by rw [upI_ne (by decide)]) (up_ne (by decide)) ⟨by rw [up_eq, up_eq], by rw [upI_ne (by decide), upI_ne (by decide)]; exact hp2, j, by omega, up_eq⟩ (hG.cg (fun x a b => upI_ne (by omega)) (upI_ne (by decide)) (upI_ne (by decide)) (upI_ne (by decide))) (hU.cg (fun x a b => upI_ne (by omega)) (fun a x y => upI_ne (by omega))) (hW.cg (by rw [upI_ne (by decide)]) (upI_ne (by decide)) (upI_ne (by decide)) (up_ne (by decide))))
  · exact sim_i h (k_trim_bad (d := 1200) hF hB hp4 htp hb) (c_trim_bad (d := 1198) hM hp3 htp hb)

theorem sim_tell {sh : List Sh} {mi : MI} {mr : MR} {M : MI} {Mr : MR} (h : REL sh mi mr M Mr) (v : Int32) : SimAt sh mi mr M Mr mX11_tell mX12_tell [.int v] := by
  obtain ⟨⟨hF, hB, hM⟩, ⟨hT8, hT20⟩, ⟨n, m, p, q, hR, hI⟩, hRI, hP, hG, hU, hW⟩ := id h
  have hn10 := hI.n10
  have hm8 := hI.m8
  have hp6 := hI.p6
  have hq14 := hI.q14
  obtain ⟨hw1, hw2, w, hw60, hw3⟩ := id hW
  have hw4 : mi 0 13 = nI w := hw1.trans hw3
  by_cases hf : w = 60
  · exact sim_i h (k_tell_full (d := 1200) hF hB (by rw [hw4, hf]; rfl)) (c_tell_full (d := 1200) hM (by rw [hw3, hf]; rfl))
  · refine sim_x (k_tell (d := 1200) hF hB hw4 (by omega)) (c_tell (d := 1200) hM hw3 (by omega)) (fun mi2 M2 g h2 => by
      subst g h2
      exact h.re (fun x a b => by rw [upI_ne (by omega), upI_ne (by omega)]) (fun x a => by rw [upI_ne (by omega), upI_ne (by omega)]) (by rw [upI_ne (by decide), upI_ne (by decide)]) (by rw [upI_ne (by decide), upI_ne (by decide)]) (by rw [up_ne (by decide), upI_ne (by decide)]) (by rw [up_ne (by decide), upI_ne (by decide)]) (hP.cg (by rw [upI_ne (by decide), upI_ne (by decide)]) (by rw [upI_ne (by decide), upI_ne (by decide)]) (by rw [upI_ne (by decide), upI_ne (by decide)]) (by rw [up_ne (by decide), upI_ne (by decide)])) (hG.cg (fun x a b => by rw [upI_ne (by omega), upI_ne (by omega)]) (by rw [upI_ne (by decide), upI_ne (by decide)]) (by rw [upI_ne (by decide), upI_ne (by decide)]) (by rw [upI_ne (by decide), upI_ne (by decide)])) (hU.cg (fun x a b => by rw [upI_ne (by omega), upI_ne (by omega)]) (fun a x y => by rw [upI_ne (by omega), upI_ne (by omega)])) ⟨by rw [up_eq, up_eq], by rw [show upI (upI mi 75 w v) 0 13 (nI (w + 1)) 75 = upd (mi 75) w v from by rw [upI_ne (by decide), upI_self], show upI (upI M 17 w v) 0 32 (nI (w + 1)) 17 = upd (M 17) w v from by rw [upI_ne (by decide), upI_self], hw2], w + 1, by omega, up_eq⟩)

theorem sim_count {sh : List Sh} {mi : MI} {mr : MR} {M : MI} {Mr : MR} (h : REL sh mi mr M Mr) (x : Int32) : SimAt sh mi mr M Mr mX11_count mX12_count [.int x] := by
  obtain ⟨⟨hF, hB, hM⟩, ⟨hT8, hT20⟩, ⟨n, m, p, q, hR, hI⟩, hRI, hP, hG, hU, hW⟩ := id h
  have hn10 := hI.n10
  have hm8 := hI.m8
  have hp6 := hI.p6
  have hq14 := hI.q14
  by_cases hb : inB x 0 9 = true
  · obtain ⟨w, hw, rfl⟩ := inB_of (hi := 9) hb
    have hk := k_count (d := 1193) hF hB hR hI (w := w) (by omega)
    rw [hW.1, hP.1] at hk
    exact sim_s h hk (c_count (d := 1194) hM rfl hI (by omega)) (fun M2 z => z.fm)
  · exact sim_i h (k_count_bad (d := 1200) hF hB hR hI hb) (c_count_bad (d := 1198) hM rfl hI hb)

theorem sim_ask {sh : List Sh} {mi : MI} {mr : MR} {M : MI} {Mr : MR} (h : REL sh mi mr M Mr) (x w : Int32) : SimAt sh mi mr M Mr mX11_ask mX12_ask [.int x, .int w] := by
  obtain ⟨⟨hF, hB, hM⟩, ⟨hT8, hT20⟩, ⟨n, m, p, q, hR, hI⟩, hRI, hP, hG, hU, hW⟩ := id h
  have hn10 := hI.n10
  have hm8 := hI.m8
  have hp6 := hI.p6
  have hq14 := hI.q14
  by_cases hb : inB x 0 4 = true ∧ inB w 0 5 = true
  · obtain ⟨u, hu, rfl⟩ := inB_of (hi := 4) hb.1
    have hu5 : u < 5 := by omega
    obtain ⟨u1, u2, u3, u4⟩ := hU u hu5
    have hk := k_ask (d := 1197) hF hB hu5 hb.2 (fun z => (u2 (u1.symm.trans z)).2.2)
    have e : (if mi 61 u = 0 then NOTHINGc else if mi 61 u = 1 then (if isOfB (mi 62 u) w = true then wthK (mi 62 u) (mi 63 u) else KINDc) else KINDc) = (if M 7 u = 0 then NOTHINGc else if M 7 u = 1 then (if isOfB (M 8 u) w = true then M 9 u else KINDc) else KINDc) := by
      rw [u1]
      by_cases z : M 7 u = 1
      · have z0 : ¬ M 7 u = 0 := by rw [z]; decide
        simp only [if_neg z0, if_pos z]
        rw [(u2 z).2.1, ← (u2 z).1]
      · simp only [if_neg z]
    rw [e] at hk
    exact sim_i h hk (c_ask (d := 1198) hM hu5 hb.2)
  · exact sim_i h (k_ask_bad (d := 1199) hF hB hb) (c_ask_bad (d := 1198) hM hb)

theorem sim_item {sh : List Sh} {mi : MI} {mr : MR} {M : MI} {Mr : MR} (h : REL sh mi mr M Mr) (x w : Int32) : SimAt sh mi mr M Mr mX11_item mX12_item [.int x, .int w] := by
  obtain ⟨⟨hF, hB, hM⟩, ⟨hT8, hT20⟩, ⟨n, m, p, q, hR, hI⟩, hRI, hP, hG, hU, hW⟩ := id h
  have hn10 := hI.n10
  have hm8 := hI.m8
  have hp6 := hI.p6
  have hq14 := hI.q14
  by_cases hb : inB x 0 4 = true
  · obtain ⟨u, hu, rfl⟩ := inB_of (hi := 4) hb
    have hu5 : u < 5 := by omega
    obtain ⟨u1, u2, u3, u4⟩ := hU u hu5
    by_cases h7 : M 7 u = 2
    · obtain ⟨v1, ⟨z, hz, v2⟩, v3⟩ := u3 h7
      have h61 : mi 61 u = 2 := u1.trans h7
      have hz2 : mi (65 + 2 * u) 1 = nI z := v1.trans v2
      by_cases hx : inR w z = true
      · obtain ⟨j, hj, rfl⟩ := inR_of hx
        have hk := k_item (d := 1199) hF hB hu5 h61 hz2 hz hj
        rw [v3 j (by omega)] at hk
        exact sim_i h hk (c_item (d := 1198) hM hu5 h7 v2 hz hj)
      · have hx : inR w z = false := by simpa using hx
        exact sim_i h (k_item_ix (d := 1199) hF hB hu5 h61 hz2 hz hx) (c_item_ix (d := 1198) hM hu5 h7 v2 hz hx)
    · have hk := k_item_no (d := 1199) (mi := mi) hF hB hu5 (w := w) (by rw [u1]; exact h7)
      rw [u1] at hk
      exact sim_i h hk (c_item_no (d := 1198) hM hu5 h7)
  · exact sim_i h (k_item_bad (d := 1199) hF hB hb) (c_item_bad (d := 1198) hM hb)

theorem sim_rest {sh : List Sh} {mi : MI} {mr : MR} {M : MI} {Mr : MR} (h : REL sh mi mr M Mr) (x w : Int32) : SimAt sh mi mr M Mr mX11_rest mX12_rest [.int x, .int w] := by
  obtain ⟨⟨hF, hB, hM⟩, ⟨hT8, hT20⟩, ⟨n, m, p, q, hR, hI⟩, hRI, hP, hG, hU, hW⟩ := id h
  have hn10 := hI.n10
  have hm8 := hI.m8
  have hp6 := hI.p6
  have hq14 := hI.q14
  by_cases hb : inB x 0 4 = true
  · obtain ⟨u, hu, rfl⟩ := inB_of (hi := 4) hb
    have hu5 : u < 5 := by omega
    obtain ⟨u1, u2, u3, u4⟩ := hU u hu5
    by_cases h7 : M 7 u = 3
    · have hk := k_rest (d := 1199) hF hB hu5 (w := w) (u1.trans h7)
      rw [u4 h7] at hk
      exact sim_i h hk (c_rest (d := 1198) hM hu5 h7)
    · have hk := k_rest_no (d := 1199) (mi := mi) hF hB hu5 (w := w) (by rw [u1]; exact h7)
      rw [u1] at hk
      exact sim_i h hk (c_rest_no (d := 1198) hM hu5 h7)
  · exact sim_i h (k_rest_bad (d := 1199) hF hB hb) (c_rest_bad (d := 1198) hM hb)

