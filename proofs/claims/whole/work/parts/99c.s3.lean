section
variable {sh : List Sh} {mi mi2 : MI} {mr mr2 : MR} {M M2 : MI} {Mr : MR} {s s2 : Rw} {n m p q b : Nat}
theorem Inv.lo (hI : Inv s n m p q) (h : ∀ k, k < 80 + 200 * q → s2 k = s k) : Inv s2 n m p q := by
  have hq := hI.q14
  obtain ⟨⟨a1, a1'⟩, ⟨a2, a2'⟩, ⟨a3, a3'⟩, ⟨a4, a4'⟩, a5, a6, a7, a8, a9⟩ := hI
  refine ⟨⟨by rw [h 0 (by omega)]; exact a1, a1'⟩, ⟨by rw [h 1 (by omega)]; exact a2, a2'⟩, ⟨by rw [h 2 (by omega)]; exact a3, a3'⟩, ⟨by rw [h 3 (by omega)]; exact a4, a4'⟩, fun l hl => ?_, fun i hi => ?_, fun t ht => ?_, fun i hi => ?_, by rw [h 5 (by omega)]; exact a9⟩
  · have := a5 l hl
    unfold InvL kN fN tN knd lng fot tpp mvd at this ⊢
    rw [h _ (by omega), h _ (by omega), h _ (by omega), h _ (by omega), h _ (by omega)]
    exact this
  · have := a6 i hi
    unfold sN spt stg at this ⊢
    rw [h _ (by omega), h _ (by omega)]
    exact this
  · have := a7 t ht
    exact ⟨this.1.rg (fun k h1 h2 => h k (by omega)), by rw [h _ (by omega)]; exact this.2⟩
  · have := a8 i hi
    unfold hgt plc at this ⊢
    rw [h _ (by omega), h _ (by omega)]
    exact this
theorem RT.lo (hR : RT sh mi mr b s n m p q) (hI : Inv s n m p q) (h : ∀ k, k < 80 + 200 * q → s2 k = s k) : RT sh mi mr b s2 n m p q := by
  have hm8 := hI.m8
  have hn10 := hI.n10
  have hp6 := hI.p6
  obtain ⟨g1, ⟨g2, g2b, g2c, g2d⟩, g3, g4, g5, g6, g7⟩ := hR
  refine ⟨g1, ⟨?_, by rw [h 4 (by omega)]; exact g2b, by rw [h 5 (by omega)]; exact g2c, by rw [h 6 (by omega)]; exact g2d⟩, fun i hi => ?_, fun l hl => ?_, fun i hi => ?_, fun k hk => ?_, fun t ht => ?_⟩
  · rw [g2]
    exact bits_cong m (fun l hl => by unfold mvd; rw [h _ (by omega)])
  · have := g3 i hi
    unfold hgt plc at this ⊢
    rw [h _ (by omega), h _ (by omega)]
    exact this
  · have := g4 l hl
    unfold knd lng fot tpp at this ⊢
    rw [h _ (by omega), h _ (by omega), h _ (by omega), h _ (by omega)]
    exact this
  · have := g5 i hi
    unfold spt stg at this ⊢
    rw [h _ (by omega), h _ (by omega)]
    exact this
  · rw [g6 k hk]
    unfold lstT
    exact lastB_cg q (fun t ht => by show decide _ = decide _; rw [h _ (by omega)])
  · obtain ⟨a, a1, a2⟩ := g7 t ht
    exact ⟨a, a1, a2.rg ((hI.tx ht).2.1) (fun k h1 h2 => h k (by omega)) (fun _ _ h => h) (fun _ _ _ => ⟨rfl, rfl⟩)⟩
theorem RelG.fc (h : RelG mi M) (hc : ∀ x, 53 ≤ x → x ≤ 60 → mi2 x = mi x) (hm : ∀ a, 4 ≤ a → a ≤ 6 → M2 a = M a) : RelG mi2 M2 := h.cg hc (hm 4 (by omega) (by omega)) (hm 5 (by omega) (by omega)) (hm 6 (by omega) (by omega))
end

theorem sim_keep {sh : List Sh} {mi : MI} {mr : MR} {M : MI} {Mr : MR} (h : REL sh mi mr M Mr) : SimAt sh mi mr M Mr mX11_keep mX12_keep [] := by
  obtain ⟨⟨hF, hB, hM⟩, ⟨hT8, hT20⟩, ⟨n, m, p, q, hR, hI⟩, hRI, hP, hG, hU, hW⟩ := id h
  have hn10 := hI.n10
  have hm8 := hI.m8
  have hp6 := hI.p6
  have hq14 := hI.q14
  have hc := c_keep (d := 1199) (mi := M) hM
  rw [hI.em] at hc
  refine sim_y (G := fun _ mi2 mr2 => mr2 = tcp mr 20 8 14 ∧ ∃ mi1, BA mi mi1 20 8 ∧ mi2 = upI mi1 0 4 1) (k_keep (d := 1198) hF hB hR hI hT8) hc (fun mi2 mr2 M2 g h2 => ?_)
  obtain ⟨rfl, mi1, hBA, rfl⟩ := g
  subst h2
  obtain ⟨r20, r8⟩ := hR.ba hI (b := 20) (by decide) (by decide) hBA
  have f0 : ∀ x, x < 20 ∨ 30 < x → mi1 x = mi x := fun x hx => hBA.1 x (by omega)
  have f2 : ∀ x, x ≠ 2 → x ≠ 0 → cp2 (upI M 0 3 1) 1 2 2880 x = M x := fun x hx h0 => by rw [cp2_o hx, upI_ne h0]
  have e0 : cp2 (upI M 0 3 1) 1 2 2880 0 = upd (M 0) 3 1 := by rw [cp2_o (by decide), upI_self]
  have e2 : ∀ k, k < 2880 → cp2 (upI M 0 3 1) 1 2 2880 2 k = M 1 k := fun k hk => by rw [cp2_b]; show (if k < 2880 then _ else _) = _; rw [if_pos hk, upI_ne (by decide)]
  have u : ∀ {b : Nat} {s : Rw}, 1 ≤ b → b ≤ 20 → RT sh mi1 (tcp mr 20 8 14) b s n m p q → Inv s n m p q → RT sh (upI mi1 0 4 1) (tcp mr 20 8 14) b s n m p q := fun h1 h2 hr hi => hr.mv2 hi (fun x a b => upI_ne (by omega)) rfl (fun _ _ h => h) (fun x hx _ => ⟨upI_ne (by omega), rfl⟩)
  have i2 : Inv (cp2 (upI M 0 3 1) 1 2 2880 2) n m p q := hI.lo (fun k hk => e2 k (by omega))
  refine ⟨⟨hF, tcp_B hB (Or.inr (Or.inl rfl)), hM⟩, ⟨hT8.to (by decide), hT8.tc⟩, ⟨n, m, p, q, by rw [f2 1 (by decide) (by decide)]; exact u (by decide) (by decide) r8 hI, by rw [f2 1 (by decide) (by decide)]; exact hI⟩, ⟨by rw [up_eq, e0, upd_s], Or.inr ⟨by rw [e0, upd_s], n, m, p, q, (u (by decide) (by decide) r20 hI).lo hI (fun k hk => e2 k (by omega)), i2⟩⟩, hP.cg (by rw [upI_ne (by decide)]; exact f0 48 (by omega)) (by rw [upI_ne (by decide)]; exact f0 49 (by omega)) (f2 13 (by decide) (by decide)) (by rw [e0, upd_n (by decide)]), hG.fc (fun x a b => by rw [upI_ne (by omega)]; exact f0 x (by omega)) (fun a x y => f2 a (by omega) (by omega)), hU.cg (fun x a b => by rw [upI_ne (by omega)]; exact f0 x (by omega)) (fun a x y => f2 a (by omega) (by omega)), hW.cg (by rw [up_ne (by decide), f0 0 (by omega)]) (by rw [upI_ne (by decide)]; exact f0 75 (by omega)) (f2 17 (by decide) (by decide)) (by rw [e0, upd_n (by decide)])⟩

theorem sim_back {sh : List Sh} {mi : MI} {mr : MR} {M : MI} {Mr : MR} (h : REL sh mi mr M Mr) : SimAt sh mi mr M Mr mX11_back mX12_back [] := by
  obtain ⟨⟨hF, hB, hM⟩, ⟨hT8, hT20⟩, ⟨n, m, p, q, hR, hI⟩, hRI, hP, hG, hU, hW⟩ := id h
  have hn10 := hI.n10
  have hm8 := hI.m8
  have hp6 := hI.p6
  have hq14 := hI.q14
  obtain ⟨i1, i2⟩ := id hRI
  rcases i2 with z | ⟨z, n2, m2, p2, q2, r2, v2⟩
  · exact sim_i h (k_back_no (d := 1200) hF hB (i1.trans z)) (c_back_no (d := 1199) hM z)
  · have hne : ¬ M 0 3 = 0 := by rw [z]; decide
    have hk := k_back (d := 1198) (mi := mi) hF hB hT20 (by rw [i1]; exact hne)
    have hc := c_back (d := 1199) hM hne
    rw [r2.em] at hk
    rw [v2.em] at hc
    refine sim_y (G := fun _ mi2 mr2 => mr2 = tcp mr 8 20 14 ∧ BA mi mi2 8 20) hk hc (fun mi2 mr2 M2 g h2 => ?_)
    obtain ⟨rfl, hBA⟩ := g
    subst h2
    obtain ⟨r8, r20⟩ := r2.ba v2 (b := 8) (by decide) (by decide) hBA
    have f0 : ∀ x, x < 8 ∨ 18 < x → mi2 x = mi x := fun x hx => hBA.1 x (by omega)
    have f2 : ∀ x, x ≠ 1 → cp2 M 2 1 2880 x = M x := fun x hx => cp2_o hx
    have e1 : ∀ k, k < 2880 → cp2 M 2 1 2880 1 k = M 2 k := fun k hk => by rw [cp2_b]; show (if k < 2880 then _ else _) = _; rw [if_pos hk]
    have hq := v2.q14
    refine ⟨⟨hF, tcp_B hB (Or.inl rfl), hM⟩, ⟨hT20.tc, hT20.to (by decide)⟩, ⟨n2, m2, p2, q2, r8.lo v2 (fun k hk => e1 k (by omega)), v2.lo (fun k hk => e1 k (by omega))⟩, ⟨by rw [f0 0 (by omega), f2 0 (by decide)]; exact i1, Or.inr ⟨by rw [f2 0 (by decide)]; exact z, n2, m2, p2, q2, by rw [f2 2 (by decide)]; exact r20, by rw [f2 2 (by decide)]; exact v2⟩⟩, hP.cg (f0 48 (by omega)) (f0 49 (by omega)) (f2 13 (by decide)) (by rw [f2 0 (by decide)]), hG.fc (fun x a b => f0 x (by omega)) (fun a x y => f2 a (by omega)), hU.cg (fun x a b => f0 x (by omega)) (fun a x y => f2 a (by omega)), hW.cg (by rw [f0 0 (by omega)]) (f0 75 (by omega)) (f2 17 (by decide)) (by rw [f2 0 (by decide)])⟩

theorem sim_check {sh : List Sh} {mi : MI} {mr : MR} {M : MI} {Mr : MR} (h : REL sh mi mr M Mr) (x : Int32) : SimAt sh mi mr M Mr mX11_check mX12_check [.int x] := by
  obtain ⟨⟨hF, hB, hM⟩, ⟨hT8, hT20⟩, ⟨n, m, p, q, hR, hI⟩, hRI, hP, hG, hU, hW⟩ := id h
  have hn10 := hI.n10
  have hm8 := hI.m8
  have hp6 := hI.p6
  have hq14 := hI.q14
  obtain ⟨i1, i2⟩ := id hRI
  by_cases hb : inB x 1 30 = true
  · rcases i2 with z | ⟨z, n2, m2, p2, q2, r2, v2⟩
    · exact sim_x (k_check_no (d := 1200) hF hB hb (i1.trans z)) (c_check_no (d := 1198) hM hb z) (fun mi2 M2 g h2 => by
      subst g h2
      exact h.re (fun x a b => upI_ne (by omega)) (fun x a => upI_ne (by omega)) (upI_ne (by decide)) (upI_ne (by decide)) (up_ne (by decide)) (up_ne (by decide)) (hP.cg (upI_ne (by decide)) (upI_ne (by decide)) (upI_ne (by decide)) (up_ne (by decide))) (hG.fc (fun x a b => upI_ne (by omega)) (fun a x y => upI_ne (by omega))) (hU.cg (fun x a b => upI_ne (by omega)) (fun a x y => upI_ne (by omega))) ⟨by rw [up_eq, up_eq], by rw [upI_ne (by decide), upI_ne (by decide)]; exact hW.2.1, 0, by decide, by rw [up_eq]; rfl⟩)
    · obtain ⟨K, hK, rfl⟩ := inB_of (hi := 30) (x := x) (by unfold inB at hb ⊢; have hb := of_decide_eq_true hb; exact decide_eq_true (by omega))
      have h1 : 1 ≤ K := by unfold inB at hb; have hb := of_decide_eq_true hb; rw [nI_toInt (by omega)] at hb; omega
      obtain ⟨hw1, hw2, wt, hw60, hw3⟩ := id hW
      have hne : ¬ M 0 3 = 0 := by rw [z]; decide
      have hq := v2.q14
      have el : ∀ k, k < 80 + 200 * q2 → imgR (M 2) (M 1) k = M 2 k := fun k hk => if_pos (by omega)
      have vi := v2.lo el
      have hk := k_check (d := 1193) hF hB (r2.lo v2 el) vi hT20 h1 hK (by rw [i1]; exact hne) (hw1.trans hw3) hw60
      rw [hw2] at hk
      refine sim_y (G := fun _ mi2 mr2 => mr2 = upR (tcp mr 32 20 14) 44 0 (some 32) ∧ (∀ x, x ≠ 0 → ¬ (32 ≤ x ∧ x < 44) → x ≠ 45 → x ≠ 46 → mi2 x = mi x) ∧ mi2 0 = upd (mi 0) 13 0) hk (c_check (d := 1194) hM vi h1 hK hne hw3 hw60) (fun mi2 mr2 M2 g h2 => ?_)
      obtain ⟨rfl, g2, g3⟩ := g
      obtain ⟨c1, c2, c3, c4⟩ := h2
      have f0 : ∀ x, x ≠ 0 → x < 32 ∨ 47 ≤ x → mi2 x = mi x := fun x h0 hx => g2 x h0 (by omega) (by omega) (by omega)
      have fr : ∀ x, x ≠ 41 → x ≠ 44 → upR (tcp mr 32 20 14) 44 0 (some 32) x = mr x := fun x h1 h2 => by rw [upR_ne h2, tcp_ne (by omega)]
      have f2 : ∀ a, a ≠ 0 → a ≠ 1 → a ≠ 3 → a ≠ 14 → a ≠ 15 → a ≠ 18 → M2 a = M a := c4
      have tx : ∀ b, b + 9 ≠ 41 → b + 9 ≠ 44 → TxR sh mr b → TxR sh (upR (tcp mr 32 20 14) 44 0 (some 32)) b := fun b h1 h2 hx t ht a ha => by rw [fr _ h1 h2] at ha; exact hx t ht a ha
      have rt : ∀ {b : Nat} {s : Rw} {n m p q : Nat}, b = 8 ∨ b = 20 → RT sh mi mr b s n m p q → Inv s n m p q → RT sh mi2 (upR (tcp mr 32 20 14) 44 0 (some 32)) b s n m p q := fun hb hr hi => hr.mv2 hi (fun x h1 h2 => f0 x (by omega) (by omega)) (fr _ (by omega) (by omega)) (fun _ _ h => h) (fun x hx _ => ⟨f0 x (by omega) (by omega), fr x (by omega) (by omega)⟩)
      refine ⟨⟨hF, lk_B (tcp_B hB (Or.inr (Or.inr rfl))), hM⟩, ⟨tx 8 (by decide) (by decide) hT8, tx 20 (by decide) (by decide) hT20⟩, ⟨n, m, p, q, by rw [c1]; exact rt (Or.inl rfl) hR hI, by rw [c1]; exact hI⟩, ⟨by rw [g3, upd_n (by decide), c3 3 (by decide)]; exact i1, Or.inr ⟨by rw [c3 3 (by decide)]; exact z, n2, m2, p2, q2, by rw [f2 2 (by decide) (by decide) (by decide) (by decide) (by decide) (by decide)]; exact rt (Or.inr rfl) r2 v2, by rw [f2 2 (by decide) (by decide) (by decide) (by decide) (by decide) (by decide)]; exact v2⟩⟩, hP.cg (f0 48 (by omega) (by omega)) (f0 49 (by omega) (by omega)) (f2 13 (by decide) (by decide) (by decide) (by decide) (by decide) (by decide)) (c3 17 (by decide)), hG.fc (fun x a b => f0 x (by omega) (by omega)) (fun a x y => f2 a (by omega) (by omega) (by omega) (by omega) (by omega) (by omega)), hU.cg (fun x a b => f0 x (by omega) (by omega)) (fun a x y => f2 a (by omega) (by omega) (by omega) (by omega) (by omega) (by omega)), ⟨by rw [g3, upd_s, c2], by rw [f0 75 (by omega) (by omega), f2 17 (by decide) (by decide) (by decide) (by decide) (by decide) (by decide)]; exact hw2, 0, by decide, by rw [c2]; rfl⟩⟩
  · exact sim_x (k_check_bad (d := 1200) hF hB hb) (c_check_bad (d := 1198) hM hb) (fun mi2 M2 g h2 => by
    subst g h2
    exact h.re (fun x a b => upI_ne (by omega)) (fun x a => upI_ne (by omega)) (upI_ne (by decide)) (upI_ne (by decide)) (up_ne (by decide)) (up_ne (by decide)) (hP.cg (upI_ne (by decide)) (upI_ne (by decide)) (upI_ne (by decide)) (up_ne (by decide))) (hG.fc (fun x a b => upI_ne (by omega)) (fun a x y => upI_ne (by omega))) (hU.cg (fun x a b => upI_ne (by omega)) (fun a x y => upI_ne (by omega))) ⟨by rw [up_eq, up_eq], by rw [upI_ne (by decide), upI_ne (by decide)]; exact hW.2.1, 0, by decide, by rw [up_eq]; rfl⟩)

/-- behind a text that was not taken -/
theorem REL.no {sh sh2 : List Sh} {mi mi2 : MI} {mr mr2 : MR} {M M2 : MI} {Mr : MR} (h : REL sh mi mr M Mr) {o : List Ste} (hF2 : SHC sh2) (hB2 : CB mr2) (hs : ∀ (x : Nat) (y : Sh), sh[x]? = some y → sh2[x]? = some y) (hc : ∀ a, a < sh.length → a ≠ 48 → a ≠ 50 → a ≠ 51 → mi2 a = mi a) (h48 : mi2 48 1 = 0) (hr : ∀ a, a < sh.length → mr2 a = mr a) (h1 : ∀ q, M 1 3 = nI q → q ≤ 14 → M2 1 = layR (M 1) (prAt q) o) (hP : PrM M M2) : REL sh2 mi2 mr2 M2 Mr := by
  obtain ⟨⟨hF, hB, hM⟩, ⟨hT8, hT20⟩, ⟨n, m, p, q, hR, hI⟩, ⟨d1, d2⟩, hp, hG, hU, hW⟩ := h
  have hn := hF.n
  have hq := hI.q14
  obtain ⟨p1, p2, p3⟩ := hP
  have e1 : ∀ k, k < 80 + 200 * q → M2 1 k = M 1 k := fun k hk => by
    rw [h1 q hI.eq3 hq]
    unfold layR
    rw [if_neg (by unfold prAt; split <;> omega)]
  have c0 : ∀ a, a < 76 → a ≠ 48 → a ≠ 50 → a ≠ 51 → mi2 a = mi a := fun a ha => hc a (by omega)
  have tx : ∀ b, b + 9 < 48 → TxR sh mr b → TxR sh2 mr2 b := fun b hb hx t ht a ha => by
    rw [hr _ (by omega)] at ha
    have := hx t ht a ha
    exact ⟨this.1, hs _ _ this.2⟩
  have rt : ∀ {b : Nat} {s : Rw} {n m p q : Nat}, b + 11 < 48 → RT sh mi mr b s n m p q → Inv s n m p q → RT sh2 mi2 mr2 b s n m p q := fun hb hr2 hi => hr2.mv2 hi (fun x h1 h2 => c0 x (by omega) (by omega) (by omega) (by omega)) (hr _ (by omega)) hs (fun x h1 h2 => ⟨hc x h2 (by omega) (by omega) (by omega), hr x h2⟩)
  refine ⟨⟨hF2, hB2, hM⟩, ⟨tx 8 (by decide) hT8, tx 20 (by decide) hT20⟩, ⟨n, m, p, q, (rt (by decide) hR hI).lo hI e1, hI.lo e1⟩, ⟨by rw [c0 0 (by decide) (by decide) (by decide) (by decide), p3 3 (by omega)]; exact d1, ?_⟩, ⟨by rw [h48, p2], by rw [c0 49 (by decide) (by decide) (by decide) (by decide), p1 13 (by decide) (by decide)]; exact hp.2.1, 0, by decide, by rw [p2]; rfl⟩, hG.fc (fun x a b => c0 x (by omega) (by omega) (by omega) (by omega)) (fun a x y => p1 a (by omega) (by omega)), hU.cg (fun x a b => c0 x (by omega) (by omega) (by omega) (by omega)) (fun a x y => p1 a (by omega) (by omega)), hW.cg (by rw [c0 0 (by decide) (by decide) (by decide) (by decide)]) (c0 75 (by decide) (by decide) (by decide) (by decide)) (p1 17 (by decide) (by decide)) (p3 32 (by omega))⟩
  rw [p3 3 (by omega), p1 2 (by decide) (by decide)]
  rcases d2 with z | ⟨z, n2, m2, p2, q2, r1, r2⟩
  · exact Or.inl z
  · exact Or.inr ⟨z, n2, m2, p2, q2, rt (by decide) r1 r2, r2⟩
theorem sim_z {sh : List Sh} {mi : MI} {mr : MR} {M : MI} {Mr : MR} {yc ym : Mt} {as : List Value} {R : Int32} {G : List Sh → MI → MR → Prop} {H : MI → Prop} (hc : CP 1200 yc (.ref 0 :: as) sh mi mr 2 99 (PY (fun r sh2 mi2 mr2 => r = R ∧ G sh2 mi2 mr2))) (hm : CP 1200 ym (.ref 0 :: as) shM M Mr 0 0 (PX shM Mr (fun r mi2 => r = R ∧ H mi2))) (h : ∀ sh2 mi2 mr2 M2, G sh2 mi2 mr2 → H M2 → REL sh2 mi2 mr2 M2 Mr ∧ sh2.length ≤ sh.length + 2) : SimAt sh mi mr M Mr yc ym as :=
  ⟨R, G, H, 2, 99, ⟨by decide, by decide⟩, hc.imp (fun v sh2 mi2 mr2 z => by obtain ⟨r, e1, e4, e5⟩ := z; exact ⟨by rw [e1, e4], e5⟩), hm.imp (fun v sh2 mi2 mr2 z => by obtain ⟨r, e1, e2, e3, e4, e5⟩ := z; exact ⟨by rw [e1, e4], e2, e3, e5⟩), h⟩
theorem TxN.len {sh : List Sh} {mi : MI} {mr : MR} {key : Int32} {sd : Nat} {O : List Int32} {sh2 : List Sh} {mi2 : MI} {mr2 : MR} (h : TxN sh mi mr key sd O sh2 mi2 mr2) : sh2.length ≤ sh.length + 2 := by
  rw [h.1, List.length_append, List.length_append]
  show sh.length + 1 + 1 ≤ _
  omega

theorem sim_text {sh : List Sh} {mi : MI} {mr : MR} {M : MI} {Mr : MR} (h : REL sh mi mr M Mr) : SimAt sh mi mr M Mr mX11_text mX12_text [] := by
  obtain ⟨⟨hF, hB, hM⟩, ⟨hT8, hT20⟩, ⟨n, m, p, q, hR, hI⟩, hRI, hP, hG, hU, hW⟩ := id h
  have hn10 := hI.n10
  have hm8 := hI.m8
  have hp6 := hI.p6
  have hq14 := hI.q14
  obtain ⟨hp1, hp2, tp, htp, hp3⟩ := id hP
  have hp4 : mi 48 1 = nI tp := hp1.trans hp3
  by_cases hky : kyP tp (M 13) = -1
  · have hk := k_text_bad0 (d := 1191) hF hB hp4 htp (by rw [hp2]; exact hky)
    rw [hp2] at hk
    exact sim_z hk (c_text_bad0 (d := 225) hM hp3 htp hI.eq3 hq14 hky) (fun sh2 mi2 mr2 M2 g h2 => by
        obtain ⟨rfl, rfl, g⟩ := g
        refine ⟨h.no (o := []) hF hB (fun _ _ h => h) (fun a _ => g.1 a) g.2.1 (fun _ _ => rfl) (fun q2 e2 l2 => ?_) h2.2, by omega⟩
        obtain rfl : q2 = q := (nI_eq (by omega) (by omega)).mp (e2.symm.trans hI.eq3)
        rw [h2.1, layR_0])
  · by_cases hok : (pdF tp (M 13)).1 = true ∧ Tok.k (PS.t (pdF tp (M 13)).2) = 0
    · obtain ⟨-, -, -, -, kt, hkt, hkk⟩ := ky_e (T := M 13) htp hky
      by_cases hq4 : q = 14
      · have hk := k_text_full (d := 1191) hF hB hp4 htp (by rw [hp2]; exact hky) (by rw [hp2]; exact hok) hR.eq hq4
        rw [hp2] at hk
        exact sim_z hk (c_text_full (d := 225) hM hp3 htp hI.eq3 hq14 hky hok hq4) (fun sh2 mi2 mr2 M2 g h2 => by
          refine ⟨h.no (o := PS.o (pdF tp (M 13)).2) (g.F hF) (g.B hF hB) g.hs g.2.1.1 g.2.1.2 g.2.2.2.2.1 (fun q2 e2 l2 => ?_) h2.2, g.len⟩
          obtain rfl : q2 = q := (nI_eq (by omega) (by omega)).mp (e2.symm.trans hI.eq3)
          exact h2.1)
      · have hq5 : q < 14 := by omega
        have hk := k_text (d := 1191) hF hB hp4 htp (by rw [hp2]; exact hky) (by rw [hp2]; exact hok) hR.eq hq5 hkt (by rw [hp2]; exact hkk)
        rw [hp2] at hk
        exact sim_z hk (c_text (d := 225) hM hp3 htp hI.eq3 hq14 hky hok hq5) (fun sh2 mi2 mr2 M2 g h2 => by
          obtain ⟨mi5, mr5, hN, rfl, rfl⟩ := g
          obtain ⟨h1, p1, p2, p3⟩ := h2
          have hn := hF.n
          have hv := vd_pd (T := M 13) htp hok.1
          have hol : (PS.o (pdF tp (M 13)).2).length ≤ 96 := by
            have := hN.2.2.2.2.2.2
            unfold outP at this
            rw [List.length_map] at this
            omega
          have c0 : ∀ a, a < 76 → a ≠ 8 → a ≠ 18 → a ≠ 48 → a ≠ 50 → a ≠ 51 → upI (upI mi5 18 kt (nI q)) 8 16 (nI (q + 1)) a = mi a := fun a h0 h1 h2 h3 h4 h5 => by rw [upI_ne h1, upI_ne h2]; exact hN.2.1.1 a (by omega) h3 h4 h5
          obtain ⟨d1, d2⟩ := id hRI
          refine ⟨⟨⟨hN.F hF, hN.cb hF hB q, hM⟩, ⟨hN.tx8 hF hT8 q, hN.txo hF (by decide) (by decide) hT20 q⟩, ⟨n, m, p, q + 1, by rw [h1]; exact hN.aT hF rfl hkt hkk hv hR hI hq5, by rw [h1]; exact hI.aT hq5 hv hol ((kyP_c tp (M 13)).resolve_left hky)⟩, ⟨by rw [c0 0 (by decide) (by decide) (by decide) (by decide) (by decide) (by decide), p3 3 (by omega)]; exact d1, ?_⟩, ⟨by rw [upI_ne (by decide), upI_ne (by decide), hN.2.1.2, p2], by rw [c0 49 (by decide) (by decide) (by decide) (by decide) (by decide) (by decide), p1 13 (by decide) (by decide)]; exact hp2, 0, by decide, by rw [p2]; rfl⟩, hG.fc (fun x a b => c0 x (by omega) (by omega) (by omega) (by omega) (by omega) (by omega)) (fun a x y => p1 a (by omega) (by omega)), hU.cg (fun x a b => c0 x (by omega) (by omega) (by omega) (by omega) (by omega) (by omega)) (fun a x y => p1 a (by omega) (by omega)), hW.cg (by rw [c0 0 (by decide) (by decide) (by decide) (by decide) (by decide) (by decide)]) (c0 75 (by decide) (by decide) (by decide) (by decide) (by decide) (by decide)) (p1 17 (by decide) (by decide)) (p3 32 (by omega))⟩, hN.len⟩
          rw [p3 3 (by omega), p1 2 (by decide) (by decide)]
          rcases d2 with z | ⟨z, n2, m2, p2, q2, r1, r2⟩
          · exact Or.inl z
          · refine Or.inr ⟨z, n2, m2, p2, q2, (hN.rt hF (by decide) r1 r2).mv2 r2 (fun x h1 h2 => by rw [upI_ne (by omega), upI_ne (by omega)]) (upR_ne (by decide)) (fun _ _ h => h) (fun x hx _ => ⟨by rw [upI_ne (by omega), upI_ne (by omega)], upR_ne (by omega)⟩), r2⟩)
    · have hk := k_text_bad1 (d := 1191) hF hB hp4 htp (by rw [hp2]; exact hky) (by rw [hp2]; exact hok)
      rw [hp2] at hk
      exact sim_z hk (c_text_bad1 (d := 225) hM hp3 htp hI.eq3 hq14 hky hok) (fun sh2 mi2 mr2 M2 g h2 => by
        obtain ⟨rfl, rfl, g⟩ := g
        refine ⟨h.no (o := PS.o (pdF tp (M 13)).2) hF hB (fun _ _ h => h) (fun a _ => g.1 a) g.2.1 (fun _ _ => rfl) (fun q2 e2 l2 => ?_) h2.2, by omega⟩
        obtain rfl : q2 = q := (nI_eq (by omega) (by omega)).mp (e2.symm.trans hI.eq3)
        exact h2.1)

