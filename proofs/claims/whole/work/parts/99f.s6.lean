section
variable {sh : List Sh} {mi : MI} {mr : MR} {M : MI} {Mr : MR}
theorem ldH_o {u th : Nat} {a b : Int32} {x : Nat} (h : x < 7 ∨ 9 < x) : ldHeld M u th a b x = M x := by
  unfold ldHeld
  rw [upI_ne (by omega), upI_ne (by omega), upI_ne (by omega)]
theorem ldH_7 {u th : Nat} {a b : Int32} {x : Nat} : ldHeld M u th a b 7 x = if x = u then nI th else M 7 x := by
  unfold ldHeld
  rw [upI_ne (by decide), upI_ne (by decide), upF]
theorem ldH_8 {u th : Nat} {a b : Int32} {x : Nat} : ldHeld M u th a b 8 x = if x = u then a else M 8 x := by
  unfold ldHeld
  rw [upI_ne (by decide), upF, upI_ne (by decide)]
theorem ldH_9 {u th : Nat} {a b : Int32} {x : Nat} : ldHeld M u th a b 9 x = if x = u then b else M 9 x := by
  unfold ldHeld
  rw [upF, upI_ne (by decide), upI_ne (by decide)]
theorem REL.ly03 (h : REL sh mi mr M Mr) {u th : Nat} {k : Int32} (ht : th = 0 ∨ th = 3) : REL sh (upI (upI mi 63 u k) 61 u (nI th)) mr (ldHeld M u th k 0) Mr := by
  refine h.slot (u := u) (fun x hx => by rw [upI_ne (by omega), upI_ne (by omega)]) (fun a ha => ldH_o (by omega)) (fun u2 hu2 hne => ⟨⟨by rw [up_ne hne, upI_ne (by decide)], by rw [upI_ne (by decide), upI_ne (by decide)], by rw [upI_ne (by decide), up_ne hne], by rw [upI_ne (by omega), upI_ne (by omega)], by rw [upI_ne (by omega), upI_ne (by omega)]⟩, by rw [ldH_7, if_neg hne], by rw [ldH_8, if_neg hne], by rw [ldH_9, if_neg hne], by rw [ldH_o (by omega)], fun j hj => by rw [ldH_o (by omega)]⟩) ?_
  rw [ldH_7, if_pos rfl]
  refine ⟨up_eq, fun z => ?_, fun z => ?_, fun _ => by rw [upI_ne (by decide), up_eq, ldH_8, if_pos rfl]⟩
  · rcases ht with rfl | rfl <;> exact absurd z (by decide)
  · rcases ht with rfl | rfl <;> exact absurd z (by decide)
theorem REL.ly1 (h : REL sh mi mr M Mr) {u kk : Nat} {g : Int32} (hk : kk < 6) : REL sh (upI (upI (upI mi 62 u (nI kk)) 63 u g) 61 u 1) mr (ldHeld M u 1 (nI kk) (wthK (nI kk) g)) Mr := by
  refine h.slot (u := u) (fun x hx => by rw [upI_ne (by omega), upI_ne (by omega), upI_ne (by omega)]) (fun a ha => ldH_o (by omega)) (fun u2 hu2 hne => ⟨⟨by rw [up_ne hne, upI_ne (by decide), upI_ne (by decide)], by rw [upI_ne (by decide), upI_ne (by decide), up_ne hne], by rw [upI_ne (by decide), up_ne hne, upI_ne (by decide)], by rw [upI_ne (by omega), upI_ne (by omega), upI_ne (by omega)], by rw [upI_ne (by omega), upI_ne (by omega), upI_ne (by omega)]⟩, by rw [ldH_7, if_neg hne], by rw [ldH_8, if_neg hne], by rw [ldH_9, if_neg hne], by rw [ldH_o (by omega)], fun j hj => by rw [ldH_o (by omega)]⟩) ?_
  have e2 : upI (upI (upI mi 62 u (nI kk)) 63 u g) 61 u 1 62 u = nI kk := by rw [upI_ne (by decide), upI_ne (by decide), up_eq]
  have e3 : upI (upI (upI mi 62 u (nI kk)) 63 u g) 61 u 1 63 u = g := by rw [upI_ne (by decide), up_eq]
  rw [ldH_7, if_pos rfl, ldH_8, if_pos rfl, ldH_9, if_pos rfl, e2, e3]
  exact ⟨up_eq, fun _ => ⟨rfl, rfl, kk, hk, rfl⟩, fun z => absurd z (by decide), fun z => absurd z (by decide)⟩
theorem REL.ly2 (h : REL sh mi mr M Mr) {u k : Nat} (hu : u < 5) (hk : k < 4) : REL sh (upI (cpI (upI (upI mi (65 + 2 * u) 0 (mi (53 + 2 * k) 0)) (65 + 2 * u) 1 (mi (53 + 2 * k) 1)) (54 + 2 * k) (66 + 2 * u) 0 0 24) 61 u 2) mr (ldRow (upI (ldHeld M u 2 (nI k) 0) 10 u (M 5 k)) u k 24) Mr := by
  obtain ⟨⟨g1, g2, g3⟩, g4, ⟨z, hz, g5⟩, g6⟩ := h.2.2.2.2.2.1 k hk
  have m : ∀ a, a ≠ 10 → a ≠ 11 → ldRow (upI (ldHeld M u 2 (nI k) 0) 10 u (M 5 k)) u k 24 a = ldHeld M u 2 (nI k) 0 a := fun a h1 h2 => by rw [ldRow_o h2, upI_ne h1]
  have m10 : ∀ x, ldRow (upI (ldHeld M u 2 (nI k) 0) 10 u (M 5 k)) u k 24 10 x = if x = u then M 5 k else M 10 x := fun x => by rw [ldRow_o (by decide), upF, ldH_o (by omega)]
  have m11 : ∀ x, ldRow (upI (ldHeld M u 2 (nI k) 0) 10 u (M 5 k)) u k 24 11 x = if 24 * u ≤ x ∧ x < 24 * u + 24 then M 6 (24 * k + (x - 24 * u)) else M 11 x := fun x => by rw [ldRow_a, upI_ne (by decide), upI_ne (by decide), ldH_o (by omega), ldH_o (by omega)]
  refine h.slot (u := u) (fun x hx => by rw [upI_ne (by omega), cpI_ne (by omega), upI_ne (by omega), upI_ne (by omega)]) (fun a ha => by rw [m a (by omega) (by omega)]; exact ldH_o (by omega)) (fun u2 hu2 hne => ⟨⟨by rw [up_ne hne, cpI_ne (by omega), upI_ne (by omega), upI_ne (by omega)], by rw [upI_ne (by decide), cpI_ne (by omega), upI_ne (by omega), upI_ne (by omega)], by rw [upI_ne (by decide), cpI_ne (by omega), upI_ne (by omega), upI_ne (by omega)], by rw [upI_ne (by omega), cpI_ne (by omega), upI_ne (by omega), upI_ne (by omega)], by rw [upI_ne (by omega), cpI_ne (by omega), upI_ne (by omega), upI_ne (by omega)]⟩, by rw [m 7 (by decide) (by decide), ldH_7, if_neg hne], by rw [m 8 (by decide) (by decide), ldH_8, if_neg hne], by rw [m 9 (by decide) (by decide), ldH_9, if_neg hne], by rw [m10, if_neg hne], fun j hj => by rw [m11, if_neg (by omega)]⟩) ?_
  rw [m 7 (by decide) (by decide), ldH_7, if_pos rfl, m10, if_pos rfl]
  refine ⟨up_eq, fun z => absurd z (by decide), fun _ => ⟨by rw [upI_ne (by omega), cpI_ne (by omega), up_eq]; exact g2, ⟨z, hz, g5⟩, fun j hj => ?_⟩, fun z => absurd z (by decide)⟩
  rw [upI_ne (by omega), cpI_self, va_cpy_in (by omega), m11, if_pos (by omega), upI_ne (by omega), upI_ne (by omega), show 0 + (j - 0) = j by omega, show 24 * u + j - 24 * u = j by omega]
  exact g3 j hj
end

theorem sim_lay {sh : List Sh} {mi : MI} {mr : MR} {M : MI} {Mr : MR} (h : REL sh mi mr M Mr) (x y k : Int32) : SimAt sh mi mr M Mr mX11_lay mX12_lay [.int x, .int y, .int k] := by
  obtain ⟨⟨hF, hB, hM⟩, ⟨hT8, hT20⟩, ⟨n, m, p, q, hR, hI⟩, hRI, hP, hG, hU, hW⟩ := id h
  have hn10 := hI.n10
  have hm8 := hI.m8
  have hp6 := hI.p6
  have hq14 := hI.q14
  by_cases hb : inB x 0 4 = true ∧ (y = 0 ∨ y = 3 ∨ (y = 1 ∧ inR k m = true) ∨ (y = 2 ∧ inB k 0 3 = true))
  · obtain ⟨h1, h2⟩ := hb
    obtain ⟨u, hu, rfl⟩ := inB_of (hi := 4) h1
    have hu5 : u < 5 := by omega
    have u1 := (hU u hu5).1
    rcases h2 with rfl | rfl | ⟨rfl, hk⟩ | ⟨rfl, hk⟩
    · have hc := k_lay0 (d := 1199) hF hB hR hI hu5 (k := k)
      rw [u1] at hc
      exact sim_x hc (c_lay0 (d := 1198) hM rfl hI hu5) (fun mi2 M2 g h2 => by subst g h2; exact h.ly03 (th := 0) (Or.inl rfl))
    · have hc := k_lay3 (d := 1199) hF hB hR hI hu5 (k := k)
      rw [u1] at hc
      exact sim_x hc (c_lay3 (d := 1198) hM rfl hI hu5) (fun mi2 M2 g h2 => by subst g h2; exact h.ly03 (th := 3) (Or.inr rfl))
    · obtain ⟨l, hl, rfl⟩ := inR_of hk
      have hc := k_lay1 (d := 1199) hF hB hR hI hu5 hl
      have hm := c_lay1 (d := 1198) hM rfl hI hu5 hl
      rw [u1] at hc
      have ek : knd (M 1) l = nI (kN (M 1) l) := hI.k hl
      rw [ek] at hc hm
      exact sim_x hc hm (fun mi2 M2 g h2 => by subst g h2; exact h.ly1 (hI.k6 hl))
    · obtain ⟨j, hj, rfl⟩ := inB_of (hi := 3) hk
      have hj4 : j < 4 := by omega
      obtain ⟨⟨g1, g2, g3⟩, g4, g5, g6⟩ := hG j hj4
      by_cases hs : M 4 j = -1
      · exact sim_i h (k_lay_none (d := 1199) hF hB hR hI hu5 hj4 (g1.trans hs)) (c_lay_none (d := 1198) hM rfl hI hu5 hj4 (by rw [hs]; decide))
      · have hc := k_lay2 (d := 1199) hF hB hR hI hu5 hj4 (by rw [g1]; exact hs)
        rw [u1] at hc
        exact sim_x hc (c_lay2 (d := 1198) hM rfl hI hu5 hj4 (nlt g4 hs)) (fun mi2 M2 g h2 => by subst g h2; exact h.ly2 hu5 hj4)
  · exact sim_i h (k_lay_bad (d := 1199) hF hB hR hI hb) (c_lay_bad (d := 1198) hM rfl hI hb)

/-- both at their start -/
theorem rel_ini {mr Mr : MR} (hB : CB mr) (hM : MB Mr) (ht : ∀ b, isT b → ∀ t, mr (b + 9) t = none) : REL shC iniI mr (mM0 4) Mr := by
  have i : Inv (mM0 4 1) 0 0 0 0 := ⟨⟨rfl, by decide⟩, ⟨rfl, by decide⟩, ⟨rfl, by decide⟩, ⟨rfl, by decide⟩, fun _ h => absurd h (Nat.not_lt_zero _), fun _ h => absurd h (Nat.not_lt_zero _), fun _ h => absurd h (Nat.not_lt_zero _), fun _ h => absurd h (Nat.not_lt_zero _), by decide⟩
  refine ⟨⟨fun k x h => h, hB, hM⟩, ⟨fun t _ a ha => ?_, fun t _ a ha => ?_⟩, ⟨0, 0, 0, 0, ⟨⟨rfl, rfl, rfl, rfl⟩, ⟨rfl, rfl, rfl, rfl⟩, fun _ h => absurd h (Nat.not_lt_zero _), fun _ h => absurd h (Nat.not_lt_zero _), fun _ h => absurd h (Nat.not_lt_zero _), ?_, fun _ h => absurd h (Nat.not_lt_zero _)⟩, i⟩, ⟨rfl, Or.inl rfl⟩, ⟨rfl, ?_, 0, by decide, rfl⟩, ?_, ?_, ⟨rfl, ?_, 0, by decide, rfl⟩⟩
  · rw [ht 8 (Or.inl rfl) t] at ha; cases ha
  · rw [ht 20 (Or.inr (Or.inl rfl)) t] at ha; cases ha
  · intro k hk
    match k, hk with
    | 0, _ => rfl
    | 1, _ => rfl
    | 2, _ => rfl
  · rfl
  · intro k hk
    match k, hk with
    | 0, _ => exact ⟨⟨rfl, rfl, fun j _ => rfl⟩, Or.inl rfl, ⟨0, by decide, rfl⟩, fun j _ => Or.inr rfl⟩
    | 1, _ => exact ⟨⟨rfl, rfl, fun j _ => rfl⟩, Or.inl rfl, ⟨0, by decide, rfl⟩, fun j _ => Or.inr rfl⟩
    | 2, _ => exact ⟨⟨rfl, rfl, fun j _ => rfl⟩, Or.inl rfl, ⟨0, by decide, rfl⟩, fun j _ => Or.inr rfl⟩
    | 3, _ => exact ⟨⟨rfl, rfl, fun j _ => rfl⟩, Or.inl rfl, ⟨0, by decide, rfl⟩, fun j _ => Or.inr rfl⟩
  · intro u hu
    have e : ∀ u, u < 5 → iniI 61 u = 0 ∧ mM0 4 7 u = 0 := by decide
    obtain ⟨e1, e2⟩ := e u hu
    rw [e1, e2]
    exact ⟨rfl, fun z => absurd z (by decide), fun z => absurd z (by decide), fun z => absurd z (by decide)⟩
  · rfl

