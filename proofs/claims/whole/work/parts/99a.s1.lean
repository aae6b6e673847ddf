theorem Inv.uSv {s : Rw} {n m p q : Nat} (hI : Inv s n m p q) {i : Nat} (hi : i < 6) {v : Int32} (hv : inR v n = true) : Inv (upd s (68 + 2 * i + 0) v) n m p q := by
  obtain ⟨b, hb, rfl⟩ := inR_of hv
  exact hI.uS hi hb

theorem sim_ledge {sh : List Sh} {mi : MI} {mr : MR} {M : MI} {Mr : MR} (h : REL sh mi mr M Mr) (x y : Int32) : SimAt sh mi mr M Mr mX11_ledge mX12_ledge [.int x, .int y] := by
  obtain ⟨⟨hF, hB, hM⟩, ⟨hT8, hT20⟩, ⟨n, m, p, q, hR, hI⟩, hRI, hP, hG, hU, hW⟩ := id h
  have hn10 := hI.n10
  have hm8 := hI.m8
  have hp6 := hI.p6
  have hq14 := hI.q14
  by_cases hb : inB x 0 99 = true ∧ inB y 0 29 = true
  · by_cases hn : n = 10
    · exact sim_i h (k_ledge_full (d := 1199) hF hB hR hI hb.1 hb.2 hn) (c_ledge_full (d := 1198) hM hb.1 hb.2 (by rw [hI.en, hn]; rfl))
    · have hn9 : n < 10 := by omega
      refine sim_x (k_ledge (d := 1199) hF hB hR hI hb.1 hb.2 hn9) (c_ledge (d := 1198) hM hb.1 hb.2 hI.en hn9) (fun mi2 M2 g h2 => by
      subst g h2
      unfold addL
      exact h.town (fun a ha => by rw [upI_ne (by omega), upI_ne (by omega), upI_ne (by omega)]) ((((FrM.rf M).up).up).up) (Or.inl rfl) (by rw [upI_self, upI_self, upI_self]; exact hR.addL hn10 hm8 hp6 (by decide) hn9) (by rw [upI_self, upI_self, upI_self]; exact hI.adL hn9 hb.1 hb.2))
  · exact sim_i h (k_ledge_bad (d := 1199) hF hB hR hI hb) (c_ledge_bad (d := 1198) hM hb)

theorem sim_ledgeTold {sh : List Sh} {mi : MI} {mr : MR} {M : MI} {Mr : MR} (h : REL sh mi mr M Mr) (x y : Int32) : SimAt sh mi mr M Mr mX11_ledgeTold mX12_ledgeTold [.int x, .int y] := by
  obtain ⟨⟨hF, hB, hM⟩, ⟨hT8, hT20⟩, ⟨n, m, p, q, hR, hI⟩, hRI, hP, hG, hU, hW⟩ := id h
  have hn10 := hI.n10
  have hm8 := hI.m8
  have hp6 := hI.p6
  have hq14 := hI.q14
  by_cases hb : inR x n = true ∧ inB y 0 3 = true
  · obtain ⟨b, hbn, rfl⟩ := inR_of hb.1
    obtain ⟨w, hw, rfl⟩ := inB_of (hi := 3) hb.2
    exact sim_i h (k_ledgeTold (d := 1199) hF hB hR hI hbn (by omega)) (c_ledgeTold (d := 1198) hM hI.en hn10 hI.em hm8 hI.ep hp6 hbn (by omega))
  · exact sim_i h (k_ledgeTold_bad (d := 1199) hF hB hR hI hb) (c_ledgeTold_bad (d := 1198) hM hI.en hn10 hb)

theorem sim_change {sh : List Sh} {mi : MI} {mr : MR} {M : MI} {Mr : MR} (h : REL sh mi mr M Mr) (x w v : Int32) : SimAt sh mi mr M Mr mX11_change mX12_change [.int x, .int w, .int v] := by
  obtain ⟨⟨hF, hB, hM⟩, ⟨hT8, hT20⟩, ⟨n, m, p, q, hR, hI⟩, hRI, hP, hG, hU, hW⟩ := id h
  have hn10 := hI.n10
  have hm8 := hI.m8
  have hp6 := hI.p6
  have hq14 := hI.q14
  by_cases h1 : inR x n = true
  · by_cases h0 : w = 0 ∧ inB v 0 99 = true
    · obtain ⟨b, hbn, rfl⟩ := inR_of h1
      obtain ⟨rfl, hv⟩ := h0
      refine sim_x (k_change0 (d := 1199) hF hB hR hI hbn hv) (c_change0 (d := 1198) hM hI.en hn10 hbn hv) (fun mi2 M2 g h2 => by
      subst g h2
      exact h.town (fun a ha => by rw [upI_ne (by omega)]) ((FrM.rf M).up) (Or.inl rfl) (by rw [upI_self]; exact hR.u_hgt hn10 hm8 hp6 (by decide) (by omega)) (by rw [upI_self]; exact hI.uH (by omega) hv))
    · by_cases h2 : w = 1 ∧ inB v 0 29 = true
      · obtain ⟨b, hbn, rfl⟩ := inR_of h1
        obtain ⟨rfl, hv⟩ := h2
        refine sim_x (k_change1 (d := 1199) hF hB hR hI hbn hv) (c_change1 (d := 1198) hM hI.en hn10 hbn hv) (fun mi2 M2 g h2 => by
        subst g h2
        exact h.town (fun a ha => by rw [upI_ne (by omega)]) ((FrM.rf M).up) (Or.inl rfl) (by rw [upI_self]; exact hR.u_plc hn10 hm8 hp6 (by decide) (by omega)) (by rw [upI_self]; exact hI.uP (by omega) hv))
      · have hb : inR x n = true → inB w 0 1 = true → (w = 0 → inB v 0 99 = true → False) ∧ (¬ w = 0 → inB v 0 29 = true → False) := by
          intro _ hw
          obtain ⟨j, hj, rfl⟩ := inB_of (hi := 1) hw
          refine ⟨fun z y => h0 ⟨z, y⟩, fun z y => h2 ⟨?_, y⟩⟩
          rcases Nat.lt_or_ge j 1 with e | e
          · obtain rfl : j = 0 := by omega
            exact absurd rfl z
          · obtain rfl : j = 1 := by omega
            rfl
        exact sim_i h (k_change_bad (d := 1199) hF hB hR hI hb) (c_change_bad (d := 1198) hM hI.en hn10 hb)
  · have hb : inR x n = true → inB w 0 1 = true → (w = 0 → inB v 0 99 = true → False) ∧ (¬ w = 0 → inB v 0 29 = true → False) := fun z => absurd z h1
    exact sim_i h (k_change_bad (d := 1199) hF hB hR hI hb) (c_change_bad (d := 1198) hM hI.en hn10 hb)

theorem sim_seed {sh : List Sh} {mi : MI} {mr : MR} {M : MI} {Mr : MR} (h : REL sh mi mr M Mr) (v : Int32) : SimAt sh mi mr M Mr mX11_seed mX12_seed [.int v] := by
  obtain ⟨⟨hF, hB, hM⟩, ⟨hT8, hT20⟩, ⟨n, m, p, q, hR, hI⟩, hRI, hP, hG, hU, hW⟩ := id h
  have hn10 := hI.n10
  have hm8 := hI.m8
  have hp6 := hI.p6
  have hq14 := hI.q14
  refine sim_x (k_seed (d := 1200) hF hB hR hI) (c_seed (d := 1199) hM) (fun mi2 M2 g h2 => by
      subst g h2
      exact h.town (fun a ha => by rw [upI_ne (by omega)]) ((FrM.rf M).up) (Or.inl rfl) (by rw [upI_self]; exact hR.u_z hn10 hm8 hp6 (by decide)) (by rw [upI_self]; exact hI.up (Or.inr (Or.inl rfl))))

theorem sim_thieves {sh : List Sh} {mi : MI} {mr : MR} {M : MI} {Mr : MR} (h : REL sh mi mr M Mr) (x : Int32) : SimAt sh mi mr M Mr mX11_thieves mX12_thieves [.int x] := by
  obtain ⟨⟨hF, hB, hM⟩, ⟨hT8, hT20⟩, ⟨n, m, p, q, hR, hI⟩, hRI, hP, hG, hU, hW⟩ := id h
  have hn10 := hI.n10
  have hm8 := hI.m8
  have hp6 := hI.p6
  have hq14 := hI.q14
  by_cases hb : inB x 0 100 = true
  · refine sim_x (k_thieves (d := 1200) hF hB hR hI hb) (c_thieves (d := 1198) hM hb) (fun mi2 M2 g h2 => by
      subst g h2
      exact h.town (fun a ha => by rw [upI_ne (by omega)]) ((FrM.rf M).up) (Or.inl rfl) (by rw [upI_self]; exact hR.u_th hn10 hm8 hp6 (by decide)) (by rw [upI_self]; exact hI.thv hb))
  · exact sim_i h (k_thieves_bad (d := 1200) hF hB hR hI hb) (c_thieves_bad (d := 1198) hM hb)

theorem sim_ladder {sh : List Sh} {mi : MI} {mr : MR} {M : MI} {Mr : MR} (h : REL sh mi mr M Mr) (k g f t : Int32) : SimAt sh mi mr M Mr mX11_ladder mX12_ladder [.int k, .int g, .int f, .int t] := by
  obtain ⟨⟨hF, hB, hM⟩, ⟨hT8, hT20⟩, ⟨n, m, p, q, hR, hI⟩, hRI, hP, hG, hU, hW⟩ := id h
  have hn10 := hI.n10
  have hm8 := hI.m8
  have hp6 := hI.p6
  have hq14 := hI.q14
  by_cases hb : inB k 0 5 = true ∧ inB g 1 99 = true ∧ inR f n = true ∧ inR t n = true ∧ ¬ f = t
  · obtain ⟨h1, h2, h3, h4, h5⟩ := hb
    by_cases hm : m = 8
    · exact sim_i h (k_ladder_full (d := 1199) hF hB hR hI h1 h2 h3 h4 h5 hm) (c_ladder_full (d := 1198) hM hI.en hn10 h1 h2 h3 h4 h5 (by rw [hI.em, hm]; rfl))
    · have hm7 : m < 8 := by omega
      refine sim_x (k_ladder (d := 1199) hF hB hR hI h1 h2 h3 h4 h5 hm7) (c_ladder (d := 1198) hM hI.en hn10 h1 h2 h3 h4 h5 hI.em hm7) (fun mi2 M2 g h2 => by
      subst g h2
      unfold addD
      exact h.town (fun a ha => by rw [upI_ne (by omega), upI_ne (by omega), upI_ne (by omega), upI_ne (by omega), upI_ne (by omega)]) (((((((FrM.rf M).up).up).up).up).up).up) (Or.inl rfl) (by rw [upI_self, upI_self, upI_self, upI_self, upI_self, upI_self]; exact hR.addD hn10 hm8 hp6 (by decide) hm7) (by rw [upI_self, upI_self, upI_self, upI_self, upI_self, upI_self]; exact hI.adD hm7 h1 h2 h3 h4))
  · exact sim_i h (k_ladder_bad (d := 1199) hF hB hR hI hb) (c_ladder_bad (d := 1198) hM hI.en hn10 hb)

theorem sim_told {sh : List Sh} {mi : MI} {mr : MR} {M : MI} {Mr : MR} (h : REL sh mi mr M Mr) (x w : Int32) : SimAt sh mi mr M Mr mX11_told mX12_told [.int x, .int w] := by
  obtain ⟨⟨hF, hB, hM⟩, ⟨hT8, hT20⟩, ⟨n, m, p, q, hR, hI⟩, hRI, hP, hG, hU, hW⟩ := id h
  have hn10 := hI.n10
  have hm8 := hI.m8
  have hp6 := hI.p6
  have hq14 := hI.q14
  by_cases hb : inR x m = true ∧ inB w 0 9 = true
  · obtain ⟨l, hl, rfl⟩ := inR_of hb.1
    obtain ⟨j, hj, rfl⟩ := inB_of (hi := 9) hb.2
    exact sim_s h (k_told (d := 1194) hF hB hR hI hl (by omega)) (c_told (d := 1195) hM rfl hI hl (by omega)) (fun M2 z => z.fm)
  · exact sim_i h (k_told_bad (d := 1199) hF hB hR hI hb) (c_told_bad (d := 1198) hM rfl hI hb)

theorem sim_as {sh : List Sh} {mi : MI} {mr : MR} {M : MI} {Mr : MR} (h : REL sh mi mr M Mr) (x w : Int32) : SimAt sh mi mr M Mr mX11_as mX12_as [.int x, .int w] := by
  obtain ⟨⟨hF, hB, hM⟩, ⟨hT8, hT20⟩, ⟨n, m, p, q, hR, hI⟩, hRI, hP, hG, hU, hW⟩ := id h
  have hn10 := hI.n10
  have hm8 := hI.m8
  have hp6 := hI.p6
  have hq14 := hI.q14
  by_cases hb : inR x m = true ∧ inB w 0 5 = true
  · obtain ⟨l, hl, rfl⟩ := inR_of hb.1
    exact sim_i h (k_as (d := 1197) hF hB hR hI hl hb.2) (c_as (d := 1198) hM hI.em hm8 hl hb.2)
  · exact sim_i h (k_as_bad (d := 1199) hF hB hR hI hb) (c_as_bad (d := 1198) hM hI.em hm8 hb)

theorem sim_turns {sh : List Sh} {mi : MI} {mr : MR} {M : MI} {Mr : MR} (h : REL sh mi mr M Mr) (x w : Int32) : SimAt sh mi mr M Mr mX11_turns mX12_turns [.int x, .int w] := by
  obtain ⟨⟨hF, hB, hM⟩, ⟨hT8, hT20⟩, ⟨n, m, p, q, hR, hI⟩, hRI, hP, hG, hU, hW⟩ := id h
  have hn10 := hI.n10
  have hm8 := hI.m8
  have hp6 := hI.p6
  have hq14 := hI.q14
  by_cases hb : inR x m = true ∧ inB w 0 5 = true
  · obtain ⟨l, hl, rfl⟩ := inR_of hb.1
    refine sim_x (k_turns (d := 1199) hF hB hR hI hl hb.2) (c_turns (d := 1198) hM hI.em hm8 hl hb.2) (fun mi2 M2 g h2 => by
      subst g h2
      exact h.town (fun a ha => by rw [upI_ne (by omega)]) ((FrM.rf M).up) (Or.inl rfl) (by rw [upI_self]; exact hR.u_knd hn10 hm8 hp6 (by decide) (by omega)) (by rw [upI_self]; exact hI.uK (by omega) hb.2))
  · exact sim_i h (k_turns_bad (d := 1199) hF hB hR hI hb) (c_turns_bad (d := 1198) hM hI.em hm8 hb)

theorem sim_cut {sh : List Sh} {mi : MI} {mr : MR} {M : MI} {Mr : MR} (h : REL sh mi mr M Mr) (x w : Int32) : SimAt sh mi mr M Mr mX11_cut mX12_cut [.int x, .int w] := by
  obtain ⟨⟨hF, hB, hM⟩, ⟨hT8, hT20⟩, ⟨n, m, p, q, hR, hI⟩, hRI, hP, hG, hU, hW⟩ := id h
  have hn10 := hI.n10
  have hm8 := hI.m8
  have hp6 := hI.p6
  have hq14 := hI.q14
  by_cases hb : inR x m = true ∧ inB w 1 99 = true
  · obtain ⟨l, hl, rfl⟩ := inR_of hb.1
    refine sim_x (k_cut (d := 1199) hF hB hR hI hl hb.2) (c_cut (d := 1198) hM hI.em hm8 hl hb.2) (fun mi2 M2 g h2 => by
      subst g h2
      exact h.town (fun a ha => by rw [upI_ne (by omega)]) ((FrM.rf M).up) (Or.inl rfl) (by rw [upI_self]; exact hR.u_lng hn10 hm8 hp6 (by decide) (by omega)) (by rw [upI_self]; exact hI.uL (by omega) hb.2))
  · exact sim_i h (k_cut_bad (d := 1199) hF hB hR hI hb) (c_cut_bad (d := 1198) hM hI.em hm8 hb)

theorem sim_needs {sh : List Sh} {mi : MI} {mr : MR} {M : MI} {Mr : MR} (h : REL sh mi mr M Mr) (x y : Int32) : SimAt sh mi mr M Mr mX11_needs mX12_needs [.int x, .int y] := by
  obtain ⟨⟨hF, hB, hM⟩, ⟨hT8, hT20⟩, ⟨n, m, p, q, hR, hI⟩, hRI, hP, hG, hU, hW⟩ := id h
  have hn10 := hI.n10
  have hm8 := hI.m8
  have hp6 := hI.p6
  have hq14 := hI.q14
  by_cases hb : inR x n = true ∧ inR y n = true ∧ ¬ x = y
  · obtain ⟨h1, h2, h3⟩ := hb
    obtain ⟨a, ha, rfl⟩ := inR_of h1
    obtain ⟨b, hb, rfl⟩ := inR_of h2
    have hab : a ≠ b := fun z => h3 (by rw [z])
    exact sim_s h (k_needs (d := 1196) hF hB hR hI ha hb hab) (c_needs (d := 1197) hM rfl hI ha hb hab) (fun M2 z => z.fm)
  · exact sim_i h (k_needs_bad (d := 1199) hF hB hR hI hb) (c_needs_bad (d := 1198) hM rfl hI hb)

theorem sim_person {sh : List Sh} {mi : MI} {mr : MR} {M : MI} {Mr : MR} (h : REL sh mi mr M Mr) (x w : Int32) : SimAt sh mi mr M Mr mX11_person mX12_person [.int x, .int w] := by
  obtain ⟨⟨hF, hB, hM⟩, ⟨hT8, hT20⟩, ⟨n, m, p, q, hR, hI⟩, hRI, hP, hG, hU, hW⟩ := id h
  have hn10 := hI.n10
  have hm8 := hI.m8
  have hp6 := hI.p6
  have hq14 := hI.q14
  by_cases hb : inR x n = true ∧ inB w 0 99 = true
  · by_cases hp : p = 6
    · exact sim_i h (k_person_full (d := 1199) hF hB hR hI hb.1 hb.2 hp) (c_person_full (d := 1198) hM hI.en hn10 hb.1 hb.2 (by rw [hI.ep, hp]; rfl))
    · have hp5 : p < 6 := by omega
      refine sim_x (k_person (d := 1199) hF hB hR hI hb.1 hb.2 hp5) (c_person (d := 1198) hM hI.en hn10 hb.1 hb.2 hI.ep hp5) (fun mi2 M2 g h2 => by
      subst g h2
      unfold addP
      exact h.town (fun a ha => by rw [upI_ne (by omega), upI_ne (by omega), upI_ne (by omega)]) ((((FrM.rf M).up).up).up) (Or.inl rfl) (by rw [upI_self, upI_self, upI_self]; exact hR.addP hn10 hm8 hp6 (by decide) hp5) (by rw [upI_self, upI_self, upI_self]; exact hI.adP hp5 hb.1 hb.2))
  · exact sim_i h (k_person_bad (d := 1199) hF hB hR hI hb) (c_person_bad (d := 1198) hM hI.en hn10 hb)

theorem sim_personTold {sh : List Sh} {mi : MI} {mr : MR} {M : MI} {Mr : MR} (h : REL sh mi mr M Mr) (x w : Int32) : SimAt sh mi mr M Mr mX11_personTold mX12_personTold [.int x, .int w] := by
  obtain ⟨⟨hF, hB, hM⟩, ⟨hT8, hT20⟩, ⟨n, m, p, q, hR, hI⟩, hRI, hP, hG, hU, hW⟩ := id h
  have hn10 := hI.n10
  have hm8 := hI.m8
  have hp6 := hI.p6
  have hq14 := hI.q14
  by_cases hb : inR x p = true ∧ inB w 0 1 = true
  · obtain ⟨i, hi, rfl⟩ := inR_of hb.1
    obtain ⟨j, hj, rfl⟩ := inB_of (hi := 1) hb.2
    exact sim_i h (k_personTold (d := 1199) hF hB hR hI hi (by omega)) (c_personTold (d := 1198) hM hI.ep hp6 hi (by omega))
  · exact sim_i h (k_personTold_bad (d := 1199) hF hB hR hI hb) (c_personTold_bad (d := 1198) hM hI.ep hp6 hb)

theorem sim_set {sh : List Sh} {mi : MI} {mr : MR} {M : MI} {Mr : MR} (h : REL sh mi mr M Mr) (x w v : Int32) : SimAt sh mi mr M Mr mX11_set mX12_set [.int x, .int w, .int v] := by
  obtain ⟨⟨hF, hB, hM⟩, ⟨hT8, hT20⟩, ⟨n, m, p, q, hR, hI⟩, hRI, hP, hG, hU, hW⟩ := id h
  have hn10 := hI.n10
  have hm8 := hI.m8
  have hp6 := hI.p6
  have hq14 := hI.q14
  by_cases hb : inR x p = true ∧ ((w = 0 ∧ inR v n = true) ∨ (w = 1 ∧ inB v 0 99 = true))
  · obtain ⟨h1, h2⟩ := hb
    obtain ⟨i, hi, rfl⟩ := inR_of h1
    rcases h2 with ⟨rfl, hv⟩ | ⟨rfl, hv⟩
    · refine sim_x (k_set0 (d := 1199) hF hB hR hI hi hv) (c_set0 (d := 1198) hM rfl hI hi hv) (fun mi2 M2 g h2 => by
      subst g h2
      exact h.town (fun a ha => by rw [upI_ne (by omega)]) ((FrM.rf M).up) (Or.inl rfl) (by rw [upI_self]; exact hR.u_spt hn10 hm8 hp6 (by decide) (by omega)) (by rw [upI_self]; exact hI.uSv (by omega) hv))
    · refine sim_x (k_set1 (d := 1199) hF hB hR hI hi hv) (c_set1 (d := 1198) hM rfl hI hi hv) (fun mi2 M2 g h2 => by
      subst g h2
      exact h.town (fun a ha => by rw [upI_ne (by omega)]) ((FrM.rf M).up) (Or.inl rfl) (by rw [upI_self]; exact hR.u_stg hn10 hm8 hp6 (by decide) (by omega)) (by rw [upI_self]; exact hI.uG (by omega) hv))
  · exact sim_i h (k_set_bad (d := 1199) hF hB hR hI hb) (c_set_bad (d := 1198) hM rfl hI hb)

theorem sim_may {sh : List Sh} {mi : MI} {mr : MR} {M : MI} {Mr : MR} (h : REL sh mi mr M Mr) (x y : Int32) : SimAt sh mi mr M Mr mX11_may mX12_may [.int x, .int y] := by
  obtain ⟨⟨hF, hB, hM⟩, ⟨hT8, hT20⟩, ⟨n, m, p, q, hR, hI⟩, hRI, hP, hG, hU, hW⟩ := id h
  have hn10 := hI.n10
  have hm8 := hI.m8
  have hp6 := hI.p6
  have hq14 := hI.q14
  by_cases hb : inR x p = true ∧ inR y m = true
  · obtain ⟨i, hi, rfl⟩ := inR_of hb.1
    obtain ⟨l, hl, rfl⟩ := inR_of hb.2
    exact sim_s h (k_may (d := 1194) hF hB hR hI hi hl) (c_may (d := 1195) hM rfl hI hi hl) (fun M2 z => z.fm)
  · exact sim_i h (k_may_bad (d := 1199) hF hB hR hI hb) (c_may_bad (d := 1198) hM rfl hI hb)

theorem sim_way {sh : List Sh} {mi : MI} {mr : MR} {M : MI} {Mr : MR} (h : REL sh mi mr M Mr) (x y w : Int32) : SimAt sh mi mr M Mr mX11_way mX12_way [.int x, .int y, .int w] := by
  obtain ⟨⟨hF, hB, hM⟩, ⟨hT8, hT20⟩, ⟨n, m, p, q, hR, hI⟩, hRI, hP, hG, hU, hW⟩ := id h
  have hn10 := hI.n10
  have hm8 := hI.m8
  have hp6 := hI.p6
  have hq14 := hI.q14
  by_cases hb : inR x n = true ∧ inR y n = true ∧ inB w 0 2 = true
  · obtain ⟨h1, h2, h3⟩ := hb
    obtain ⟨a, ha, rfl⟩ := inR_of h1
    obtain ⟨b, hb, rfl⟩ := inR_of h2
    exact sim_w h (k_way (d := 1193) hF hB hR hI ha hb h3) (c_way (d := 1194) hM rfl hI ha hb h3) (fun M2 z => z.fm)
  · exact sim_i h (k_way_bad (d := 1199) hF hB hR hI hb) (c_way_bad (d := 1198) hM rfl hI hb)

theorem sim_reached {sh : List Sh} {mi : MI} {mr : MR} {M : MI} {Mr : MR} (h : REL sh mi mr M Mr) (x : Int32) : SimAt sh mi mr M Mr mX11_reached mX12_reached [.int x] := by
  obtain ⟨⟨hF, hB, hM⟩, ⟨hT8, hT20⟩, ⟨n, m, p, q, hR, hI⟩, hRI, hP, hG, hU, hW⟩ := id h
  have hn10 := hI.n10
  have hm8 := hI.m8
  have hp6 := hI.p6
  have hq14 := hI.q14
  by_cases hb : inR x n = true
  · obtain ⟨a, ha, rfl⟩ := inR_of hb
    exact sim_w h (k_reached (d := 1193) hF hB hR hI ha) (c_reached (d := 1194) hM rfl hI ha) (fun M2 z => z.fm)
  · exact sim_i h (k_reached_bad (d := 1199) hF hB hR hI hb) (c_reached_bad (d := 1198) hM rfl hI hb)

theorem sim_needed {sh : List Sh} {mi : MI} {mr : MR} {M : MI} {Mr : MR} (h : REL sh mi mr M Mr) (x y : Int32) : SimAt sh mi mr M Mr mX11_needed mX12_needed [.int x, .int y] := by
  obtain ⟨⟨hF, hB, hM⟩, ⟨hT8, hT20⟩, ⟨n, m, p, q, hR, hI⟩, hRI, hP, hG, hU, hW⟩ := id h
  have hn10 := hI.n10
  have hm8 := hI.m8
  have hp6 := hI.p6
  have hq14 := hI.q14
  by_cases hb : inR x n = true ∧ inR y n = true
  · obtain ⟨a, ha, rfl⟩ := inR_of hb.1
    obtain ⟨b, hb2, rfl⟩ := inR_of hb.2
    exact sim_w h (k_needed (d := 1193) hF hB hR hI ha hb2) (c_needed (d := 1194) hM rfl hI ha hb2) (fun M2 z => z.fm)
  · exact sim_i h (k_needed_bad (d := 1199) hF hB hR hI hb) (c_needed_bad (d := 1198) hM rfl hI hb)

theorem sim_meeting {sh : List Sh} {mi : MI} {mr : MR} {M : MI} {Mr : MR} (h : REL sh mi mr M Mr) : SimAt sh mi mr M Mr mX11_meeting mX12_meeting [] := by
  obtain ⟨⟨hF, hB, hM⟩, ⟨hT8, hT20⟩, ⟨n, m, p, q, hR, hI⟩, hRI, hP, hG, hU, hW⟩ := id h
  have hn10 := hI.n10
  have hm8 := hI.m8
  have hp6 := hI.p6
  have hq14 := hI.q14
  exact sim_y (G := fun _ mi2 mr2 => (mr2 = mr ∨ mr2 = upR mr 44 0 (some 8)) ∧ WF mi mi2) (k_meeting (d := 1193) hF hB hR hI) (c_meeting (d := 1194) hM rfl hI) (fun mi2 mr2 M2 g h2 => h.ask g.2 h2.fm.1 h2.fm.2 g.1)

theorem sim_above {sh : List Sh} {mi : MI} {mr : MR} {M : MI} {Mr : MR} (h : REL sh mi mr M Mr) : SimAt sh mi mr M Mr mX11_above mX12_above [] := by
  obtain ⟨⟨hF, hB, hM⟩, ⟨hT8, hT20⟩, ⟨n, m, p, q, hR, hI⟩, hRI, hP, hG, hU, hW⟩ := id h
  have hn10 := hI.n10
  have hm8 := hI.m8
  have hp6 := hI.p6
  have hq14 := hI.q14
  exact sim_y (G := fun _ mi2 mr2 => (mr2 = mr ∨ mr2 = upR mr 44 0 (some 8)) ∧ WF mi mi2) (k_above (d := 1193) hF hB hR hI) (c_above (d := 1194) hM rfl hI) (fun mi2 mr2 M2 g h2 => h.ask g.2 h2.fm.1 h2.fm.2 g.1)

theorem sim_fewest {sh : List Sh} {mi : MI} {mr : MR} {M : MI} {Mr : MR} (h : REL sh mi mr M Mr) (x y : Int32) : SimAt sh mi mr M Mr mX11_fewest mX12_fewest [.int x, .int y] := by
  obtain ⟨⟨hF, hB, hM⟩, ⟨hT8, hT20⟩, ⟨n, m, p, q, hR, hI⟩, hRI, hP, hG, hU, hW⟩ := id h
  have hn10 := hI.n10
  have hm8 := hI.m8
  have hp6 := hI.p6
  have hq14 := hI.q14
  by_cases hb : inR x p = true ∧ inR y n = true
  · obtain ⟨i, hi, rfl⟩ := inR_of hb.1
    obtain ⟨g, hg, rfl⟩ := inR_of hb.2
    exact sim_w h (k_fewest (d := 1192) hF hB hR hI hi hg) (c_fewest (d := 1192) hM rfl hI hi hg) (fun M2 z => z.fm)
  · exact sim_i h (k_fewest_bad (d := 1199) hF hB hR hI hb) (c_fewest_bad (d := 1198) hM rfl hI hb)

theorem sim_help {sh : List Sh} {mi : MI} {mr : MR} {M : MI} {Mr : MR} (h : REL sh mi mr M Mr) (w : Int32) : SimAt sh mi mr M Mr mX11_help mX12_help [.int w] := by
  obtain ⟨⟨hF, hB, hM⟩, ⟨hT8, hT20⟩, ⟨n, m, p, q, hR, hI⟩, hRI, hP, hG, hU, hW⟩ := id h
  have hn10 := hI.n10
  have hm8 := hI.m8
  have hp6 := hI.p6
  have hq14 := hI.q14
  by_cases hb : inB w 0 2 = true
  · by_cases hn0 : n = 0
    · exact sim_i h (k_help_none (d := 1199) hF hB hR hI hb hn0) (c_help_none (d := 1198) hM rfl hI hb hn0)
    · exact sim_w h (k_help (d := 1193) hF hB hR hI hb (by omega)) (c_help (d := 1193) hM rfl hI hb (by omega)) (fun M2 z => z.fm)
  · exact sim_i h (k_help_bad (d := 1199) hF hB hR hI hb) (c_help_bad (d := 1198) hM rfl hI hb)

theorem sim_textTold {sh : List Sh} {mi : MI} {mr : MR} {M : MI} {Mr : MR} (h : REL sh mi mr M Mr) (x w : Int32) : SimAt sh mi mr M Mr mX11_textTold mX12_textTold [.int x, .int w] := by
  obtain ⟨⟨hF, hB, hM⟩, ⟨hT8, hT20⟩, ⟨n, m, p, q, hR, hI⟩, hRI, hP, hG, hU, hW⟩ := id h
  have hn10 := hI.n10
  have hm8 := hI.m8
  have hp6 := hI.p6
  have hq14 := hI.q14
  by_cases hb : inR x q = true ∧ inB w 0 1 = true
  · obtain ⟨t, ht, rfl⟩ := inR_of hb.1
    obtain ⟨j, hj, rfl⟩ := inB_of (hi := 1) hb.2
    exact sim_i h (k_textTold (d := 1199) hF hB hR hI ht (by omega)) (c_textTold (d := 1198) hM rfl hI ht (by omega))
  · exact sim_i h (k_textTold_bad (d := 1199) hF hB hR hI hb) (c_textTold_bad (d := 1198) hM rfl hI hb)

theorem sim_why {sh : List Sh} {mi : MI} {mr : MR} {M : MI} {Mr : MR} (h : REL sh mi mr M Mr) (x : Int32) : SimAt sh mi mr M Mr mX11_why mX12_why [.int x] := by
  obtain ⟨⟨hF, hB, hM⟩, ⟨hT8, hT20⟩, ⟨n, m, p, q, hR, hI⟩, hRI, hP, hG, hU, hW⟩ := id h
  have hn10 := hI.n10
  have hm8 := hI.m8
  have hp6 := hI.p6
  have hq14 := hI.q14
  by_cases hb : inB x 0 2 = true
  · exact sim_i h (k_why (d := 1199) hF hB hR hI hb) (c_why (d := 1198) hM rfl hI hb)
  · exact sim_i h (k_why_bad (d := 1199) hF hB hR hI hb) (c_why_bad (d := 1198) hM rfl hI hb)

