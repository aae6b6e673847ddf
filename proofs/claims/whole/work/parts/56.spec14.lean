section
variable {tp at_ : Nat} {T : Rw} {key : Int32} {m0 mi : MI} {p : PS}
def KpP (p p2 : PS) : Prop := PS.tn p2 = PS.tn p ∧ PS.dp p2 = PS.dp p
theorem KpP.tr {a b c : PS} (h : KpP a b) (h2 : KpP b c) : KpP a c := ⟨h2.1.trans h.1, h2.2.trans h.2⟩
theorem KpP.le {a b : PS} (h : KpP a b) (h2 : PS.tn a ≤ 8 ∧ PS.dp a ≤ 8) : PS.tn b ≤ 8 ∧ PS.dp b ≤ 8 := by rw [h.1, h.2]; exact h2
theorem thn_t {r : Option (Bool × PS)} {g : PS → Option (Bool × PS)} {p2 : PS} (h : thn r g = some (true, p2)) : ∃ p1, r = some (true, p1) ∧ g p1 = some (true, p2) := by
  rcases thn_c h with ⟨p1, _, h2⟩ | h2
  · cases h2
  · exact h2
theorem pd_keep : ∀ (f code : Nat) (p p2 : PS), pd tp T key f code p = some (true, p2) → KpP p p2
  | 0, _, _, _, h => by cases h
  | f + 1, 0, p, p2, h => by
    rw [pd_0] at h
    split at h
    · obtain ⟨-, rfl⟩ := Prod.mk.inj (Option.some.inj h); exact ⟨rfl, rfl⟩
    · split at h
      · obtain ⟨-, rfl⟩ := Prod.mk.inj (Option.some.inj h); exact ⟨rfl, rfl⟩
      · split at h
        · obtain ⟨p1, h1, h2⟩ := thn_t h
          have h3 := pd_keep f 0 _ _ h1
          obtain ⟨-, rfl⟩ := Prod.mk.inj (Option.some.inj h2)
          refine ⟨?_, h3.2⟩
          show PS.tn p1 - 1 = PS.tn p
          rw [h3.1]
          rfl
        · split at h
          · obtain ⟨p1, h1, h2⟩ := thn_t h
            have h3 := pd_keep f 8 _ _ h1
            split at h2
            · obtain ⟨-, rfl⟩ := Prod.mk.inj (Option.some.inj h2)
              refine ⟨h3.1, ?_⟩
              show PS.dp p1 - 1 = PS.dp p
              rw [h3.2]
              rfl
            · cases h2
          · cases h
  | f + 1, 1, p, p2, h => by
    rw [pd_1] at h
    obtain ⟨p1, h1, h2⟩ := thn_t h
    have ka := pd_keep f 0 _ _ h1
    have kb := pd_keep f 2 _ _ h2
    exact ⟨kb.1.trans ka.1, kb.2.trans ka.2⟩
  | f + 1, 2, p, p2, h => by
    rw [pd_2] at h
    split at h
    · obtain ⟨p1, h1, h2⟩ := thn_t h
      have ka := pd_keep f 0 _ _ h1
      have kb := pd_keep f 2 _ _ h2
      exact ⟨kb.1.trans ka.1, kb.2.trans ka.2⟩
    · obtain ⟨-, rfl⟩ := Prod.mk.inj (Option.some.inj h); exact ⟨rfl, rfl⟩
  | f + 1, 3, p, p2, h => by
    rw [pd_3] at h
    obtain ⟨p1, h1, h2⟩ := thn_t h
    have ka := pd_keep f 1 _ _ h1
    have kb := pd_keep f 4 _ _ h2
    exact ⟨kb.1.trans ka.1, kb.2.trans ka.2⟩
  | f + 1, 4, p, p2, h => by
    rw [pd_4] at h
    split at h
    · obtain ⟨p1, h1, h2⟩ := thn_t h
      have ka := pd_keep f 1 _ _ h1
      have kb := pd_keep f 4 _ _ h2
      exact ⟨kb.1.trans ka.1, kb.2.trans ka.2⟩
    · obtain ⟨-, rfl⟩ := Prod.mk.inj (Option.some.inj h); exact ⟨rfl, rfl⟩
  | f + 1, 5, p, p2, h => by
    rw [pd_5] at h
    obtain ⟨p1, h1, h2⟩ := thn_t h
    split at h2
    · obtain ⟨p3, h3, h4⟩ := thn_t h2
      obtain ⟨-, rfl⟩ := Prod.mk.inj (Option.some.inj h4)
      have ka := pd_keep f 3 _ _ h1
      have kb := pd_keep f 3 _ _ h3
      exact ⟨kb.1.trans ka.1, kb.2.trans ka.2⟩
    · obtain ⟨-, rfl⟩ := Prod.mk.inj (Option.some.inj h2)
      exact pd_keep f 3 _ _ h1
  | f + 1, 6, p, p2, h => by
    rw [pd_6] at h
    obtain ⟨p1, h1, h2⟩ := thn_t h
    have ka := pd_keep f 5 _ _ h1
    have kb := pd_keep f 7 _ _ h2
    exact ⟨kb.1.trans ka.1, kb.2.trans ka.2⟩
  | f + 1, 7, p, p2, h => by
    rw [pd_7] at h
    split at h
    · obtain ⟨p1, h1, h2⟩ := thn_t h
      have ka := pd_keep f 5 _ _ h1
      have kb := pd_keep f 7 _ _ h2
      exact ⟨kb.1.trans ka.1, kb.2.trans ka.2⟩
    · obtain ⟨-, rfl⟩ := Prod.mk.inj (Option.some.inj h); exact ⟨rfl, rfl⟩
  | f + 1, 8, p, p2, h => by
    rw [pd_8] at h
    obtain ⟨p1, h1, h2⟩ := thn_t h
    have ka := pd_keep f 6 _ _ h1
    have kb := pd_keep f 9 _ _ h2
    exact ⟨kb.1.trans ka.1, kb.2.trans ka.2⟩
  | f + 1, n + 9, p, p2, h => by
    have h : (if sgnB p 124 = true then thn (pd tp T key f 6 (nxP tp T p)) (fun p2 => pd tp T key f 9 (emP 2 124 p2)) else some (true, p)) = some (true, p2) := h
    split at h
    · obtain ⟨p1, h1, h2⟩ := thn_t h
      have ka := pd_keep f 6 _ _ h1
      have kb := pd_keep f 9 _ _ h2
      exact ⟨kb.1.trans ka.1, kb.2.trans ka.2⟩
    · obtain ⟨-, rfl⟩ := Prod.mk.inj (Option.some.inj h); exact ⟨rfl, rfl⟩
theorem PM.fld {j : Nat} {v : Int32} {p2 : PS} (h : PM m0 mi tp at_ p) (hj : j = 23 ∨ j = 24 ∨ j = 27) (h1 : p2.1 = p.1) (h2 : p2.2.1 = p.2.1) (e3 : (if j = 23 then v else nI (PS.dp p)) = nI (PS.dp p2)) (e4 : (if j = 24 then v else nI (PS.tn p)) = nI (PS.tn p2)) (e7 : (if j = 27 then v else nI (PS.sd p)) = nI (PS.sd p2)) : PM m0 (upI mi 0 j v) tp at_ p2 := by
  obtain ⟨a1, a2, ⟨a3, a4⟩, ⟨c1, c2, c3, c4, c5⟩, ⟨b1, b2, b3, b4⟩, a6⟩ := h
  have ht : PS.t p2 = PS.t p := h1
  have ho : PS.o p2 = PS.o p := h2
  have hz : ∀ i, i ≠ j → upI mi 0 j v 0 i = mi 0 i := fun i hi => up_ne hi
  unfold PM
  rw [ht, ho]
  refine ⟨fun a x y => by rw [upI_ne x]; exact a1 a x y, by rw [upI_ne (by decide)]; exact a2, ⟨(hz _ (by omega)).trans a3, (hz _ (by omega)).trans a4⟩, ⟨(hz _ (by omega)).trans c1, (hz _ (by omega)).trans c2, (hz _ (by omega)).trans c3, fun z => (hz _ (by omega)).trans (c4 z), fun z => (hz _ (by omega)).trans (c5 z)⟩, ⟨?_, ?_, (hz _ (by omega)).trans b3, ?_⟩, fun i hi => (hz _ (by omega)).trans (a6 i hi)⟩
  · rw [← e3]
    by_cases hq : j = 23
    · subst hq; rw [up_eq, if_pos rfl]
    · rw [if_neg hq, up_ne (Ne.symm hq)]; exact b1
  · rw [← e4]
    by_cases hq : j = 24
    · subst hq; rw [up_eq, if_pos rfl]
    · rw [if_neg hq, up_ne (Ne.symm hq)]; exact b2
  · rw [← e7]
    by_cases hq : j = 27
    · subst hq; rw [up_eq, if_pos rfl]
    · rw [if_neg hq, up_ne (Ne.symm hq)]; exact b4
theorem PM.s (h : PM m0 mi tp at_ p) : PM m0 (upI mi 0 27 (nI (PS.sd p) + 1)) tp at_ (sdP p) := h.fld (Or.inr (Or.inr rfl)) rfl rfl rfl rfl (by rw [if_pos rfl, ← nI_succ]; rfl)
theorem PM.d {x : Nat} (h : PM m0 mi tp at_ p) : PM m0 (upI mi 0 23 (nI x)) tp at_ (dpP x p) := h.fld (Or.inl rfl) rfl rfl rfl rfl rfl
theorem PM.u {x : Nat} (h : PM m0 mi tp at_ p) : PM m0 (upI mi 0 24 (nI x)) tp at_ (tnP x p) := h.fld (Or.inr (Or.inl rfl)) rfl rfl rfl rfl rfl
end
