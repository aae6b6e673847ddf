/-! THE LAW: two worlds in one heap -/
theorem wld_in {E : WE} {sh : List Sh} {mi : MI} {mr : MR} {k : Nat} {q : Nat × va_E} (h : (wld E sh mi mr)[k]? = some q) : k < sh.length ∧ q = (E.1 k, cellE E mi mr k (sh.getD k (0, 0))) := by
  unfold wld at h
  rw [List.getElem?_map] at h
  rcases Nat.lt_or_ge k sh.length with z | z
  · rw [List.getElem?_range z] at h
    exact ⟨z, (Option.some.inj h).symm⟩
  · rw [List.getElem?_eq_none (by simpa using z)] at h
    cases h
theorem wld_M {g : LG} {a0 h h2 : Nat} {M : MI} {Mr : MR} (hM : MB Mr) : wld (EM g a0 h2) shM M Mr = wld (EM g a0 h) shM M Mr := by
  have e1 : ∀ k, k < 19 → phM a0 h2 k = phM a0 h k := fun k hk => by unfold phM; rw [if_pos hk, if_pos hk]
  have e2 : ∀ i, i < 34 → rfd 12 i = true → (Mr 0 i).map (phM a0 h2) = (Mr 0 i).map (phM a0 h) := fun i hi hr => by
    have hb : ∃ b, mtab i = some b ∧ b < 19 := (by decide : ∀ i, i < 34 → rfd 12 i = true → ∃ b, mtab i = some b ∧ b < 19) i hi hr
    obtain ⟨b, h1, h2'⟩ := hb
    rw [hM i b h1]
    show some _ = some _
    rw [e1 b h2']
  unfold wld
  refine List.map_congr_left (fun k hk => ?_)
  have hk : k < 19 := List.mem_range.mp hk
  show (phM a0 h2 k, cellE (EM g a0 h2) M Mr k (shM.getD k (0, 0))) = (phM a0 h k, cellE (EM g a0 h) M Mr k (shM.getD k (0, 0)))
  rw [e1 k hk]
  congr 1
  by_cases h0 : k = 0
  · subst h0
    show (Sum.inr (12, fld (EM g a0 h2) M Mr 0 12 34) : va_E) = Sum.inr (12, fld (EM g a0 h) M Mr 0 12 34)
    unfold fld
    congr 2
    refine List.map_congr_left (fun i hi => ?_)
    have hi : i < 34 := List.mem_range.mp hi
    by_cases hr : rfd 12 i = true
    · rw [if_pos hr, if_pos hr]
      show va_rf ((Mr 0 i).map (phM a0 h2)) = va_rf ((Mr 0 i).map (phM a0 h))
      rw [e2 i hi hr]
    · rw [if_neg hr, if_neg hr]
  · have hs : ∀ k, k < 19 → k ≠ 0 → (shM.getD k (0, 0)).1 = 0 := by decide
    have := hs k hk h0
    unfold cellE
    rw [this]
    rfl
/-- the two worlds in the law's heap -/
def LSt (g : LG) (a0 : Nat) (H : Heap) (sh : List Sh) (mi : MI) (mr : MR) (M : MI) (Mr : MR) : Prop := 76 ≤ sh.length ∧ H.size = a0 + 19 + sh.length ∧ va_P g.2.2.2 cls (wld (EC g a0) sh mi mr) H ∧ va_P g.2.2.2 cls (wld (EM g a0 H.size) shM M Mr) H ∧ MB Mr
theorem LSt.c {g : LG} {a0 : Nat} {H H1 : Heap} {sh sh2 : List Sh} {mi mi2 : MI} {mr mr2 : MR} {M : MI} {Mr : MR} (h : LSt g a0 H sh mi mr M Mr) (hn : sh.length ≤ sh2.length) (hz : H1.size = a0 + 19 + sh2.length) (hP : va_P g.2.2.2 cls (wld (EC g a0) sh2 mi2 mr2) H1) (hk : ∀ q : Nat, q < H.size → ¬ rng (EC g a0) q → H1[q]? = H[q]?) : LSt g a0 H1 sh2 mi2 mr2 M Mr := by
  obtain ⟨h1, h2, h3, h4, h5⟩ := h
  refine ⟨by omega, hz, hP, ?_, h5⟩
  rw [wld_M (h := H.size) h5]
  refine h4.kept (fun k q hq => ?_)
  obtain ⟨hk2, rfl⟩ := wld_in hq
  have hk2 : k < 19 := hk2
  have e : (EM g a0 H.size).1 k = a0 + 76 + k := by show phM a0 H.size k = _; unfold phM; rw [if_pos hk2]
  show H1[(EM g a0 H.size).1 k]? = H[(EM g a0 H.size).1 k]?
  rw [e]
  exact hk _ (by omega) (fun z => (rng_C z).2 (by omega))
theorem LSt.m {g : LG} {a0 : Nat} {H H1 : Heap} {sh : List Sh} {mi : MI} {mr : MR} {M M2 : MI} {Mr : MR} (h : LSt g a0 H sh mi mr M Mr) (hz : H1.size = H.size - 19 + 19) (hP : va_P g.2.2.2 cls (wld (EM g a0 H.size) shM M2 Mr) H1) (hk : ∀ q : Nat, q < H.size → ¬ rng (EM g a0 H.size) q → H1[q]? = H[q]?) : LSt g a0 H1 sh mi mr M2 Mr := by
  obtain ⟨h1, h2, h3, h4, h5⟩ := h
  have hz2 : H1.size = H.size := by omega
  refine ⟨h1, by rw [hz2]; exact h2, ?_, by rw [hz2]; exact hP, h5⟩
  refine h3.kept (fun k q hq => ?_)
  obtain ⟨hk2, rfl⟩ := wld_in hq
  show H1[phC a0 k]? = H[phC a0 k]?
  have e : phC a0 k < H.size ∧ ¬ (a0 + 76 ≤ phC a0 k ∧ phC a0 k < a0 + 95) := by unfold phC; split <;> omega
  exact hk _ e.1 (fun z => by have := (rng_M (by omega) z).2; omega)
