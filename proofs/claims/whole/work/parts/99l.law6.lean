/-! THE LAW: what its start gives -/
theorem inX_all : ∀ (k : Nat) (q : vw_C), cls[k]? = some q → (∀ w ∈ u_ws q.1 q.2.1 q.2.2, w ∈ lw_tbl) ∧ Cond.instantiable q.1 q.2.2 ∈ lw_tbl := by
  intro k q hq
  match k, hq with
  | 0, hq => cases hq; exact ⟨by decide +kernel, iaX0⟩
  | 1, hq => cases hq; exact ⟨by decide +kernel, iaX1⟩
  | 2, hq => cases hq; exact ⟨by decide +kernel, iaX2⟩
  | 3, hq => cases hq; exact ⟨by decide +kernel, iaX3⟩
  | 4, hq => cases hq; exact ⟨by decide +kernel, iaX4⟩
  | 5, hq => cases hq; exact ⟨by decide +kernel, iaX5⟩
  | 6, hq => cases hq; exact ⟨by decide +kernel, iaX6⟩
  | 7, hq => cases hq; exact ⟨by decide +kernel, iaX7⟩
  | 8, hq => cases hq; exact ⟨by decide +kernel, iaX8⟩
  | 9, hq => cases hq; exact ⟨by decide +kernel, iaX9⟩
  | 10, hq => cases hq; exact ⟨by decide +kernel, iaX10⟩
  | 11, hq => cases hq; exact ⟨by decide +kernel, iaX11⟩
  | 12, hq => cases hq; exact ⟨by decide +kernel, iaX12⟩
  | k + 13, hq => simp [cls] at hq
theorem lg_D {s : State} {a : Array Value} (hts : ∀ w ∈ lw_tbl, w.before a s = true) : ∃ D : va_G, ∀ (k : Nat) (q : vw_C), cls[k]? = some q → u_Kn s q.1 q.2.1 q.2.2 (D.1 k) (D.2 k) := by
  have h : ∀ k : Nat, ∃ d : ClassId × (Nat → Nat), ∀ q : vw_C, cls[k]? = some q → u_Kn s q.1 q.2.1 q.2.2 d.1 d.2 := fun k => by
    cases hk : cls[k]? with
    | none => exact ⟨(default, fun _ => 0), fun q h => by cases h⟩
    | some q =>
      obtain ⟨h1, h2⟩ := inX_all k q hk
      obtain ⟨c, iS, h3⟩ := u_known hts h1 (hts _ h2)
      exact ⟨(c, iS), fun q2 h => by cases h; exact h3⟩
  obtain ⟨f, hf⟩ := Classical.axiomOfChoice h
  exact ⟨(fun k => (f k).1, fun k => (f k).2), fun k q hq => hf k q hq⟩
theorem lg_ty {s : State} {a : Array Value} (hts : ∀ w ∈ lw_tbl, w.before a s = true) (h4 : va_AO RX4 s) (h7 : va_AO RX7 s) (h8 : va_AO RX8 s) : ∃ ty : Nat → ClassId, ∀ (k : Nat) (q : ClassId × FieldType), [(ty 0, FieldType.int), (ty 1, .object RX4), (ty 2, .object RX7), (ty 3, .object RX8)][k]? = some q → ArrOfT s q.1 q.2 ∧ va_RA s q.1 q.2 := by
  obtain ⟨c0, k0, p0, a1, a2, a3⟩ := Cond.arrayClass_spec (hts _ ac_int)
  have hob : ∀ C, va_AO C s → ∃ cA, ArrOfT s cA (.object C) ∧ va_RA s cA (.object C) := fun C h => by
    obtain ⟨comp, cA, kA, b1, b2, b3, b4, b5⟩ := Cond.arrayOver_spec h
    exact ⟨cA, fun N z => ⟨(fun k h => by cases h), kA, b3, comp, b4⟩, kA, comp, b3, b4, b1, b5⟩
  obtain ⟨c4, x4⟩ := hob RX4 h4
  obtain ⟨c7, x7⟩ := hob RX7 h7
  obtain ⟨c8, x8⟩ := hob RX8 h8
  refine ⟨fun k => if k = 0 then c0 else if k = 1 then c4 else if k = 2 then c7 else c8, fun k q hq => ?_⟩
  match k, hq with
  | 0, hq => cases hq; exact ⟨fun N z => ⟨(fun k h => by cases h), k0, a2, p0, a3⟩, a1⟩
  | 1, hq => cases hq; exact x4
  | 2, hq => cases hq; exact x7
  | 3, hq => cases hq; exact x8
  | k + 4, hq => simp at hq
