abbrev Ste : Type := Int32 × Int32
/-- token, steps laid, said, deep, turned -/
abbrev PS : Type := Tok × List Ste × Nat × Nat × Nat
def PS.t (p : PS) : Tok := p.1
def PS.o (p : PS) : List Ste := p.2.1
def PS.sd (p : PS) : Nat := p.2.2.1
def PS.dp (p : PS) : Nat := p.2.2.2.1
def PS.tn (p : PS) : Nat := p.2.2.2.2
def sgnB (p : PS) (c : Int32) : Bool := decide (Tok.k (PS.t p) = 3) && decide (Tok.le (PS.t p) = c)
def nxP (tp : Nat) (T : Rw) (p : PS) : PS := (nxT tp T (Tok.e (PS.t p)) (Tok.k (PS.t p)), p.2)
def emP (w v : Int32) (p : PS) : PS := (p.1, p.2.1 ++ [(w, v)], p.2.2)
def sdP (p : PS) : PS := (p.1, p.2.1, p.2.2.1 + 1, p.2.2.2)
def dpP (x : Nat) (p : PS) : PS := (p.1, p.2.1, p.2.2.1, x, p.2.2.2.2)
def tnP (x : Nat) (p : PS) : PS := (p.1, p.2.1, p.2.2.1, p.2.2.2.1, x)
def thn (r : Option (Bool × PS)) (g : PS → Option (Bool × PS)) : Option (Bool × PS) := match r with
  | none => none
  | some (false, p) => some (false, p)
  | some (true, p) => g p
/-- the model's descent: part0 0, term 1 (loop 2), sum 3 (loop 4), test 5, both 6 (loop 7), either 8 (loop 9) -/
def pd (tp : Nat) (T : Rw) (key : Int32) : Nat → Nat → PS → Option (Bool × PS)
  | 0, _, _ => none
  | f + 1, 0, p =>
    if Tok.k (PS.t p) = 2 then some (true, nxP tp T (sdP (emP 0 (Tok.nu (PS.t p)) p)))
    else if Tok.k (PS.t p) = 1 ∧ ¬ Tok.le (PS.t p) = 0 ∧ nmB key (Tok.le (PS.t p)) = true then some (true, nxP tp T (sdP (emP 1 (Tok.le (PS.t p)) p)))
    else if sgnB p 33 = true ∧ PS.tn p < 8 then thn (pd tp T key f 0 (nxP tp T (tnP (PS.tn p + 1) p))) (fun p => some (true, emP 2 33 (tnP (PS.tn p - 1) p)))
    else if sgnB p 40 = true ∧ ¬ PS.dp p = 8 then thn (pd tp T key f 8 (nxP tp T (dpP (PS.dp p + 1) p))) (fun p => if sgnB p 41 = true then some (true, nxP tp T (dpP (PS.dp p - 1) p)) else some (false, p))
    else some (false, p)
  | f + 1, 1, p => thn (pd tp T key f 0 p) (pd tp T key f 2)
  | f + 1, 2, p => if sgnB p 42 = true ∨ sgnB p 47 = true then thn (pd tp T key f 0 (nxP tp T p)) (fun p2 => pd tp T key f 2 (emP 2 (Tok.le (PS.t p)) p2)) else some (true, p)
  | f + 1, 3, p => thn (pd tp T key f 1 p) (pd tp T key f 4)
  | f + 1, 4, p => if sgnB p 43 = true ∨ sgnB p 45 = true then thn (pd tp T key f 1 (nxP tp T p)) (fun p2 => pd tp T key f 4 (emP 2 (Tok.le (PS.t p)) p2)) else some (true, p)
  | f + 1, 5, p => thn (pd tp T key f 3 p) (fun p => if sgnB p 60 = true ∨ sgnB p 61 = true ∨ sgnB p 62 = true then thn (pd tp T key f 3 (nxP tp T p)) (fun p2 => some (true, emP 2 (Tok.le (PS.t p)) p2)) else some (true, p))
  | f + 1, 6, p => thn (pd tp T key f 5 p) (pd tp T key f 7)
  | f + 1, 7, p => if sgnB p 38 = true then thn (pd tp T key f 5 (nxP tp T p)) (fun p2 => pd tp T key f 7 (emP 2 38 p2)) else some (true, p)
  | f + 1, 8, p => thn (pd tp T key f 6 p) (pd tp T key f 9)
  | f + 1, _, p => if sgnB p 124 = true then thn (pd tp T key f 6 (nxP tp T p)) (fun p2 => pd tp T key f 9 (emP 2 124 p2)) else some (true, p)
section
variable {tp f : Nat} {T : Rw} {key : Int32} {p : PS}
theorem pd_0 : pd tp T key (f + 1) 0 p = (if Tok.k (PS.t p) = 2 then some (true, nxP tp T (sdP (emP 0 (Tok.nu (PS.t p)) p)))
    else if Tok.k (PS.t p) = 1 ∧ ¬ Tok.le (PS.t p) = 0 ∧ nmB key (Tok.le (PS.t p)) = true then some (true, nxP tp T (sdP (emP 1 (Tok.le (PS.t p)) p)))
    else if sgnB p 33 = true ∧ PS.tn p < 8 then thn (pd tp T key f 0 (nxP tp T (tnP (PS.tn p + 1) p))) (fun p => some (true, emP 2 33 (tnP (PS.tn p - 1) p)))
    else if sgnB p 40 = true ∧ ¬ PS.dp p = 8 then thn (pd tp T key f 8 (nxP tp T (dpP (PS.dp p + 1) p))) (fun p => if sgnB p 41 = true then some (true, nxP tp T (dpP (PS.dp p - 1) p)) else some (false, p))
    else some (false, p)) := rfl
theorem pd_1 : pd tp T key (f + 1) 1 p = thn (pd tp T key f 0 p) (pd tp T key f 2) := rfl
theorem pd_2 : pd tp T key (f + 1) 2 p = (if sgnB p 42 = true ∨ sgnB p 47 = true then thn (pd tp T key f 0 (nxP tp T p)) (fun p2 => pd tp T key f 2 (emP 2 (Tok.le (PS.t p)) p2)) else some (true, p)) := rfl
theorem pd_3 : pd tp T key (f + 1) 3 p = thn (pd tp T key f 1 p) (pd tp T key f 4) := rfl
theorem pd_4 : pd tp T key (f + 1) 4 p = (if sgnB p 43 = true ∨ sgnB p 45 = true then thn (pd tp T key f 1 (nxP tp T p)) (fun p2 => pd tp T key f 4 (emP 2 (Tok.le (PS.t p)) p2)) else some (true, p)) := rfl
theorem pd_5 : pd tp T key (f + 1) 5 p = thn (pd tp T key f 3 p) (fun p => if sgnB p 60 = true ∨ sgnB p 61 = true ∨ sgnB p 62 = true then thn (pd tp T key f 3 (nxP tp T p)) (fun p2 => some (true, emP 2 (Tok.le (PS.t p)) p2)) else some (true, p)) := rfl
theorem pd_6 : pd tp T key (f + 1) 6 p = thn (pd tp T key f 5 p) (pd tp T key f 7) := rfl
theorem pd_7 : pd tp T key (f + 1) 7 p = (if sgnB p 38 = true then thn (pd tp T key f 5 (nxP tp T p)) (fun p2 => pd tp T key f 7 (emP 2 38 p2)) else some (true, p)) := rfl
theorem pd_8 : pd tp T key (f + 1) 8 p = thn (pd tp T key f 6 p) (pd tp T key f 9) := rfl
theorem pd_9 : pd tp T key (f + 1) 9 p = (if sgnB p 124 = true then thn (pd tp T key f 6 (nxP tp T p)) (fun p2 => pd tp T key f 9 (emP 2 124 p2)) else some (true, p)) := rfl
end
def layR (r : Rw) (at_ : Nat) (o : List Ste) : Rw := fun j => if at_ ≤ j ∧ j < at_ + 2 * o.length then (if (j - at_) % 2 = 0 then (o.getD ((j - at_) / 2) (0, 0)).1 else (o.getD ((j - at_) / 2) (0, 0)).2) else r j
theorem layR_0 (r : Rw) (at_ : Nat) : layR r at_ [] = r := by
  funext j
  unfold layR
  rw [if_neg (by simp only [List.length_nil]; omega)]
theorem layR_s (r : Rw) (at_ : Nat) (o : List Ste) (w v : Int32) : upd (upd (layR r at_ o) (at_ + 2 * o.length) w) (at_ + 2 * o.length + 1) v = layR r at_ (o ++ [(w, v)]) := by
  funext j
  have hl : (o ++ [(w, v)]).length = o.length + 1 := by simp
  by_cases h1 : j = at_ + 2 * o.length + 1
  · subst h1
    rw [upd_s]
    unfold layR
    rw [if_pos (by rw [hl]; omega), if_neg (by omega), show (at_ + 2 * o.length + 1 - at_) / 2 = o.length by omega]
    simp
  · rw [upd_n h1]
    by_cases h2 : j = at_ + 2 * o.length
    · subst h2
      rw [upd_s]
      unfold layR
      rw [if_pos (by rw [hl]; omega), if_pos (by omega), show (at_ + 2 * o.length - at_) / 2 = o.length by omega]
      simp
    · rw [upd_n h2]
      unfold layR
      by_cases h3 : at_ ≤ j ∧ j < at_ + 2 * o.length
      · have h4 : (j - at_) / 2 < o.length := by omega
        rw [if_pos h3, if_pos (show at_ ≤ j ∧ j < at_ + 2 * (o ++ [(w, v)]).length by rw [hl]; omega)]
        have h5 : (o ++ [(w, v)]).getD ((j - at_) / 2) (0, 0) = o.getD ((j - at_) / 2) (0, 0) := by
          simp only [List.getD_eq_getElem?_getD, List.getElem?_append_left h4]
        rw [h5]
      · rw [if_neg h3, if_neg (by rw [hl]; omega)]
def PM (m0 mi : MI) (tp at_ : Nat) (p : PS) : Prop :=
  (∀ a, a ≠ 0 → a ≠ 1 → mi a = m0 a) ∧ mi 1 = layR (m0 1) at_ (PS.o p) ∧ (mi 0 17 = nI tp ∧ mi 0 26 = nI at_) ∧ (mi 0 18 = nI (Tok.b (PS.t p)) ∧ mi 0 19 = nI (Tok.e (PS.t p)) ∧ mi 0 20 = Tok.k (PS.t p) ∧ (Tok.k (PS.t p) = 2 → mi 0 21 = Tok.nu (PS.t p)) ∧ (Tok.k (PS.t p) = 1 ∨ Tok.k (PS.t p) = 3 → mi 0 22 = Tok.le (PS.t p))) ∧
  (mi 0 23 = nI (PS.dp p) ∧ mi 0 24 = nI (PS.tn p) ∧ mi 0 25 = nI (PS.o p).length ∧ mi 0 27 = nI (PS.sd p)) ∧ ∀ j, (j < 17 ∨ 27 < j) → mi 0 j = m0 0 j
/-- a token's places -/
def TOK (tp : Nat) (t : Tok) : Prop := Tok.b t ≤ Tok.e t ∧ Tok.e t ≤ tp ∧ (¬ Tok.k t = 0 → Tok.b t < Tok.e t)
theorem rnE_s {P : Nat → Bool} {tp c : Nat} (hP : ∀ c, P c = true → c < tp) (h96 : tp ≤ 96) (h : P c = true) : c < rnE P c ∧ rnE P c ≤ tp := by
  have h1 := hP c h
  rw [rnE_t h (by omega)]
  have h2 := rnE_le hP (c := c + 1) (by omega)
  omega
theorem nxT_ok {tp e : Nat} {T : Rw} {k : Int32} (h96 : tp ≤ 96) (he : e ≤ tp) : TOK tp (nxT tp T e k) ∧ e ≤ Tok.b (nxT tp T e k) := by
  obtain ⟨c, hc⟩ : ∃ c, rnE (blB tp T) e = c := ⟨_, rfl⟩
  have h1 := (rnE_le blB_lt he : _ ∧ rnE (blB tp T) e ≤ tp)
  rw [hc] at h1
  by_cases h2 : c = tp
  · rw [nxT_0 hc h2]
    exact ⟨⟨Nat.le_refl _, h1.2, fun z => absurd rfl z⟩, h1.1⟩
  · cases h3 : ltB tp T c
    · cases h4 : dgB tp T c
      · rw [nxT_s hc h2 h3 h4]
        exact ⟨⟨Nat.le_succ _, Nat.lt_of_le_of_ne h1.2 h2, fun _ => Nat.lt_succ_self _⟩, h1.1⟩
      · have h5 := rnE_s dgB_lt h96 h4
        rw [nxT_d hc h2 h3 h4 rfl]
        exact ⟨⟨Nat.le_of_lt h5.1, h5.2, fun _ => h5.1⟩, h1.1⟩
    · have h5 := rnE_s ltB_lt h96 h3
      rw [nxT_l hc h2 h3 rfl]
      exact ⟨⟨Nat.le_of_lt h5.1, h5.2, fun _ => h5.1⟩, h1.1⟩
theorem PV_m {sh : List Sh} {mr : MR} {f g : MI → Prop} (h : ∀ mi, f mi → g mi) : ∀ v sh' mi' mr', PV sh mr f v sh' mi' mr' → PV sh mr g v sh' mi' mr' := fun _ _ m _ ⟨a, b, c, q⟩ => ⟨a, b, c, h m q⟩
section
variable {d tp at_ : Nat} {m0 mi : MI} {mr : MR} {p : PS}
theorem PM.nx {mi2 : MI} (h : PM m0 mi tp at_ p) (h2 : TkP mi mi2 (nxT tp (m0 13) (Tok.e (PS.t p)) (Tok.k (PS.t p)))) : PM m0 mi2 tp at_ (nxP tp (m0 13) p) := by
  obtain ⟨a1, a2, ⟨a3, a4⟩, -, ⟨b1, b2, b3, b4⟩, a6⟩ := h
  obtain ⟨c1, c2, c3, c4, c5, c6, c7⟩ := h2
  exact ⟨fun a x y => (c1 a x).trans (a1 a x y), (c1 1 (by decide)).trans a2, ⟨(c7 17 (by omega)).trans a3, (c7 26 (by omega)).trans a4⟩, ⟨c2, c3, c4, c5, c6⟩, ⟨(c7 23 (by omega)).trans b1, (c7 24 (by omega)).trans b2, (c7 25 (by omega)).trans b3, (c7 27 (by omega)).trans b4⟩, fun j hj => (c7 j (by omega)).trans (a6 j hj)⟩
theorem e_next (hM : MB mr) (h : PM m0 mi tp at_ p) (h96 : tp ≤ 96) (he : Tok.e (PS.t p) ≤ tp) : CP (d + 2) mX12_nextToken [.ref 0] shM mi mr 0 0 (PV shM mr (fun mi2 => PM m0 mi2 tp at_ (nxP tp (m0 13) p))) := by
  have h13 : mi 13 = m0 13 := h.1 13 (by decide) (by decide)
  have hc := c_nextToken (d := d) (mi := mi) hM h.2.2.1.1 h96 h.2.2.2.1.2.1 he h.2.2.2.1.2.2.1
  rw [h13] at hc
  exact CP.mono hc (PV_m (fun mi2 h2 => h.nx h2))
theorem PM.em {w v : Int32} (h : PM m0 mi tp at_ p) : PM m0 (upI (upI (upI mi 1 (at_ + 2 * (PS.o p).length) w) 1 (at_ + 2 * (PS.o p).length + 1) v) 0 25 (nI ((PS.o p).length + 1))) tp at_ (emP w v p) := by
  obtain ⟨a1, a2, ⟨a3, a4⟩, ⟨c1, c2, c3, c4, c5⟩, ⟨b1, b2, b3, b4⟩, a6⟩ := h
  have hz : ∀ j, j ≠ 25 → upI (upI (upI mi 1 (at_ + 2 * (PS.o p).length) w) 1 (at_ + 2 * (PS.o p).length + 1) v) 0 25 (nI ((PS.o p).length + 1)) 0 j = mi 0 j := fun j hj => by rw [up_ne hj, upI_ne (by decide), upI_ne (by decide)]
  refine ⟨fun a x y => by rw [upI_ne x, upI_ne y, upI_ne y]; exact a1 a x y, ?_, ⟨(hz _ (by decide)).trans a3, (hz _ (by decide)).trans a4⟩, ⟨(hz _ (by decide)).trans c1, (hz _ (by decide)).trans c2, (hz _ (by decide)).trans c3, fun z => (hz _ (by decide)).trans (c4 z), fun z => (hz _ (by decide)).trans (c5 z)⟩, ⟨(hz _ (by decide)).trans b1, (hz _ (by decide)).trans b2, ?_, (hz _ (by decide)).trans b4⟩, fun j hj => (hz _ (by omega)).trans (a6 j hj)⟩
  · rw [upI_ne (by decide), upI_self, upI_self, a2]
    exact layR_s _ _ _ _ _
  · rw [up_eq]
    show _ = nI (PS.o p ++ [(w, v)]).length
    rw [List.length_append]
    rfl
theorem e_step (hM : MB mr) (h : PM m0 mi tp at_ p) (hb : at_ + 2 * (PS.o p).length + 1 < 3080) {w v : Int32} : CP d mX12_step [.ref 0, .int w, .int v] shM mi mr 0 0 (PV shM mr (fun mi2 => PM m0 mi2 tp at_ (emP w v p))) :=
  CP.mono (c_step hM h.2.2.1.2 h.2.2.2.2.1.2.2.1 hb) (PV_m (fun mi2 h2 => by rw [h2]; exact h.em))
theorem e_isSign (hM : MB mr) (h : PM m0 mi tp at_ p) {c : Int32} : CP d mX12_isSign [.ref 0, .int c] shM mi mr 0 0 (PI (b2i (sgnB p c)) shM mi mr) := by
  have hz : (decide (mi 0 20 = 3) && decide (mi 0 22 = c)) = sgnB p c := by
    unfold sgnB
    rw [h.2.2.2.1.2.2.1]
    by_cases hk : Tok.k (PS.t p) = 3
    · rw [h.2.2.2.1.2.2.2.2 (Or.inr hk)]
    · simp [hk]
  rw [← hz]
  exact c_isSign hM
end
theorem thn_c {r : Option (Bool × PS)} {g : PS → Option (Bool × PS)} {x : Bool × PS} (h : thn r g = some x) : (∃ p1, r = some (false, p1) ∧ x = (false, p1)) ∨ ∃ p1, r = some (true, p1) ∧ g p1 = some x := by
  unfold thn at h
  split at h
  · cases h
  · exact Or.inl ⟨_, rfl, (Option.some.inj h).symm⟩
  · exact Or.inr ⟨_, rfl, h⟩
