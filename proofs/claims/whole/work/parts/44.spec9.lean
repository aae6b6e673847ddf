theorem ones_bits (P : Nat → Bool) : ∀ k, k ≤ 10 → onesK (bitsB P 10) k = nI (cntB P k)
  | 0, _ => rfl
  | k + 1, hk => by
    show onesK (bitsB P 10) k + _ = nI (cntB P k + _)
    rw [ones_bits P k (by omega), bits_at (by omega) (by decide), ← nI_add]
    cases P k <;> rfl
def gcnt (s : Rw) (q m : Nat) : Nat := cntB (rbB s q m (-1) 0) 10
theorem gcnt_le (s : Rw) (q m : Nat) : gcnt s q m ≤ 10 := cntB_le _ 10
abbrev Hlp : Type := Int32 × Int32 × Nat
def hpK (s : Rw) (q m l : Nat) (H : Hlp) : Nat → Hlp
  | 0 => H
  | k + 1 => if rchS s q l k = true ∧ (hpK s q m l H k).2.2 < gcnt (lean s l k) q m then (nI l, nI k, gcnt (lean s l k) q m) else hpK s q m l H k
def hpR (s : Rw) (q n m : Nat) : Nat → Hlp
  | 0 => (-1, 0, gcnt s q m)
  | l + 1 => hpK s q m l (hpR s q n m l) n
theorem hpK_le {s : Rw} {q m l : Nat} {H : Hlp} (h : H.2.2 ≤ 10) : ∀ k, (hpK s q m l H k).2.2 ≤ 10
  | 0 => h
  | k + 1 => by
    unfold hpK
    split
    · exact gcnt_le _ q m
    · exact hpK_le h k
theorem hpR_le (s : Rw) (q n m : Nat) : ∀ l, (hpR s q n m l).2.2 ≤ 10
  | 0 => gcnt_le s q m
  | l + 1 => hpK_le (hpR_le s q n m l) n
def helpS (s : Rw) (q n m : Nat) (w : Int32) : Int32 := if 0 ≤ (hpR s q n m m).1 then (if w = 0 then (hpR s q n m m).1 else if w = 1 then (hpR s q n m m).2.1 else nI (hpR s q n m m).2.2) else NONEc
def HV (mi : MI) (H : Hlp) : Prop := mi 0 13 = H.1 ∧ (0 ≤ H.1 → mi 0 14 = H.2.1) ∧ mi 0 15 = nI H.2.2
def SH (mi mi2 : MI) (s2 : Rw) : Prop := mi2 1 = s2 ∧ (∀ a, a ≠ 0 → a ≠ 1 → a ≠ 14 → a ≠ 15 → mi2 a = mi a) ∧ ∀ j, j ≠ 13 → j ≠ 14 → j ≠ 15 → mi2 0 j = mi 0 j
theorem SH.rf {mi : MI} {s : Rw} (h : mi 1 = s) : SH mi mi s := ⟨h, fun _ _ _ _ _ => rfl, fun _ _ _ _ => rfl⟩
theorem SH.sb {a b c : MI} {s : Rw} (h : SH a b s) (h2 : SB b c) : SH a c s := ⟨h2.r1.trans h.1, fun x h3 h4 h5 h6 => (h2 x h5 h6).trans (h.2.1 x h3 h4 h5 h6), fun j h3 h4 h5 => by rw [h2 0 (by decide) (by decide)]; exact h.2.2 j h3 h4 h5⟩
theorem SH.up {a b : MI} {s : Rw} (h : SH a b s) {k : Nat} {v : Int32} : SH a (upI b 1 k v) (upd s k v) := ⟨by rw [upI_self, h.1], fun x h3 h4 h5 h6 => (upI_ne h4).trans (h.2.1 x h3 h4 h5 h6), fun j h3 h4 h5 => by rw [upI_ne (by decide)]; exact h.2.2 j h3 h4 h5⟩
theorem SH.f0 {a b : MI} {s : Rw} (h : SH a b s) {k : Nat} {v : Int32} (hk : k = 13 ∨ k = 14 ∨ k = 15) : SH a (upI b 0 k v) s := ⟨by rw [upI_ne (by decide)]; exact h.1, fun x h3 h4 h5 h6 => (upI_ne h3).trans (h.2.1 x h3 h4 h5 h6), fun j h3 h4 h5 => by rw [up_ne (by omega)]; exact h.2.2 j h3 h4 h5⟩
theorem SH.ch {a b : MI} {s s2 : Rw} (h : SH a b s) (e : s = s2) : SH a b s2 := e ▸ h
theorem HV.sb {b c : MI} {H : Hlp} (h : HV b H) (h2 : SB b c) : HV c H := by unfold HV; rw [h2 0 (by decide) (by decide)]; exact h
theorem HV.u1 {b : MI} {H : Hlp} (h : HV b H) {k : Nat} {v : Int32} : HV (upI b 1 k v) H := by unfold HV; rw [upI_ne (by decide)]; exact h
theorem HV.new {b : MI} {x y : Int32} {z : Nat} : HV (upI (upI (upI b 0 13 x) 0 14 y) 0 15 (nI z)) (x, y, z) := ⟨by rw [up_ne (by decide), up_ne (by decide), up_eq], fun _ => by rw [up_ne (by decide), up_eq], by rw [up_eq]⟩
theorem upd_upd {s : Rw} {k : Nat} {v w : Int32} : upd (upd s k v) k w = upd s k w := by
  funext j
  by_cases hj : j = k
  · subst hj; rw [upd_s, upd_s]
  · rw [upd_n hj, upd_n hj, upd_n hj]
theorem upd_same {s : Rw} {k : Nat} {v : Int32} (h : s k = v) : upd s k v = s := by
  funext j
  by_cases hj : j = k
  · subst hj; rw [upd_s, h]
  · rw [upd_n hj]
