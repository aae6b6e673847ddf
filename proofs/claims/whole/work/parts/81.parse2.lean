/-! the descent: all levels; it ends; what it lays -/
theorem rk_5 {c : Int32} (h : rkS c = 5) : c = 42 ∨ c = 47 := by
  unfold rkS at h
  repeat' split at h
  all_goals first | omega | assumption
theorem rk_4 {c : Int32} (h : rkS c = 4) : c = 43 ∨ c = 45 := by
  unfold rkS at h
  repeat' split at h
  all_goals first | omega | assumption
theorem rk_2 {c : Int32} (h : rkS c = 2) : c = 38 := by
  unfold rkS at h
  repeat' split at h
  all_goals first | omega | assumption
theorem rk_1 {c : Int32} (h : rkS c = 1) : c = 124 := by
  unfold rkS at h
  repeat' split at h
  all_goals first | omega | assumption
theorem rkT_k {t : Tok} {r : Nat} (h : rkT t = r) (hr : 0 < r) : Tok.k t = 3 ∧ rkS (Tok.le t) = r := by
  unfold rkT at h
  split at h
  · exact ⟨by assumption, h⟩
  · omega
theorem sgn_i {p : PS} {c : Int32} (h1 : Tok.k (PS.t p) = 3) (h2 : Tok.le (PS.t p) = c) : sgnB p c = true := by unfold sgnB; rw [h1, h2]; simp
section
variable {tp : Nat} {T : Rw} {key : Int32}
def PAll (tp : Nat) (T : Rw) (key : Int32) (f : Nat) : Prop :=
  (∀ p ok p2 sg, pd tp T key f 0 p = some (ok, p2) → SgC p sg → Lv tp T key 6 true p ok p2 sg) ∧ (∀ p ok p2 sg, pd tp T key f 1 p = some (ok, p2) → SgC p sg → tOK 5 sg → Lv tp T key 5 true p ok p2 sg) ∧
  (∀ p ok p2 sg, pd tp T key f 3 p = some (ok, p2) → SgC p sg → tOK 4 sg → Lv tp T key 4 true p ok p2 sg) ∧ (∀ p ok p2 sg, pd tp T key f 5 p = some (ok, p2) → SgC p sg → tOK 3 sg → Lv tp T key 3 true p ok p2 sg) ∧
  (∀ p ok p2 sg, pd tp T key f 6 p = some (ok, p2) → SgC p sg → tOK 2 sg → Lv tp T key 2 true p ok p2 sg) ∧ (∀ p ok p2 sg, pd tp T key f 8 p = some (ok, p2) → SgC p sg → tOK 1 sg → Lv tp T key 1 true p ok p2 sg)
theorem hpd7 (f : Nat) (p : PS) : pd tp T key (f + 1) 7 p = if sgnB p 38 = true then thn (pd tp T key f 5 (nxP tp T p)) (fun p2 => pd tp T key f 7 (emP 2 (Tok.le (PS.t p)) p2)) else some (true, p) := by
  rw [pd_7]
  by_cases h : sgnB p 38 = true
  · rw [if_pos h, if_pos h, (sg_k3 h).2]
  · rw [if_neg h, if_neg h]
theorem hpd9 (f : Nat) (p : PS) : pd tp T key (f + 1) 9 p = if sgnB p 124 = true then thn (pd tp T key f 6 (nxP tp T p)) (fun p2 => pd tp T key f 9 (emP 2 (Tok.le (PS.t p)) p2)) else some (true, p) := by
  rw [pd_9]
  by_cases h : sgnB p 124 = true
  · rw [if_pos h, if_pos h, (sg_k3 h).2]
  · rw [if_neg h, if_neg h]
theorem lv_all : ∀ f f2, f2 ≤ f → PAll tp T key f2 := by
  have hz : ∀ code p, pd tp T key 0 code p = none := fun code p => by cases code <;> rfl
  have hz2 : ∀ {code p ok p2}, pd tp T key 0 code p = some (ok, p2) → False := fun {code p ok p2} h => by rw [hz] at h; cases h
  have z0 : PAll tp T key 0 := ⟨fun p ok p2 sg h => (hz2 h).elim, fun p ok p2 sg h => (hz2 h).elim, fun p ok p2 sg h => (hz2 h).elim, fun p ok p2 sg h => (hz2 h).elim, fun p ok p2 sg h => (hz2 h).elim, fun p ok p2 sg h => (hz2 h).elim⟩
  have l2 := lv_loop (tp := tp) (T := T) (key := key) (r := 5) (ri := 6) (ci := 0) (cl := 2) (isop := fun p => sgnB p 42 = true ∨ sgnB p 47 = true) (fun p => inferInstance) (Or.inl ⟨rfl, rfl⟩) (fun f p => pd_2) (fun p h => by rcases h with h | h <;> (rw [(sg_k3 h).1, (sg_k3 h).2]; decide)) (fun p h z => h (by obtain ⟨a, b⟩ := rkT_k z (by decide); exact (rk_5 b).imp (sgn_i a) (sgn_i a))) (fun f p p2 h => pd_keep f 0 p p2 h)
  have l4 := lv_loop (tp := tp) (T := T) (key := key) (r := 4) (ri := 5) (ci := 1) (cl := 4) (isop := fun p => sgnB p 43 = true ∨ sgnB p 45 = true) (fun p => inferInstance) (Or.inr (Or.inl ⟨rfl, rfl⟩)) (fun f p => pd_4) (fun p h => by rcases h with h | h <;> (rw [(sg_k3 h).1, (sg_k3 h).2]; decide)) (fun p h z => h (by obtain ⟨a, b⟩ := rkT_k z (by decide); exact (rk_4 b).imp (sgn_i a) (sgn_i a))) (fun f p p2 h => pd_keep f 1 p p2 h)
  have l7 := lv_loop (tp := tp) (T := T) (key := key) (r := 2) (ri := 3) (ci := 5) (cl := 7) (isop := fun p => sgnB p 38 = true) (fun p => inferInstance) (Or.inr (Or.inr (Or.inl ⟨rfl, rfl⟩))) (fun f p => hpd7 f p) (fun p h => by rw [(sg_k3 h).1, (sg_k3 h).2]; decide) (fun p h z => h (by obtain ⟨a, b⟩ := rkT_k z (by decide); exact sgn_i a (rk_2 b))) (fun f p p2 h => pd_keep f 5 p p2 h)
  have l9 := lv_loop (tp := tp) (T := T) (key := key) (r := 1) (ri := 2) (ci := 6) (cl := 9) (isop := fun p => sgnB p 124 = true) (fun p => inferInstance) (Or.inr (Or.inr (Or.inr ⟨rfl, rfl⟩))) (fun f p => hpd9 f p) (fun p h => by rw [(sg_k3 h).1, (sg_k3 h).2]; decide) (fun p h z => h (by obtain ⟨a, b⟩ := rkT_k z (by decide); exact sgn_i a (rk_1 b))) (fun f p p2 h => pd_keep f 6 p p2 h)
  have s7 : ∀ f p ok p2, rkT (PS.t p) = 3 → pd tp T key f 7 p = some (ok, p2) → ok = true ∧ p2 = p := by
    intro f p ok p2 h h2
    cases f with
    | zero => rw [hz] at h2; cases h2
    | succ f =>
      rw [pd_7, if_neg] at h2
      · obtain ⟨a, b⟩ := Prod.mk.inj (Option.some.inj h2); exact ⟨a.symm, b.symm⟩
      · intro z
        have := (rkT_k h (by decide)).2
        rw [(sg_k3 z).2] at this
        exact absurd this (by decide)
  have s9 : ∀ f p ok p2, rkT (PS.t p) = 3 → pd tp T key f 9 p = some (ok, p2) → ok = true ∧ p2 = p := by
    intro f p ok p2 h h2
    cases f with
    | zero => rw [hz] at h2; cases h2
    | succ f =>
      rw [pd_9, if_neg] at h2
      · obtain ⟨a, b⟩ := Prod.mk.inj (Option.some.inj h2); exact ⟨a.symm, b.symm⟩
      · intro z
        have := (rkT_k h (by decide)).2
        rw [(sg_k3 z).2] at this
        exact absurd this (by decide)
  intro f
  induction f with
  | zero =>
    intro f2 h
    obtain rfl : f2 = 0 := by omega
    exact z0
  | succ f ih =>
    intro f2 h
    rcases Nat.lt_or_ge f2 (f + 1) with q | q
    · exact ih f2 (by omega)
    · obtain rfl : f2 = f + 1 := by omega
      obtain ⟨a0, a1, a3, a5, a6, a8⟩ := ih f (Nat.le_refl _)
      refine ⟨lv_part a0 a8, ?_, ?_, ?_, ?_, ?_⟩
      · exact lv_seq (r := 5) (ri := 6) (ci := 0) (cl := 2) (by decide) (Or.inl (by decide)) (fun f p => pd_1) (fun f p p2 h => pd_keep f 0 p p2 h) (fun p ok p2 sg h1 h2 _ => a0 p ok p2 sg h1 h2) (l2 f (fun f2 h2 p ok p2 sg h3 h4 _ => (ih f2 (by omega)).1 p ok p2 sg h3 h4)) (fun p ok p2 _ z => absurd z (by decide))
      · exact lv_seq (r := 4) (ri := 5) (ci := 1) (cl := 4) (by decide) (Or.inl (by decide)) (fun f p => pd_3) (fun f p p2 h => pd_keep f 1 p p2 h) a1 (l4 f (fun f2 h2 => (ih f2 (by omega)).2.1)) (fun p ok p2 _ z => absurd z (by decide))
      · exact lv_test (fun f p p2 h => pd_keep f 3 p p2 h) a3
      · exact lv_seq (r := 2) (ri := 3) (ci := 5) (cl := 7) (by decide) (Or.inr (by decide)) (fun f p => pd_6) (fun f p p2 h => pd_keep f 5 p p2 h) a5 (l7 f (fun f2 h2 => (ih f2 (by omega)).2.2.2.1)) (fun p ok p2 h3 _ h4 => s7 f p ok p2 h3 h4)
      · exact lv_seq (r := 1) (ri := 2) (ci := 6) (cl := 9) (by decide) (Or.inr (by decide)) (fun f p => pd_8) (fun f p p2 h => pd_keep f 6 p p2 h) a6 (l9 f (fun f2 h2 => (ih f2 (by omega)).2.2.2.2.1)) (fun p ok p2 h3 _ h4 => s9 f p ok p2 h3 h4)
/-- the whole law, from its first token on -/
theorem rd_top {f : Nat} {p p2 : PS} {ok : Bool} (h : pd tp T key f 8 p = some (ok, p2)) (ho : PS.o p = []) (hs : PS.sd p = 0) (hd : PS.dp p = 0) (ht : PS.tn p = 0) :
    Rn tp T key true (PS.t p) [] [] 0 (if ok = true ∧ Tok.k (PS.t p2) = 0 then .inr (outP key p2, PS.sd p2) else .inl (Tok.b (PS.t p2))) := by
  have hL := (lv_all f f (Nat.le_refl _)).2.2.2.2.2 p ok p2 [] h ⟨by rw [hd]; rfl, by rw [ht]; rfl, by rw [hd]; decide⟩ ⟨by show rkS 0 < 1; decide, by show ¬ (0 : Int32) = 33; decide⟩
  have eo : outP key p = [] := by unfold outP; rw [ho]; rfl
  unfold Lv FlR ThR at hL
  rw [eo, hs] at hL
  cases ok with
  | false =>
    rw [if_neg (by simp)]
    exact hL.1 rfl
  | true =>
    rcases hL.2 rfl with ⟨h1, h2⟩ | ⟨_, h1, h2⟩
    · by_cases h0 : Tok.k (PS.t p2) = 0
      · rw [if_pos ⟨rfl, h0⟩]
        refine h2 _ ⟨1, ?_⟩
        simp only [ru]
        rw [if_pos h0, if_neg (by simp [clS, cntL])]
        rfl
      · rw [if_neg (fun z => h0 z.2)]
        exact h2 _ (Rn.bad (by omega) (fun z => absurd z h0) (fun _ _ => rfl))
    · have h0 : ¬ Tok.k (PS.t p2) = 0 := by rw [(rkT_k h1 (by decide)).1]; decide
      rw [if_neg (fun z => h0 z.2)]
      exact h2
end
/-- steps that take a pile of d to one of d2 -/
def VD (key : Int32) : List Ste → Nat → Nat → Prop
  | [], d, d2 => d = d2
  | x :: l, d, d2 => (x.1 = 0 ∧ (∃ j, j < 10000 ∧ x.2 = nI j) ∧ VD key l (d + 1) d2) ∨ (x.1 = 1 ∧ nmB key x.2 = true ∧ VD key l (d + 1) d2) ∨ (x.1 = 2 ∧ x.2 = 33 ∧ 1 ≤ d ∧ VD key l d d2) ∨ (x.1 = 2 ∧ sgOK x.2 ∧ 2 ≤ d ∧ VD key l (d - 1) d2)
theorem VD.app {key : Int32} : ∀ {l1 l2 : List Ste} {d d1 d2 : Nat}, VD key l1 d d1 → VD key l2 d1 d2 → VD key (l1 ++ l2) d d2
  | [], _, _, _, _, h, h2 => by have h : _ = _ := h; rw [h]; exact h2
  | x :: l, l2, d, d1, d2, h, h2 => by
    rcases h with ⟨a, b, c⟩ | ⟨a, b, c⟩ | ⟨a, b, c, e⟩ | ⟨a, b, c, e⟩
    · exact Or.inl ⟨a, b, c.app h2⟩
    · exact Or.inr (Or.inl ⟨a, b, c.app h2⟩)
    · exact Or.inr (Or.inr (Or.inl ⟨a, b, c, e.app h2⟩))
    · exact Or.inr (Or.inr (Or.inr ⟨a, b, c, e.app h2⟩))
theorem VD.sg {key c : Int32} (h : sgOK c) {d : Nat} (hd : 2 ≤ d) : VD key [(2, c)] d (d - 1) := Or.inr (Or.inr (Or.inr ⟨rfl, h, hd, rfl⟩))
def TV (t : Tok) : Prop := Tok.k t = 2 → ∃ j, j < 10000 ∧ Tok.nu t = nI j
theorem num_ok {T : Rw} {b : Nat} : ∀ k, (∀ i, i < k → inB (T (b + i)) 48 57 = true) → ∃ j, j < 10 ^ (min k 4) ∧ numT T b k = nI j
  | 0, _ => ⟨0, by decide, rfl⟩
  | k + 1, h => by
    obtain ⟨j, hj, e⟩ := num_ok k (fun i hi => h i (by omega))
    unfold numT
    by_cases h4 : k < 4
    · rw [if_pos h4, e]
      have hb := h k (by omega)
      obtain ⟨v, hv, ev⟩ := inB_of (x := T (b + k)) (hi := 57) (by unfold inB at hb ⊢; simp only [decide_eq_true_eq] at hb ⊢; omega)
      have hv48 : 48 ≤ v := by
        rw [ev] at hb
        unfold inB at hb
        simp only [decide_eq_true_eq, nI_toInt (show v < 2 ^ 31 by omega)] at hb
        omega
      refine ⟨10 * j + (v - 48), ?_, ?_⟩
      · have e1 : min k 4 = k := by omega
        have e2 : min (k + 1) 4 = k + 1 := by omega
        rw [e1] at hj
        rw [e2, Nat.pow_succ]
        omega
      · rw [ev, show (10 : Int32) * nI j = nI (10 * j) from pk_mul 10 j, nI_add, show (48 : Int32) = nI 48 from rfl, pk_sub (by omega)]
        congr 1
        omega
    · rw [if_neg h4]
      exact ⟨j, by rw [show min (k + 1) 4 = min k 4 by omega]; exact hj, e⟩
theorem rn_in {P : Nat → Bool} : ∀ f b i, b ≤ i → i < runE P f b → P i = true
  | 0, b, i, h1, h2 => by have h2 : i < b := h2; omega
  | f + 1, b, i, h1, h2 => by
    unfold runE at h2
    split at h2
    · rename_i hp
      rcases Nat.lt_or_ge b i with z | z
      · exact rn_in f (b + 1) i (by omega) h2
      · obtain rfl : i = b := by omega
        exact hp
    · omega
theorem tv_nx {tp e : Nat} {T : Rw} {k : Int32} : TV (nxT tp T e k) := by
  obtain ⟨c, hc⟩ : ∃ c, rnE (blB tp T) e = c := ⟨_, rfl⟩
  by_cases h2 : c = tp
  · rw [nxT_0 hc h2]; intro z; cases z
  · cases h3 : ltB tp T c
    · cases h4 : dgB tp T c
      · rw [nxT_s hc h2 h3 h4]; intro z; cases z
      · rw [nxT_d hc h2 h3 h4 rfl]
        intro z
        obtain ⟨j, hj, e⟩ := num_ok (T := T) (b := c) (rnE (dgB tp T) c - c) (fun i hi => by
          have := rn_in (P := dgB tp T) (96 - c) c (c + i) (by omega) (by show c + i < rnE (dgB tp T) c; omega)
          unfold dgB at this
          exact (Bool.and_eq_true_iff.mp this).2)
        refine ⟨j, ?_, e⟩
        have h5 : 10 ^ (min (rnE (dgB tp T) c - c) 4) ≤ 10 ^ 4 := Nat.pow_le_pow_right (by decide) (Nat.min_le_right _ _)
        have : (10 : Nat) ^ 4 = 10000 := by decide
        omega
    · rw [nxT_l hc h2 h3 rfl]
      intro z
      exfalso
      revert z
      show ¬ (if _ then (4 : Int32) else 1) = 2
      split <;> decide
section
variable {tp : Nat} {T : Rw} {key : Int32}
def lpC (code : Nat) : Bool := decide (code = 2 ∨ code = 4 ∨ code = 7 ∨ 9 ≤ code)
def Gd (tp : Nat) (key : Int32) (lp : Bool) (p p2 : PS) : Prop := (TOK tp (PS.t p2) ∧ TV (PS.t p2)) ∧ (if lp = true then Tok.b (PS.t p) ≤ Tok.b (PS.t p2) else Tok.b (PS.t p) < Tok.b (PS.t p2)) ∧ ∃ new, PS.o p2 = PS.o p ++ new ∧ if lp = true then (∀ d, 1 ≤ d → VD key new d d) else ∀ d, VD key new d (d + 1)
theorem Gd.seq {p p1 p2 : PS} (h1 : Gd tp key false p p1) (h2 : Gd tp key true p1 p2) : Gd tp key false p p2 := by
  obtain ⟨-, b1, n1, e1, v1⟩ := h1
  obtain ⟨t2, b2, n2, e2, v2⟩ := h2
  have b1 : Tok.b (PS.t p) < Tok.b (PS.t p1) := b1
  have b2 : Tok.b (PS.t p1) ≤ Tok.b (PS.t p2) := b2
  have v1 : ∀ d, VD key n1 d (d + 1) := v1
  have v2 : ∀ d, 1 ≤ d → VD key n2 d d := v2
  refine ⟨t2, show Tok.b (PS.t p) < Tok.b (PS.t p2) by omega, n1 ++ n2, by rw [e2, e1, List.append_assoc], show ∀ d, VD key (n1 ++ n2) d (d + 1) from fun d => (v1 d).app (v2 (d + 1) (by omega))⟩
theorem Gd.op {p p1 p2 : PS} {c : Int32} (h96 : tp ≤ 96) (ht : TOK tp (PS.t p)) (hs : sgOK c) (h1 : Gd tp key false (nxP tp T p) p1) (h2 : Gd tp key true (emP 2 c p1) p2) : Gd tp key true p p2 := by
  obtain ⟨-, b1, n1, e1, v1⟩ := h1
  obtain ⟨t2, b2, n2, e2, v2⟩ := h2
  have hb := (nx_tok (T := T) h96 ht).2
  have b1 : Tok.b (PS.t (nxP tp T p)) < Tok.b (PS.t p1) := b1
  have b2 : Tok.b (PS.t p1) ≤ Tok.b (PS.t p2) := b2
  have v1 : ∀ d, VD key n1 d (d + 1) := v1
  have v2 : ∀ d, 1 ≤ d → VD key n2 d d := v2
  have hbe := ht.1
  have e2 : PS.o p2 = (PS.o p1 ++ [(2, c)]) ++ n2 := e2
  have e1 : PS.o p1 = PS.o p ++ n1 := e1
  refine ⟨t2, show Tok.b (PS.t p) ≤ Tok.b (PS.t p2) by omega, n1 ++ ([(2, c)] ++ n2), by rw [e2, e1]; simp, show ∀ d, 1 ≤ d → VD key (n1 ++ ([(2, c)] ++ n2)) d d from fun d hd => ?_⟩
  have h9 := VD.sg (key := key) hs (show 2 ≤ d + 1 by omega)
  rw [Nat.add_sub_cancel] at h9
  exact (v1 d).app (h9.app (v2 d hd))
theorem Gd.id {p : PS} (ht : TOK tp (PS.t p)) (hv : TV (PS.t p)) : Gd tp key true p p := ⟨⟨ht, hv⟩, Nat.le_refl _, [], by simp, show ∀ d, 1 ≤ d → VD key [] d d from fun _ _ => rfl⟩
theorem pd_good (h96 : tp ≤ 96) : ∀ (f code : Nat) (p p2 : PS), TOK tp (PS.t p) → TV (PS.t p) → pd tp T key f code p = some (true, p2) → Gd tp key (lpC code) p p2
  | 0, code, _, _, _, _, h => by cases code <;> cases h
  | f + 1, 0, p, p2, ht, hv, h => by
    show Gd tp key false p p2
    rw [pd_0] at h
    have hnx : ∀ {p : PS}, TOK tp (PS.t p) → ¬ Tok.k (PS.t p) = 0 → (TOK tp (PS.t (nxP tp T p)) ∧ TV (PS.t (nxP tp T p))) ∧ Tok.b (PS.t p) < Tok.b (PS.t (nxP tp T p)) := fun {p} ht hk => by
      have h1 := nx_tok (T := T) h96 ht
      have h2 := ht.2.2 hk
      exact ⟨⟨h1.1, tv_nx⟩, by omega⟩
    split at h
    · rename_i hk
      obtain ⟨-, rfl⟩ := Prod.mk.inj (Option.some.inj h)
      have h1 := hnx ht (by rw [hk]; decide)
      exact ⟨h1.1, h1.2, [(0, Tok.nu (PS.t p))], rfl, show ∀ d, VD key [(0, Tok.nu (PS.t p))] d (d + 1) from fun d => Or.inl ⟨rfl, hv hk, rfl⟩⟩
    · split at h
      · rename_i _ hk
        obtain ⟨-, rfl⟩ := Prod.mk.inj (Option.some.inj h)
        have h1 := hnx ht (by rw [hk.1]; decide)
        exact ⟨h1.1, h1.2, [(1, Tok.le (PS.t p))], rfl, show ∀ d, VD key [(1, Tok.le (PS.t p))] d (d + 1) from fun d => Or.inr (Or.inl ⟨rfl, hk.2.2, rfl⟩)⟩
      · split at h
        · rename_i _ _ hk
          obtain ⟨p1, h1, h2⟩ := thn_t h
          have hn := hnx ht (by rw [(sg_k3 hk.1).1]; decide)
          have h3 : Gd tp key false (nxP tp T (tnP (PS.tn p + 1) p)) p1 := pd_good h96 f 0 _ _ hn.1.1 hn.1.2 h1
          obtain ⟨-, rfl⟩ := Prod.mk.inj (Option.some.inj h2)
          obtain ⟨t1, b1, n1, e1, v1⟩ := h3
          have b1 : Tok.b (PS.t (nxP tp T p)) < Tok.b (PS.t p1) := b1
          have v1 : ∀ d, VD key n1 d (d + 1) := v1
          have e1 : PS.o p1 = PS.o p ++ n1 := e1
          have hb := hn.2
          refine ⟨t1, show Tok.b (PS.t p) < Tok.b (PS.t p1) by omega, n1 ++ [(2, 33)], by show PS.o p1 ++ [(2, 33)] = _; rw [e1, List.append_assoc], show ∀ d, VD key (n1 ++ [(2, 33)]) d (d + 1) from fun d => (v1 d).app (Or.inr (Or.inr (Or.inl ⟨rfl, rfl, by omega, rfl⟩)))⟩
        · split at h
          · rename_i _ _ _ hk
            obtain ⟨p1, h1, h2⟩ := thn_t h
            have hn := hnx ht (by rw [(sg_k3 hk.1).1]; decide)
            have h3 : Gd tp key false (nxP tp T (dpP (PS.dp p + 1) p)) p1 := pd_good h96 f 8 _ _ hn.1.1 hn.1.2 h1
            split at h2
            · rename_i h41
              obtain ⟨-, rfl⟩ := Prod.mk.inj (Option.some.inj h2)
              obtain ⟨t1, b1, n1, e1, v1⟩ := h3
              have b1 : Tok.b (PS.t (nxP tp T p)) < Tok.b (PS.t p1) := b1
              have e1 : PS.o p1 = PS.o p ++ n1 := e1
              have hn1 := hnx t1.1 (by rw [(sg_k3 h41).1]; decide)
              have hb := hn.2
              have hb1 := hn1.2
              exact ⟨hn1.1, show Tok.b (PS.t p) < Tok.b (PS.t (nxP tp T p1)) by omega, n1, e1, v1⟩
            · cases h2
          · cases h
  | f + 1, 1, p, p2, ht, hv, h => by
    rw [pd_1] at h
    obtain ⟨p1, h1, h2⟩ := thn_t h
    have g1 : Gd tp key false p p1 := pd_good h96 f 0 _ _ ht hv h1
    exact g1.seq (pd_good h96 f 2 _ _ g1.1.1 g1.1.2 h2)
  | f + 1, 2, p, p2, ht, hv, h => by
    rw [pd_2] at h
    split at h
    · rename_i hs
      obtain ⟨p1, h1, h2⟩ := thn_t h
      have g1 : Gd tp key false (nxP tp T p) p1 := pd_good h96 f 0 _ _ (nx_tok h96 ht).1 tv_nx h1
      exact g1.op h96 ht (by rcases hs with z | z <;> (rw [(sg_k3 z).2]; unfold sgOK; decide)) (pd_good h96 f 2 _ _ g1.1.1 g1.1.2 h2)
    · obtain ⟨-, rfl⟩ := Prod.mk.inj (Option.some.inj h); exact Gd.id ht hv
  | f + 1, 3, p, p2, ht, hv, h => by
    rw [pd_3] at h
    obtain ⟨p1, h1, h2⟩ := thn_t h
    have g1 : Gd tp key false p p1 := pd_good h96 f 1 _ _ ht hv h1
    exact g1.seq (pd_good h96 f 4 _ _ g1.1.1 g1.1.2 h2)
  | f + 1, 4, p, p2, ht, hv, h => by
    rw [pd_4] at h
    split at h
    · rename_i hs
      obtain ⟨p1, h1, h2⟩ := thn_t h
      have g1 : Gd tp key false (nxP tp T p) p1 := pd_good h96 f 1 _ _ (nx_tok h96 ht).1 tv_nx h1
      exact g1.op h96 ht (by rcases hs with z | z <;> (rw [(sg_k3 z).2]; unfold sgOK; decide)) (pd_good h96 f 4 _ _ g1.1.1 g1.1.2 h2)
    · obtain ⟨-, rfl⟩ := Prod.mk.inj (Option.some.inj h); exact Gd.id ht hv
  | f + 1, 5, p, p2, ht, hv, h => by
    rw [pd_5] at h
    obtain ⟨p1, h1, h2⟩ := thn_t h
    have g1 : Gd tp key false p p1 := pd_good h96 f 3 _ _ ht hv h1
    split at h2
    · rename_i hs
      obtain ⟨p3, h3, h4⟩ := thn_t h2
      obtain ⟨-, rfl⟩ := Prod.mk.inj (Option.some.inj h4)
      have g3 : Gd tp key false (nxP tp T p1) p3 := pd_good h96 f 3 _ _ (nx_tok h96 g1.1.1).1 tv_nx h3
      exact g1.seq (g3.op h96 g1.1.1 (by rcases hs with z | z | z <;> (rw [(sg_k3 z).2]; unfold sgOK; decide)) (Gd.id g3.1.1 g3.1.2))
    · obtain ⟨-, rfl⟩ := Prod.mk.inj (Option.some.inj h2)
      exact g1
  | f + 1, 6, p, p2, ht, hv, h => by
    rw [pd_6] at h
    obtain ⟨p1, h1, h2⟩ := thn_t h
    have g1 : Gd tp key false p p1 := pd_good h96 f 5 _ _ ht hv h1
    exact g1.seq (pd_good h96 f 7 _ _ g1.1.1 g1.1.2 h2)
  | f + 1, 7, p, p2, ht, hv, h => by
    rw [pd_7] at h
    split at h
    · obtain ⟨p1, h1, h2⟩ := thn_t h
      have g1 : Gd tp key false (nxP tp T p) p1 := pd_good h96 f 5 _ _ (nx_tok h96 ht).1 tv_nx h1
      exact g1.op h96 ht (by unfold sgOK; decide) (pd_good h96 f 7 _ _ g1.1.1 g1.1.2 h2)
    · obtain ⟨-, rfl⟩ := Prod.mk.inj (Option.some.inj h); exact Gd.id ht hv
  | f + 1, 8, p, p2, ht, hv, h => by
    rw [pd_8] at h
    obtain ⟨p1, h1, h2⟩ := thn_t h
    have g1 : Gd tp key false p p1 := pd_good h96 f 6 _ _ ht hv h1
    exact g1.seq (pd_good h96 f 9 _ _ g1.1.1 g1.1.2 h2)
  | f + 1, n + 9, p, p2, ht, hv, h => by
    have e9 : lpC (n + 9) = true := by unfold lpC; exact decide_eq_true (by omega)
    rw [e9]
    have h : (if sgnB p 124 = true then thn (pd tp T key f 6 (nxP tp T p)) (fun p2 => pd tp T key f 9 (emP 2 124 p2)) else some (true, p)) = some (true, p2) := h
    split at h
    · obtain ⟨p1, h1, h2⟩ := thn_t h
      have g1 : Gd tp key false (nxP tp T p) p1 := pd_good h96 f 6 _ _ (nx_tok h96 ht).1 tv_nx h1
      exact g1.op h96 ht (by unfold sgOK; decide) (pd_good h96 f 9 _ _ g1.1.1 g1.1.2 h2)
    · obtain ⟨-, rfl⟩ := Prod.mk.inj (Option.some.inj h); exact Gd.id ht hv
end
