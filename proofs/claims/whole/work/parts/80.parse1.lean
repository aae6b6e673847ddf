/-! THE CLASS'S READER as a machine over the model's tokens -/
/-- how tightly a sign binds -/
def rkS (c : Int32) : Nat := if c = 124 then 1 else if c = 38 then 2 else if c = 60 ∨ c = 61 ∨ c = 62 then 3 else if c = 43 ∨ c = 45 then 4 else if c = 42 ∨ c = 47 then 5 else 0
def po (th : Nat) : List Int32 → List Int32 → List Int32 × List Int32
  | [], o => ([], o)
  | c :: sg, o => if th ≤ rkS c then po th sg (o ++ [-c]) else (c :: sg, o)
def clS : List Int32 → List Int32 → List Int32 × List Int32
  | [], o => ([], o)
  | c :: sg, o => if c = 33 then clS sg (o ++ [-33]) else (c :: sg, o)
def cntL (c : Int32) : List Int32 → Nat
  | [] => 0
  | x :: l => cntL c l + (if x = c then 1 else 0)
/-- the place of a name's letter -/
def nmP (key c : Int32) : Nat := if c = 104 ∨ c = 109 ∨ c = 115 then 0 else if c = 100 then 2 else 1
def thS (r : Nat) : Nat := if r = 3 then 4 else r
abbrev RRes : Type := Nat ⊕ (List Int32 × Nat)
def ru (tp : Nat) (T : Rw) (key : Int32) : Nat → Bool → Tok → List Int32 → List Int32 → Nat → Option RRes
  | 0, _, _, _, _, _ => none
  | g + 1, due, t, sg, out, ops =>
    if Tok.k t = 0 then (if due = true ∨ 0 < cntL 40 sg then some (.inl (Tok.b t)) else some (.inr ((po 1 sg out).2, ops)))
    else if due = true then
      if Tok.k t = 2 then ru tp T key g false (nxT tp T (Tok.e t) (Tok.k t)) (clS sg (out ++ [Tok.nu t])).1 (clS sg (out ++ [Tok.nu t])).2 (ops + 1)
      else if Tok.k t = 1 ∧ ¬ Tok.le t = 0 ∧ nmB key (Tok.le t) = true then ru tp T key g false (nxT tp T (Tok.e t) (Tok.k t)) (clS sg (out ++ [nI (10000 + nmP key (Tok.le t))])).1 (clS sg (out ++ [nI (10000 + nmP key (Tok.le t))])).2 (ops + 1)
      else if Tok.k t = 3 ∧ Tok.le t = 33 ∧ cntL 33 sg < 8 then ru tp T key g true (nxT tp T (Tok.e t) (Tok.k t)) (33 :: sg) out ops
      else if Tok.k t = 3 ∧ Tok.le t = 40 ∧ cntL 40 sg < 8 then ru tp T key g true (nxT tp T (Tok.e t) (Tok.k t)) (40 :: sg) out ops
      else some (.inl (Tok.b t))
    else if Tok.k t = 3 ∧ Tok.le t = 41 then
      if cntL 40 sg = 0 then some (.inl (Tok.b t)) else ru tp T key g false (nxT tp T (Tok.e t) (Tok.k t)) (clS (po 1 sg out).1.tail (po 1 sg out).2).1 (clS (po 1 sg out).1.tail (po 1 sg out).2).2 ops
    else if Tok.k t = 3 ∧ 0 < rkS (Tok.le t) then
      if rkS (Tok.le t) = 3 ∧ rkS ((po (thS (rkS (Tok.le t))) sg out).1.headD 0) = 3 then some (.inl (Tok.b t)) else ru tp T key g true (nxT tp T (Tok.e t) (Tok.k t)) (Tok.le t :: (po (thS (rkS (Tok.le t))) sg out).1) (po (thS (rkS (Tok.le t))) sg out).2 ops
    else some (.inl (Tok.b t))
/-- the code of a step -/
def cdO (key : Int32) (x : Ste) : Int32 := if x.1 = 0 then x.2 else if x.1 = 1 then nI (10000 + nmP key x.2) else -x.2
def rkT (t : Tok) : Nat := if Tok.k t = 3 then rkS (Tok.le t) else 0
section
variable {tp : Nat} {T : Rw} {key : Int32}
def Rn (tp : Nat) (T : Rw) (key : Int32) (due : Bool) (t : Tok) (sg out : List Int32) (ops : Nat) (r : RRes) : Prop := ∃ g, ru tp T key g due t sg out ops = some r
theorem rkS_le (c : Int32) : rkS c ≤ 5 := by
  unfold rkS
  repeat' split
  all_goals omega
theorem rkT_le (t : Tok) : rkT t ≤ 5 := by
  unfold rkT
  split
  · exact rkS_le _
  · omega
theorem po_t {th : Nat} {sg out : List Int32} (h : rkS (sg.headD 0) < th) : po th sg out = (sg, out) := by
  cases sg with
  | nil => rfl
  | cons c l =>
    have h : rkS c < th := h
    show (if th ≤ rkS c then _ else _) = _
    rw [if_neg (by omega)]
theorem cl_t {sg out : List Int32} (h : ¬ sg.headD 0 = 33) : clS sg out = (sg, out) := by
  cases sg with
  | nil => rfl
  | cons c l =>
    have h : ¬ c = 33 := h
    show (if c = 33 then _ else _) = _
    rw [if_neg h]
/-- popping early -/
theorem ru_ep {g : Nat} {t : Tok} {c : Int32} {sg out : List Int32} {ops : Nat} (h1 : 1 ≤ rkS c) (h2 : rkT t = 0 ∨ thS (rkT t) ≤ rkS c) (h40 : ¬ c = 40) : ru tp T key g false t (c :: sg) out ops = ru tp T key g false t sg (out ++ [-c]) ops := by
  cases g with
  | zero => rfl
  | succ g =>
    have e1 : po 1 (c :: sg) out = po 1 sg (out ++ [-c]) := by show (if 1 ≤ rkS c then _ else _) = _; rw [if_pos h1]
    have e2 : cntL 40 (c :: sg) = cntL 40 sg := by show cntL 40 sg + _ = _; rw [if_neg h40]; rfl
    simp only [ru, e1, e2]
    by_cases hk : Tok.k t = 3 ∧ 0 < rkS (Tok.le t)
    · have e3 : thS (rkS (Tok.le t)) ≤ rkS c := by
        rcases h2 with z | z
        · unfold rkT at z; rw [if_pos hk.1] at z; omega
        · unfold rkT at z; rw [if_pos hk.1] at z; exact z
      have e4 : po (thS (rkS (Tok.le t))) (c :: sg) out = po (thS (rkS (Tok.le t))) sg (out ++ [-c]) := by show (if _ ≤ rkS c then _ else _) = _; rw [if_pos e3]
      simp only [e4, Bool.false_eq_true, if_false]
    · simp only [hk, Bool.false_eq_true, if_false]
def SgC (p : PS) (sg : List Int32) : Prop := cntL 40 sg = PS.dp p ∧ cntL 33 sg = PS.tn p ∧ PS.dp p ≤ 8
def outP (key : Int32) (p : PS) : List Int32 := (PS.o p).map (cdO key)
/-- from (due, p, sg) on, what follows p2 follows -/
def ThR (tp : Nat) (T : Rw) (key : Int32) (due : Bool) (p p2 : PS) (sg : List Int32) : Prop := ∀ r, Rn tp T key false (PS.t p2) (clS sg (outP key p2)).1 (clS sg (outP key p2)).2 (PS.sd p2) r → Rn tp T key due (PS.t p) sg (outP key p) (PS.sd p) r
def FlR (tp : Nat) (T : Rw) (key : Int32) (due : Bool) (p p2 : PS) (sg : List Int32) : Prop := Rn tp T key due (PS.t p) sg (outP key p) (PS.sd p) (.inl (Tok.b (PS.t p2)))
/-- what a level of rank r says -/
def Lv (tp : Nat) (T : Rw) (key : Int32) (r : Nat) (due : Bool) (p : PS) (ok : Bool) (p2 : PS) (sg : List Int32) : Prop :=
  (ok = false → FlR tp T key due p p2 sg) ∧ (ok = true → (rkT (PS.t p2) < r ∧ ThR tp T key due p p2 sg) ∨ (r ≤ 3 ∧ rkT (PS.t p2) = 3 ∧ FlR tp T key due p p2 sg))
def tOK (r : Nat) (sg : List Int32) : Prop := rkS (sg.headD 0) < r ∧ ¬ sg.headD 0 = 33
theorem sg_k3 {p : PS} {c : Int32} (h : sgnB p c = true) : Tok.k (PS.t p) = 3 ∧ Tok.le (PS.t p) = c := by
  unfold sgnB at h
  simpa using h
theorem Rn.push {t : Tok} {sg out : List Int32} {ops : Nat} {r : RRes} (hk : Tok.k t = 3) (h0 : 0 < rkS (Tok.le t)) (hp : rkS (sg.headD 0) < thS (rkS (Tok.le t))) (h3 : ¬ (rkS (Tok.le t) = 3 ∧ rkS (sg.headD 0) = 3)) (h : Rn tp T key true (nxT tp T (Tok.e t) (Tok.k t)) (Tok.le t :: sg) out ops r) : Rn tp T key false t sg out ops r := by
  obtain ⟨g, hg⟩ := h
  refine ⟨g + 1, ?_⟩
  have h41 : ¬ (Tok.k t = 3 ∧ Tok.le t = 41) := fun z => by rw [z.2] at h0; exact absurd h0 (by decide)
  simp only [ru]
  rw [if_neg (by rw [hk]; decide), if_neg (by decide), if_neg h41, if_pos ⟨hk, h0⟩, po_t hp, if_neg h3]
  exact hg
/-- a level that is a loop of one kind of sign -/
theorem lv_loop {r ri ci cl : Nat} {isop : PS → Prop} (hdec : ∀ p, Decidable (isop p)) (hr : r = 5 ∧ ri = 6 ∨ r = 4 ∧ ri = 5 ∨ r = 2 ∧ ri = 3 ∨ r = 1 ∧ ri = 2)
    (hpd : ∀ f p, pd tp T key (f + 1) cl p = (@ite _ (isop p) (hdec p) (thn (pd tp T key f ci (nxP tp T p)) (fun p2 => pd tp T key f cl (emP 2 (Tok.le (PS.t p)) p2))) (some (true, p))))
    (hop : ∀ p, isop p → Tok.k (PS.t p) = 3 ∧ rkS (Tok.le (PS.t p)) = r) (hno : ∀ p, ¬ isop p → ¬ rkT (PS.t p) = r)
    (hkp : ∀ f p p2, pd tp T key f ci p = some (true, p2) → KpP p p2) :
    ∀ f, (∀ f2, f2 < f → ∀ p ok p2 sg, pd tp T key f2 ci p = some (ok, p2) → SgC p sg → tOK ri sg → Lv tp T key ri true p ok p2 sg) →
      ∀ p ok p2 sg, pd tp T key f cl p = some (ok, p2) → SgC p sg → tOK r sg → rkT (PS.t p) < ri → Lv tp T key r false p ok p2 sg := by
  intro f
  induction f with
  | zero =>
    intro _ p ok p2 sg h
    have : pd tp T key 0 cl p = none := by cases cl <;> rfl
    rw [this] at h; cases h
  | succ f ih =>
    intro hin p ok p2 sg h hc ht he
    rw [hpd] at h
    by_cases hi : isop p
    · rw [if_pos hi] at h
      obtain ⟨hk, hrk⟩ := hop p hi
      have h33 : ¬ Tok.le (PS.t p) = 33 := by
        intro z
        rw [z, show rkS 33 = 0 by decide] at hrk
        omega
      have h40 : ¬ Tok.le (PS.t p) = 40 := by
        intro z
        rw [z, show rkS 40 = 0 by decide] at hrk
        omega
      have hts : thS r = r := by unfold thS; rw [if_neg (by omega)]
      have hpush : ∀ {out ops res}, Rn tp T key true (PS.t (nxP tp T p)) (Tok.le (PS.t p) :: sg) out ops res → Rn tp T key false (PS.t p) sg out ops res := fun h9 => Rn.push hk (by omega) (by rw [hrk, hts]; exact ht.1) (by rw [hrk]; omega) h9
      have hc1 : SgC (nxP tp T p) (Tok.le (PS.t p) :: sg) := ⟨by show cntL 40 sg + _ = _; rw [if_neg h40]; exact hc.1, by show cntL 33 sg + _ = _; rw [if_neg h33]; exact hc.2.1, hc.2.2⟩
      have ht1 : tOK ri (Tok.le (PS.t p) :: sg) := ⟨by show rkS (Tok.le (PS.t p)) < ri; omega, h33⟩
      rcases thn_c h with ⟨p1, e1, e2⟩ | ⟨p1, e1, e2⟩
      · obtain ⟨rfl, rfl⟩ := Prod.mk.inj e2
        have h9 := (hin f (by omega) _ _ _ _ e1 hc1 ht1).1 rfl
        exact ⟨fun _ => hpush h9, fun z => by cases z⟩
      · have hk1 := hkp f _ _ e1
        have hc2 : SgC (emP 2 (Tok.le (PS.t p)) p1) sg := ⟨by rw [hc.1]; exact hk1.2.symm, by rw [hc.2.1]; exact hk1.1.symm, by show PS.dp p1 ≤ 8; rw [hk1.2]; exact hc.2.2⟩
        rcases (hin f (by omega) _ _ _ _ e1 hc1 ht1).2 rfl with ⟨hx, h9⟩ | ⟨hr3, hx, h9⟩
        · have hx2 : rkT (PS.t (emP 2 (Tok.le (PS.t p)) p1)) < ri := hx
          have hL := ih (fun f2 h2 => hin f2 (by omega)) _ _ _ _ e2 hc2 ht hx2
          have hstep : ∀ res, Rn tp T key false (PS.t (emP 2 (Tok.le (PS.t p)) p1)) sg (outP key (emP 2 (Tok.le (PS.t p)) p1)) (PS.sd (emP 2 (Tok.le (PS.t p)) p1)) res → Rn tp T key false (PS.t p) sg (outP key p) (PS.sd p) res := by
            intro res h8
            refine hpush (h9 res ?_)
            rw [cl_t (show ¬ (Tok.le (PS.t p) :: sg).headD 0 = 33 from h33)]
            obtain ⟨g, hg⟩ := h8
            refine ⟨g, ?_⟩
            show ru tp T key g false (PS.t p1) (Tok.le (PS.t p) :: sg) (outP key p1) (PS.sd p1) = some res
            rw [ru_ep (by omega) ?_ h40]
            · have eo : outP key (emP 2 (Tok.le (PS.t p)) p1) = outP key p1 ++ [-Tok.le (PS.t p)] := by
                unfold outP
                show List.map (cdO key) (PS.o p1 ++ [(2, Tok.le (PS.t p))]) = _
                rw [List.map_append]
                rfl
              rw [eo] at hg
              exact hg
            · rcases Nat.eq_zero_or_pos (rkT (PS.t p1)) with z | z
              · exact Or.inl z
              · right
                rw [hrk]
                unfold thS
                split <;> omega
          refine ⟨fun z => hstep _ (hL.1 z), fun z => ?_⟩
          rcases hL.2 z with ⟨y1, y2⟩ | ⟨y1, y2, y3⟩
          · exact Or.inl ⟨y1, fun res h7 => hstep res (y2 res h7)⟩
          · exact Or.inr ⟨y1, y2, hstep _ y3⟩
        · -- a comparison stands behind
          have hni : ¬ isop (emP 2 (Tok.le (PS.t p)) p1) := fun z => by
            have := hop _ z
            have hx : rkT (PS.t (emP 2 (Tok.le (PS.t p)) p1)) = 3 := hx
            unfold rkT at hx
            rw [if_pos this.1] at hx
            omega
          have e3 : some (true, emP 2 (Tok.le (PS.t p)) p1) = some (ok, p2) := by
            cases f with
            | zero =>
              have : pd tp T key 0 cl (emP 2 (Tok.le (PS.t p)) p1) = none := by cases cl <;> rfl
              rw [this] at e2; cases e2
            | succ f => rw [hpd, if_neg hni] at e2; exact e2
          obtain ⟨rfl, rfl⟩ := Prod.mk.inj (Option.some.inj e3)
          exact ⟨fun z => (by cases z), fun _ => Or.inr ⟨by omega, hx, hpush h9⟩⟩
    · rw [if_neg hi] at h
      obtain ⟨rfl, rfl⟩ := Prod.mk.inj (Option.some.inj h)
      have := hno p hi
      refine ⟨fun z => (by cases z), fun _ => ?_⟩
      rcases Nat.lt_or_ge (rkT (PS.t p)) r with y | y
      · exact Or.inl ⟨y, fun res h7 => by rw [cl_t ht.2] at h7; exact h7⟩
      · omega
/-- an inner level, then its loop -/
theorem lv_seq {r ri ci cl c : Nat} (hri : r < ri) (hr3 : 3 < ri ∨ r ≤ 3) (hpd : ∀ f p, pd tp T key (f + 1) c p = thn (pd tp T key f ci p) (pd tp T key f cl))
    (hkp : ∀ f p p2, pd tp T key f ci p = some (true, p2) → KpP p p2)
    {f : Nat} (hin : ∀ p ok p2 sg, pd tp T key f ci p = some (ok, p2) → SgC p sg → tOK ri sg → Lv tp T key ri true p ok p2 sg)
    (hlp : ∀ p ok p2 sg, pd tp T key f cl p = some (ok, p2) → SgC p sg → tOK r sg → rkT (PS.t p) < ri → Lv tp T key r false p ok p2 sg)
    (hsp : ∀ p ok p2, rkT (PS.t p) = 3 → ri ≤ 3 → pd tp T key f cl p = some (ok, p2) → ok = true ∧ p2 = p) :
    ∀ p ok p2 sg, pd tp T key (f + 1) c p = some (ok, p2) → SgC p sg → tOK r sg → Lv tp T key r true p ok p2 sg := by
  intro p ok p2 sg h hc ht
  rw [hpd] at h
  have ht1 : tOK ri sg := ⟨by have := ht.1; omega, ht.2⟩
  rcases thn_c h with ⟨p1, e1, e2⟩ | ⟨p1, e1, e2⟩
  · obtain ⟨rfl, rfl⟩ := Prod.mk.inj e2
    exact ⟨fun _ => (hin _ _ _ _ e1 hc ht1).1 rfl, fun z => by cases z⟩
  · have hk1 := hkp f _ _ e1
    have hc2 : SgC p1 sg := ⟨by rw [hc.1]; exact hk1.2.symm, by rw [hc.2.1]; exact hk1.1.symm, by show PS.dp p1 ≤ 8; rw [hk1.2]; exact hc.2.2⟩
    rcases (hin _ _ _ _ e1 hc ht1).2 rfl with ⟨hx, h9⟩ | ⟨y1, y2, y3⟩
    · have hL := hlp _ _ _ _ e2 hc2 ht hx
      have hst : ∀ res, Rn tp T key false (PS.t p1) sg (outP key p1) (PS.sd p1) res → Rn tp T key true (PS.t p) sg (outP key p) (PS.sd p) res := fun res h7 => h9 res (by rw [cl_t ht.2]; exact h7)
      refine ⟨fun z => hst _ (hL.1 z), fun z => ?_⟩
      rcases hL.2 z with ⟨w1, w2⟩ | ⟨w1, w2, w3⟩
      · exact Or.inl ⟨w1, fun res h7 => hst res (w2 res h7)⟩
      · exact Or.inr ⟨w1, w2, hst _ w3⟩
    · obtain ⟨rfl, rfl⟩ := hsp p1 ok p2 y2 y1 e2
      exact ⟨fun z => (by cases z), fun _ => Or.inr ⟨by omega, y2, y3⟩⟩
theorem Rn.cmp {t : Tok} {c : Int32} {sg out : List Int32} {ops : Nat} (h3 : rkT t = 3) (hc : rkS c = 3) : Rn tp T key false t (c :: sg) out ops (.inl (Tok.b t)) := by
  refine ⟨1, ?_⟩
  have hk : Tok.k t = 3 := by
    unfold rkT at h3
    split at h3
    · assumption
    · cases h3
  have hr : rkS (Tok.le t) = 3 := by unfold rkT at h3; rw [if_pos hk] at h3; exact h3
  have h41 : ¬ (Tok.k t = 3 ∧ Tok.le t = 41) := fun z => by rw [z.2] at hr; exact absurd hr (by decide)
  simp only [ru]
  rw [if_neg (by rw [hk]; decide), if_neg (by decide), if_neg h41, if_pos ⟨hk, by omega⟩, hr, po_t (show rkS ((c :: sg).headD 0) < thS 3 by show rkS c < 4; omega), if_pos ⟨rfl, hc⟩]
/-- what is no sign between operands, nor a bracket to be closed, is a fault -/
theorem Rn.bad {t : Tok} {sg out : List Int32} {ops : Nat} (h0 : rkT t = 0) (hk : Tok.k t = 0 → 0 < cntL 40 sg) (h41 : Tok.k t = 3 → Tok.le t = 41 → cntL 40 sg = 0) : Rn tp T key false t sg out ops (.inl (Tok.b t)) := by
  refine ⟨1, ?_⟩
  simp only [ru]
  by_cases z : Tok.k t = 0
  · rw [if_pos z, if_pos (Or.inr (hk z))]
  · rw [if_neg z, if_neg (by decide)]
    by_cases y : Tok.k t = 3 ∧ Tok.le t = 41
    · rw [if_pos y, if_pos (h41 y.1 y.2)]
    · rw [if_neg y, if_neg]
      rintro ⟨a, b⟩
      unfold rkT at h0
      rw [if_pos a] at h0
      omega
theorem lv_test {f : Nat} (hkp : ∀ f p p2, pd tp T key f 3 p = some (true, p2) → KpP p p2) (hin : ∀ p ok p2 sg, pd tp T key f 3 p = some (ok, p2) → SgC p sg → tOK 4 sg → Lv tp T key 4 true p ok p2 sg) :
    ∀ p ok p2 sg, pd tp T key (f + 1) 5 p = some (ok, p2) → SgC p sg → tOK 3 sg → Lv tp T key 3 true p ok p2 sg := by
  intro p ok p2 sg h hc ht
  rw [pd_5] at h
  have ht1 : tOK 4 sg := ⟨by have := ht.1; omega, ht.2⟩
  rcases thn_c h with ⟨p1, e1, e2⟩ | ⟨p1, e1, e2⟩
  · obtain ⟨rfl, rfl⟩ := Prod.mk.inj e2
    exact ⟨fun _ => (hin _ _ _ _ e1 hc ht1).1 rfl, fun z => by cases z⟩
  · have hk1 := hkp f _ _ e1
    have hc2 : SgC p1 sg := ⟨by rw [hc.1]; exact hk1.2.symm, by rw [hc.2.1]; exact hk1.1.symm, by rw [hk1.2]; exact hc.2.2⟩
    rcases (hin _ _ _ _ e1 hc ht1).2 rfl with ⟨hx, h9⟩ | ⟨y1, _⟩
    · have hst : ∀ res, Rn tp T key false (PS.t p1) sg (outP key p1) (PS.sd p1) res → Rn tp T key true (PS.t p) sg (outP key p) (PS.sd p) res := fun res h7 => h9 res (by rw [cl_t ht.2]; exact h7)
      by_cases hi : sgnB p1 60 = true ∨ sgnB p1 61 = true ∨ sgnB p1 62 = true
      · rw [if_pos hi] at e2
        obtain ⟨hk, hle⟩ : Tok.k (PS.t p1) = 3 ∧ (Tok.le (PS.t p1) = 60 ∨ Tok.le (PS.t p1) = 61 ∨ Tok.le (PS.t p1) = 62) := by
          rcases hi with z | z | z
          · exact ⟨(sg_k3 z).1, Or.inl (sg_k3 z).2⟩
          · exact ⟨(sg_k3 z).1, Or.inr (Or.inl (sg_k3 z).2)⟩
          · exact ⟨(sg_k3 z).1, Or.inr (Or.inr (sg_k3 z).2)⟩
        have hrk : rkS (Tok.le (PS.t p1)) = 3 := by rcases hle with z | z | z <;> rw [z] <;> decide
        have h33 : ¬ Tok.le (PS.t p1) = 33 := by rcases hle with z | z | z <;> rw [z] <;> decide
        have h40 : ¬ Tok.le (PS.t p1) = 40 := by rcases hle with z | z | z <;> rw [z] <;> decide
        have hpush : ∀ {out ops res}, Rn tp T key true (PS.t (nxP tp T p1)) (Tok.le (PS.t p1) :: sg) out ops res → Rn tp T key false (PS.t p1) sg out ops res := fun h9 => Rn.push hk (by omega) (by rw [hrk]; show rkS (sg.headD 0) < 4; have := ht.1; omega) (by have := ht.1; omega) h9
        have hc3 : SgC (nxP tp T p1) (Tok.le (PS.t p1) :: sg) := ⟨by show cntL 40 sg + _ = _; rw [if_neg h40]; exact hc2.1, by show cntL 33 sg + _ = _; rw [if_neg h33]; exact hc2.2.1, hc2.2.2⟩
        have ht3 : tOK 4 (Tok.le (PS.t p1) :: sg) := ⟨by show rkS (Tok.le (PS.t p1)) < 4; omega, h33⟩
        rcases thn_c e2 with ⟨p3, e3, e4⟩ | ⟨p3, e3, e4⟩
        · obtain ⟨rfl, rfl⟩ := Prod.mk.inj e4
          exact ⟨fun _ => hst _ (hpush ((hin _ _ _ _ e3 hc3 ht3).1 rfl)), fun z => by cases z⟩
        · obtain ⟨rfl, rfl⟩ := Prod.mk.inj (Option.some.inj e4)
          refine ⟨fun z => (by cases z), fun _ => ?_⟩
          rcases (hin _ _ _ _ e3 hc3 ht3).2 rfl with ⟨hx3, h8⟩ | ⟨y1, _⟩
          · have hcl := cl_t (out := outP key p3) (show ¬ (Tok.le (PS.t p1) :: sg).headD 0 = 33 from h33)
            by_cases h3 : rkT (PS.t p3) = 3
            · refine Or.inr ⟨by omega, h3, hst _ (hpush (h8 _ ?_))⟩
              rw [hcl]
              exact Rn.cmp h3 hrk
            · refine Or.inl ⟨by show rkT (PS.t p3) < 3; omega, fun res h7 => hst _ (hpush (h8 res ?_))⟩
              rw [hcl]
              rw [cl_t ht.2] at h7
              obtain ⟨g, hg⟩ := h7
              refine ⟨g, ?_⟩
              show ru tp T key g false (PS.t p3) (Tok.le (PS.t p1) :: sg) (outP key p3) (PS.sd p3) = some res
              rw [ru_ep (by omega) ?_ h40]
              · have eo : outP key (emP 2 (Tok.le (PS.t p1)) p3) = outP key p3 ++ [-Tok.le (PS.t p1)] := by
                  unfold outP
                  show List.map (cdO key) (PS.o p3 ++ [(2, Tok.le (PS.t p1))]) = _
                  rw [List.map_append]
                  rfl
                rw [eo] at hg
                exact hg
              · rcases Nat.eq_zero_or_pos (rkT (PS.t p3)) with z | z
                · exact Or.inl z
                · right
                  rw [hrk]
                  unfold thS
                  split <;> omega
          · omega
      · rw [if_neg hi] at e2
        obtain ⟨rfl, rfl⟩ := Prod.mk.inj (Option.some.inj e2)
        refine ⟨fun z => (by cases z), fun _ => Or.inl ⟨?_, h9⟩⟩
        have h3 : ¬ rkT (PS.t p1) = 3 := by
          intro z
          unfold rkT at z
          split at z
          · rename_i hk
            apply hi
            unfold rkS at z
            unfold sgnB
            rw [hk]
            repeat' split at z
            all_goals first | omega | skip
            rename_i hq
            rcases hq with w | w | w <;> rw [w] <;> simp
          · cases z
        omega
    · omega
theorem lv_part {f : Nat} (hin : ∀ p ok p2 sg, pd tp T key f 0 p = some (ok, p2) → SgC p sg → Lv tp T key 6 true p ok p2 sg) (hE : ∀ p ok p2 sg, pd tp T key f 8 p = some (ok, p2) → SgC p sg → tOK 1 sg → Lv tp T key 1 true p ok p2 sg) :
    ∀ p ok p2 sg, pd tp T key (f + 1) 0 p = some (ok, p2) → SgC p sg → Lv tp T key 6 true p ok p2 sg := by
  intro p ok p2 sg h hc
  rw [pd_0] at h
  have h6 : ∀ t, rkT t < 6 := fun t => by have := rkT_le t; omega
  by_cases k2 : Tok.k (PS.t p) = 2
  · rw [if_pos k2] at h
    obtain ⟨rfl, rfl⟩ := Prod.mk.inj (Option.some.inj h)
    refine ⟨fun z => (by cases z), fun _ => Or.inl ⟨h6 _, ?_⟩⟩
    rintro r ⟨g, hg⟩
    refine ⟨g + 1, ?_⟩
    simp only [ru]
    rw [if_neg (by rw [k2]; decide), if_pos trivial, if_pos k2]
    have eo : outP key (nxP tp T (sdP (emP 0 (Tok.nu (PS.t p)) p))) = outP key p ++ [Tok.nu (PS.t p)] := by
      show List.map (cdO key) (PS.o p ++ [(0, Tok.nu (PS.t p))]) = _
      rw [List.map_append]
      rfl
    rw [eo] at hg
    exact hg
  · rw [if_neg k2] at h
    by_cases k1 : Tok.k (PS.t p) = 1 ∧ ¬ Tok.le (PS.t p) = 0 ∧ nmB key (Tok.le (PS.t p)) = true
    · rw [if_pos k1] at h
      obtain ⟨rfl, rfl⟩ := Prod.mk.inj (Option.some.inj h)
      refine ⟨fun z => (by cases z), fun _ => Or.inl ⟨h6 _, ?_⟩⟩
      rintro r ⟨g, hg⟩
      refine ⟨g + 1, ?_⟩
      simp only [ru]
      rw [if_neg (by rw [k1.1]; decide), if_pos trivial, if_neg k2, if_pos k1]
      have eo : outP key (nxP tp T (sdP (emP 1 (Tok.le (PS.t p)) p))) = outP key p ++ [nI (10000 + nmP key (Tok.le (PS.t p)))] := by
        show List.map (cdO key) (PS.o p ++ [(1, Tok.le (PS.t p))]) = _
        rw [List.map_append]
        rfl
      rw [eo] at hg
      exact hg
    · rw [if_neg k1] at h
      by_cases kn : sgnB p 33 = true ∧ PS.tn p < 8
      · rw [if_pos kn] at h
        obtain ⟨hk, hle⟩ := sg_k3 kn.1
        have hpush : ∀ {out ops res}, Rn tp T key true (PS.t (nxP tp T (tnP (PS.tn p + 1) p))) (33 :: sg) out ops res → Rn tp T key true (PS.t p) sg out ops res := by
          rintro out ops res ⟨g, hg⟩
          refine ⟨g + 1, ?_⟩
          simp only [ru]
          rw [if_neg (by rw [hk]; decide), if_pos trivial, if_neg k2, if_neg k1, if_pos ⟨hk, hle, by rw [hc.2.1]; exact kn.2⟩]
          exact hg
        have hc1 : SgC (nxP tp T (tnP (PS.tn p + 1) p)) (33 :: sg) := ⟨by show cntL 40 sg + _ = _; rw [if_neg (by decide)]; exact hc.1, by show cntL 33 sg + _ = _; rw [if_pos rfl, hc.2.1]; rfl, hc.2.2⟩
        rcases thn_c h with ⟨p1, e1, e2⟩ | ⟨p1, e1, e2⟩
        · obtain ⟨rfl, rfl⟩ := Prod.mk.inj e2
          exact ⟨fun _ => hpush ((hin _ _ _ _ e1 hc1).1 rfl), fun z => by cases z⟩
        · obtain ⟨rfl, rfl⟩ := Prod.mk.inj (Option.some.inj e2)
          refine ⟨fun z => (by cases z), fun _ => Or.inl ⟨h6 _, ?_⟩⟩
          rcases (hin _ _ _ _ e1 hc1).2 rfl with ⟨_, h9⟩ | ⟨y1, _⟩
          · intro r h7
            refine hpush (h9 r ?_)
            have eo : outP key (emP 2 33 (tnP (PS.tn p1 - 1) p1)) = outP key p1 ++ [-33] := by
              show List.map (cdO key) (PS.o p1 ++ [(2, 33)]) = _
              rw [List.map_append]
              rfl
            rw [eo] at h7
            exact h7
          · omega
      · rw [if_neg kn] at h
        by_cases kb : sgnB p 40 = true ∧ ¬ PS.dp p = 8
        · rw [if_pos kb] at h
          obtain ⟨hk, hle⟩ := sg_k3 kb.1
          have hn33 : ¬ (Tok.k (PS.t p) = 3 ∧ Tok.le (PS.t p) = 33 ∧ cntL 33 sg < 8) := fun z => by rw [hle] at z; exact absurd z.2.1 (by decide)
          have hd8 := hc.2.2
          have hpush : ∀ {out ops res}, Rn tp T key true (PS.t (nxP tp T (dpP (PS.dp p + 1) p))) (40 :: sg) out ops res → Rn tp T key true (PS.t p) sg out ops res := by
            rintro out ops res ⟨g, hg⟩
            refine ⟨g + 1, ?_⟩
            simp only [ru]
            rw [if_neg (by rw [hk]; decide), if_pos trivial, if_neg k2, if_neg k1, if_neg hn33, if_pos ⟨hk, hle, by rw [hc.1]; omega⟩]
            exact hg
          have hc1 : SgC (nxP tp T (dpP (PS.dp p + 1) p)) (40 :: sg) := ⟨by show cntL 40 sg + _ = _; rw [if_pos rfl, hc.1]; rfl, by show cntL 33 sg + _ = _; rw [if_neg (by decide)]; exact hc.2.1, by show PS.dp p + 1 ≤ 8; omega⟩
          have ht1 : tOK 1 (40 :: sg) := ⟨by show rkS 40 < 1; decide, by show ¬ (40 : Int32) = 33; decide⟩
          have hcl : ∀ out, clS (40 :: sg) out = (40 :: sg, out) := fun out => cl_t (by show ¬ (40 : Int32) = 33; decide)
          have hc40 : 0 < cntL 40 (40 :: sg) := by show 0 < cntL 40 sg + _; rw [if_pos rfl]; omega
          rcases thn_c h with ⟨p1, e1, e2⟩ | ⟨p1, e1, e2⟩
          · obtain ⟨rfl, rfl⟩ := Prod.mk.inj e2
            exact ⟨fun _ => hpush ((hE _ _ _ _ e1 hc1 ht1).1 rfl), fun z => by cases z⟩
          · by_cases h41 : sgnB p1 41 = true
            · rw [if_pos h41] at e2
              obtain ⟨rfl, rfl⟩ := Prod.mk.inj (Option.some.inj e2)
              obtain ⟨hk1, hle1⟩ := sg_k3 h41
              refine ⟨fun z => (by cases z), fun _ => Or.inl ⟨h6 _, ?_⟩⟩
              rcases (hE _ _ _ _ e1 hc1 ht1).2 rfl with ⟨_, h9⟩ | ⟨_, y2, _⟩
              · rintro r ⟨g, hg⟩
                refine hpush (h9 r ⟨g + 1, ?_⟩)
                rw [hcl]
                simp only [ru]
                rw [if_neg (by rw [hk1]; decide), if_neg (by decide), if_pos ⟨hk1, hle1⟩, if_neg (by omega), po_t (show rkS ((40 :: sg : List Int32).headD 0) < 1 by show rkS 40 < 1; decide)]
                exact hg
              · unfold rkT at y2
                rw [if_pos hk1, hle1] at y2
                exact absurd y2 (by decide)
            · rw [if_neg h41] at e2
              obtain ⟨rfl, rfl⟩ := Prod.mk.inj (Option.some.inj e2)
              refine ⟨fun _ => ?_, fun z => by cases z⟩
              rcases (hE _ _ _ _ e1 hc1 ht1).2 rfl with ⟨hx, h9⟩ | ⟨_, _, y3⟩
              · refine hpush (h9 _ ?_)
                rw [hcl]
                exact Rn.bad (by omega) (fun _ => hc40) (fun a b => absurd (by unfold sgnB; rw [a, b]; rfl) h41)
              · exact hpush y3
        · rw [if_neg kb] at h
          obtain ⟨rfl, rfl⟩ := Prod.mk.inj (Option.some.inj h)
          refine ⟨fun _ => ⟨1, ?_⟩, fun z => by cases z⟩
          simp only [ru]
          by_cases k0 : Tok.k (PS.t p) = 0
          · rw [if_pos k0, if_pos (Or.inl trivial)]
          · rw [if_neg k0, if_pos trivial, if_neg k2, if_neg k1, if_neg, if_neg]
            · rintro ⟨a, b, c⟩
              exact kb ⟨by unfold sgnB; rw [a, b]; rfl, by rw [hc.1] at c; omega⟩
            · rintro ⟨a, b, c⟩
              exact kn ⟨by unfold sgnB; rw [a, b]; rfl, by rw [hc.2.1] at c; exact c⟩
end
