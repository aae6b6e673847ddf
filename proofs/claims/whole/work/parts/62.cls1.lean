/-! THE CLASS'S WORLD -/
def shT : List Sh := [(13, 20), (0, 10), (0, 10), (0, 8), (0, 8), (0, 8), (0, 8), (0, 6), (0, 6), (3, 14), (0, 3), (0, 96)]
/-- a town's references: field to cell, from the town's own on -/
def ttab : Nat → Option Nat
  | 2 => some 1 | 3 => some 2 | 5 => some 3 | 6 => some 4 | 7 => some 5 | 8 => some 6 | 11 => some 7 | 12 => some 8 | 17 => some 9 | 18 => some 10 | 19 => some 11 | _ => none
def shC : List Sh := [(15, 14), (1, 6), (8, 0), (10, 0), (6, 0), (4, 0), (7, 0), (5, 0), (13, 20), (0, 10), (0, 10), (0, 8), (0, 8), (0, 8), (0, 8), (0, 6), (0, 6), (3, 14), (0, 3), (0, 96), (13, 20), (0, 10), (0, 10), (0, 8), (0, 8), (0, 8), (0, 8), (0, 6), (0, 6), (3, 14), (0, 3), (0, 96), (13, 20), (0, 10), (0, 10), (0, 8), (0, 8), (0, 8), (0, 8), (0, 6), (0, 6), (3, 14), (0, 3), (0, 96), (14, 4), (0, 8), (0, 8), (0, 10), (9, 14), (0, 96), (0, 96), (0, 96), (2, 4), (11, 3), (0, 24), (11, 3), (0, 24), (11, 3), (0, 24), (11, 3), (0, 24), (0, 5), (0, 5), (0, 5), (2, 5), (11, 3), (0, 24), (11, 3), (0, 24), (11, 3), (0, 24), (11, 3), (0, 24), (11, 3), (0, 24), (0, 60)]
/-- the class's number of a kind -/
def kcl : Nat → Nat
  | 0 => 4 | 1 => 6 | 2 => 2 | 3 => 0 | 4 => 3 | _ => 1
/-- the references that never change -/
def ctab : Nat → Nat → Option Nat
  | 0, 0 => some 1 | 0, 1 => some 8 | 0, 2 => some 20 | 0, 3 => some 32 | 0, 5 => some 44 | 0, 6 => some 48 | 0, 7 => some 52 | 0, 8 => some 61 | 0, 9 => some 62 | 0, 10 => some 63 | 0, 11 => some 64 | 0, 12 => some 75
  | 1, 0 => some 2 | 1, 1 => some 3 | 1, 2 => some 4 | 1, 3 => some 5 | 1, 4 => some 6 | 1, 5 => some 7
  | 8, 0 => some 1 | 8, 2 => some 9 | 8, 3 => some 10 | 8, 5 => some 11 | 8, 6 => some 12 | 8, 7 => some 13 | 8, 8 => some 14 | 8, 11 => some 15 | 8, 12 => some 16 | 8, 17 => some 17 | 8, 18 => some 18 | 8, 19 => some 19
  | 20, 0 => some 1 | 20, 2 => some 21 | 20, 3 => some 22 | 20, 5 => some 23 | 20, 6 => some 24 | 20, 7 => some 25 | 20, 8 => some 26 | 20, 11 => some 27 | 20, 12 => some 28 | 20, 17 => some 29 | 20, 18 => some 30 | 20, 19 => some 31
  | 32, 0 => some 1 | 32, 2 => some 33 | 32, 3 => some 34 | 32, 5 => some 35 | 32, 6 => some 36 | 32, 7 => some 37 | 32, 8 => some 38 | 32, 11 => some 39 | 32, 12 => some 40 | 32, 17 => some 41 | 32, 18 => some 42 | 32, 19 => some 43
  | 44, 1 => some 45 | 44, 2 => some 46 | 44, 3 => some 47
  | 48, 0 => some 49 | 48, 7 => some 50 | 48, 10 => some 51
  | 52, 0 => some 53 | 52, 1 => some 55 | 52, 2 => some 57 | 52, 3 => some 59
  | 53, 2 => some 54 | 55, 2 => some 56 | 57, 2 => some 58 | 59, 2 => some 60
  | 64, 0 => some 65 | 64, 1 => some 67 | 64, 2 => some 69 | 64, 3 => some 71 | 64, 4 => some 73
  | 65, 2 => some 66 | 67, 2 => some 68 | 69, 2 => some 70 | 71, 2 => some 72 | 73, 2 => some 74
  | _, _ => none
def SHC (sh : List Sh) : Prop := ∀ (k : Nat) (x : Sh), shC[k]? = some x → sh[k]? = some x
def CB (mr : MR) : Prop := ∀ a k b, ctab a k = some b → mr a k = some b
def KB (sh : List Sh) (mr : MR) : Prop := sh[1]? = some (1, 6) ∧ (∀ k, k < 6 → mr 1 k = some (2 + k)) ∧ ∀ k, k < 6 → sh[2 + k]? = some (kcl k + 4, 0)
def TB (sh : List Sh) (mr : MR) (b : Nat) : Prop := (∀ (k : Nat) (x : Sh), shT[k]? = some x → sh[b + k]? = some x) ∧ (∀ k c, ttab k = some c → mr b k = some (b + c)) ∧ mr b 0 = some 1 ∧ KB sh mr
def isT (b : Nat) : Prop := b = 8 ∨ b = 20 ∨ b = 32
theorem KB.of {sh : List Sh} {mr : MR} (hF : SHC sh) (hB : CB mr) : KB sh mr := by
  refine ⟨hF 1 _ rfl, fun k hk => hB 1 k _ ((by decide : ∀ k, k < 6 → ctab 1 k = some (2 + k)) k hk), fun k hk => ?_⟩
  match k, hk with
  | 0, _ => exact hF 2 _ rfl
  | 1, _ => exact hF 3 _ rfl
  | 2, _ => exact hF 4 _ rfl
  | 3, _ => exact hF 5 _ rfl
  | 4, _ => exact hF 6 _ rfl
  | 5, _ => exact hF 7 _ rfl
theorem shT_at : ∀ b, isT b → ∀ k, k < 12 → shC[b + k]? = shT[k]? := by
  intro b hb
  rcases hb with rfl | rfl | rfl <;> decide
theorem ttab_k : ∀ b, isT b → ∀ k, k < 20 → (ttab k).isSome = true → ctab b k = (ttab k).map (fun c => b + c) := by
  intro b hb
  rcases hb with rfl | rfl | rfl <;> decide
theorem ttab_c : ∀ b, isT b → ∀ k c, ttab k = some c → ctab b k = some (b + c) := by
  intro b hb k c h
  have hk : k < 20 := by
    rcases Nat.lt_or_ge k 20 with z | z
    · exact z
    · obtain ⟨j, rfl⟩ : ∃ j, k = j + 20 := ⟨k - 20, by omega⟩
      cases h
  rw [ttab_k b hb k hk (by rw [h]; rfl), h]
  rfl
theorem TB.of {sh : List Sh} {mr : MR} (hF : SHC sh) (hB : CB mr) {b : Nat} (hb : isT b) : TB sh mr b := by
  refine ⟨fun k x hx => ?_, fun k c hc => hB b k _ (ttab_c b hb k c hc), ?_, KB.of hF hB⟩
  · have hk : k < 12 := (List.getElem?_eq_some_iff.mp hx).1
    exact hF _ _ ((shT_at b hb k hk).trans hx)
  · rcases hb with rfl | rfl | rfl
    · exact hB 8 0 _ rfl
    · exact hB 20 0 _ rfl
    · exact hB 32 0 _ rfl
/-- super.m(..), a whole number, nothing changed -/
theorem uP1 {d : Nat} {μ μ2 : Mt} {pc : Nat} {L S : List Value} {sh : List Sh} {mi : MI} {mr : MR} {cb sb idx : Nat} {Q : QT} {r : Int32} {v1 : Value} {a c0 n0 : Nat} {q0 : vw_C} (hd : decode μ.2.1 pc = .ok (.invokespecial idx, 3)) (h : sh[a]? = some (c0 + 4, n0)) (hq : cls[c0]? = some q0) (hnm2 : μ2.1.name ≠ "<init>") (hl2 : Cond.methodLink μ.1.cls idx μ2.1 ∈ lw_tbl) (hsm : Cond.sameMethod μ2.1.cls μ2.1.cls μ2.1.name μ2.1.desc ∈ lw_tbl) (hsu : Cond.superclass μ.1.cls μ2.1.cls ∈ lw_tbl) (hi2 : Cond.instanceMethod μ2.1 ∈ lw_tbl) (hmw : MW μ2 1) (hS8 : (S.map c12).sum ≤ 8) (hcp : CP d μ2 [.ref a, v1] sh mi mr 0 0 (PI r sh mi mr)) (k : WP (d + 1) μ (pc + 3) L (.int r :: S) sh mi mr cb sb Q) : WP (d + 1) μ pc L (v1 :: .ref a :: S) sh mi mr cb sb Q :=
  r_super (as := [v1]) hd rfl h hq hnm2 hl2 hsm hsu hi2 hcp hmw hS8 (by rintro v sh2 mi2 mr2 ⟨rfl, rfl, rfl, rfl⟩; exact k)
theorem uP2 {d : Nat} {μ μ2 : Mt} {pc : Nat} {L S : List Value} {sh : List Sh} {mi : MI} {mr : MR} {cb sb idx : Nat} {Q : QT} {r : Int32} {v1 v2 : Value} {a c0 n0 : Nat} {q0 : vw_C} (hd : decode μ.2.1 pc = .ok (.invokespecial idx, 3)) (h : sh[a]? = some (c0 + 4, n0)) (hq : cls[c0]? = some q0) (hnm2 : μ2.1.name ≠ "<init>") (hl2 : Cond.methodLink μ.1.cls idx μ2.1 ∈ lw_tbl) (hsm : Cond.sameMethod μ2.1.cls μ2.1.cls μ2.1.name μ2.1.desc ∈ lw_tbl) (hsu : Cond.superclass μ.1.cls μ2.1.cls ∈ lw_tbl) (hi2 : Cond.instanceMethod μ2.1 ∈ lw_tbl) (hmw : MW μ2 2) (hS8 : (S.map c12).sum ≤ 8) (hcp : CP d μ2 [.ref a, v1, v2] sh mi mr 0 0 (PI r sh mi mr)) (k : WP (d + 1) μ (pc + 3) L (.int r :: S) sh mi mr cb sb Q) : WP (d + 1) μ pc L (v2 :: v1 :: .ref a :: S) sh mi mr cb sb Q :=
  r_super (as := [v1, v2]) hd rfl h hq hnm2 hl2 hsm hsu hi2 hcp hmw hS8 (by rintro v sh2 mi2 mr2 ⟨rfl, rfl, rfl, rfl⟩; exact k)
theorem tP1 {d : Nat} {μ μ2 : Mt} {pc : Nat} {L S : List Value} {sh : List Sh} {mi : MI} {mr : MR} {cb sb idx : Nat} {Q : QT} {r : Int32} {v1 : Value} {a c0 n0 : Nat} {q0 : vw_C} {x : MethodName} (hd : decode μ.2.1 pc = .ok (.invokespecial idx, 3)) (h : sh[a]? = some (c0 + 4, n0)) (hq : cls[c0]? = some q0) (hnm2 : x.name ≠ "<init>") (hxy : x.name = μ2.1.name ∧ x.desc = μ2.1.desc) (hl2 : Cond.methodLink μ.1.cls idx x ∈ lw_tbl) (hsm : Cond.sameMethod x.cls μ2.1.cls x.name x.desc ∈ lw_tbl) (hsu : Cond.superclass μ.1.cls x.cls ∈ lw_tbl) (hsu2 : Cond.superclass x.cls μ2.1.cls ∈ lw_tbl) (hi2 : Cond.instanceMethod μ2.1 ∈ lw_tbl) (hmw : MW μ2 1) (hS8 : (S.map c12).sum ≤ 8) (hcp : CP d μ2 [.ref a, v1] sh mi mr 0 0 (PI r sh mi mr)) (k : WP (d + 1) μ (pc + 3) L (.int r :: S) sh mi mr cb sb Q) : WP (d + 1) μ pc L (v1 :: .ref a :: S) sh mi mr cb sb Q :=
  r_superU (as := [v1]) hd rfl h hq hnm2 hxy hl2 hsm hsu hsu2 hi2 hcp hmw hS8 (by rintro v sh2 mi2 mr2 ⟨rfl, rfl, rfl, rfl⟩; exact k)
