def PDP (m0 : MI) (tp at_ pend : Nat) (ok : Bool) (p2 : PS) (mi2 : MI) : Prop := PM m0 mi2 tp at_ p2 ∧ TOK tp (PS.t p2) ∧ (ok = true → (PS.o p2).length + pend ≤ Tok.b (PS.t p2))
/-- the method of a code keeps to pd at fuel f -/
def PDC (m0 : MI) (mr : MR) (tp at_ : Nat) (key : Int32) (μ : Mt) (f code : Nat) : Prop := ∀ D, f + 3 ≤ D → ∀ (mi : MI) (p : PS) (ok : Bool) (p2 : PS) (pend : Nat), PM m0 mi tp at_ p → TOK tp (PS.t p) → (PS.tn p ≤ 8 ∧ PS.dp p ≤ 8) → (PS.o p).length + pend ≤ Tok.b (PS.t p) → pd tp (m0 13) key f code p = some (ok, p2) → CP D μ [.ref 0, .int key] shM mi mr 0 0 (PX shM mr (fun r mi2 => r = b2i ok ∧ PDP m0 tp at_ pend ok p2 mi2))
theorem e_nextD {D tp at_ : Nat} {m0 mi : MI} {mr : MR} {p : PS} (hD : 2 ≤ D) (hM : MB mr) (h : PM m0 mi tp at_ p) (h96 : tp ≤ 96) (he : Tok.e (PS.t p) ≤ tp) : CP D mX12_nextToken [.ref 0] shM mi mr 0 0 (PV shM mr (fun mi2 => PM m0 mi2 tp at_ (nxP tp (m0 13) p))) := by
  obtain ⟨d, rfl⟩ : ∃ d, D = d + 2 := ⟨D - 2, by omega⟩
  exact e_next hM h h96 he
theorem nx_tok {tp : Nat} {T : Rw} {p : PS} (h96 : tp ≤ 96) (ht : TOK tp (PS.t p)) : TOK tp (PS.t (nxP tp T p)) ∧ Tok.e (PS.t p) ≤ Tok.b (PS.t (nxP tp T p)) := nxT_ok h96 ht.2.1
theorem sgn_k {p : PS} {c : Int32} (h : sgnB p c = true) : Tok.k (PS.t p) = 3 ∧ Tok.le (PS.t p) = c := by
  unfold sgnB at h
  simp only [Bool.and_eq_true, decide_eq_true_eq] at h
  exact h
theorem sgn_lt {tp : Nat} {p : PS} {c : Int32} (ht : TOK tp (PS.t p)) (h : sgnB p c = true) : Tok.b (PS.t p) < Tok.e (PS.t p) := ht.2.2 (by rw [(sgn_k h).1]; decide)

theorem lp_pdTB {m0 : MI} {mr : MR} (hM : MB mr) {tp at_ : Nat} (h96 : tp ≤ 96) (hat : at_ ≤ 2880) {key : Int32} {f2 : Nat} {D : Nat} {Q : QT} {mi : MI} {p : PS} {ok : Bool} {p2 : PS} {pend : Nat} {c : Int32} (ihP : PDC m0 mr tp at_ key mX12_part0 f2 0)
    (ihL : ∀ D, f2 + 3 ≤ D → ∀ (Q : QT) (mi : MI) (p : PS) (ok : Bool) (p2 : PS) (pend : Nat), PM m0 mi tp at_ p → TOK tp (PS.t p) → (PS.tn p ≤ 8 ∧ PS.dp p ≤ 8) → (PS.o p).length + pend ≤ Tok.b (PS.t p) → pd tp (m0 13) key f2 2 p = some (ok, p2) → (∀ mi2, PDP m0 tp at_ pend ok p2 mi2 → Q (some (.int (b2i ok))) shM mi2 mr) → ∀ x2 : Value, catL x2 = true → WP (D + 1) mX12_term 10 [.ref 0, .int key, x2] [] shM mi mr 0 0 Q)
    (hD : f2 + 3 ≤ D) (hPM : PM m0 mi tp at_ p) (hT : TOK tp (PS.t p)) (htd : PS.tn p ≤ 8 ∧ PS.dp p ≤ 8) (hB : (PS.o p).length + (pend + 1) ≤ Tok.b (PS.t p)) (hp : thn (pd tp (m0 13) key f2 0 p) (fun p2 => pd tp (m0 13) key f2 2 (emP 2 c p2)) = some (ok, p2)) (hq : ∀ mi2, PDP m0 tp at_ pend ok p2 mi2 → Q (some (.int (b2i ok))) shM mi2 mr) :
    WP (D + 1) mX12_term 37 [.ref 0, .int key, .int c] [] shM mi mr 0 0 Q := by
  rcases thn_c hp with ⟨p1, h1, h2⟩ | ⟨p1, h1, h2⟩
  · obtain ⟨rfl, rfl⟩ := Prod.mk.inj h2
    refine r_aload_n (μ := mX12_term) (pc := 37) dX12_term_37 rfl rfl rfl ?_
    refine r_iload_n (μ := mX12_term) (pc := 38) dX12_term_38 rfl rfl ?_
    refine vX1 (μ := mX12_term) (pc := 39) (c0 := 12) (q0 := (RX12, TX12, 34)) (μ2 := mX12_part0) dX12_term_39 rfl rfl lkX12_278 imX12_part0 seX12_X12_part0_X12_part0 mwX12_part0 (Nat.le_of_ble_eq_true rfl) (ihP D hD _ _ _ _ _ hPM hT htd hB h1) (fun r_39 mi_39 h_39 => ?_)
    obtain ⟨rfl, hP1⟩ := h_39
    refine r_if_ne (μ := mX12_term) (pc := 42) (tgt := 47) dX12_term_42 (by decide) (fun h_42 => absurd (b2i_eq rfl) h_42) (fun h_42 => ?_)
    refine r_iconst (μ := mX12_term) (pc := 45) (v := 0) dX12_term_45 ic_0 ?_
    exact r_iret (μ := mX12_term) (pc := 46) dX12_term_46 rfl rfl (hq _ ⟨hP1.1, hP1.2.1, fun z => Bool.noConfusion z⟩)
  · refine r_aload_n (μ := mX12_term) (pc := 37) dX12_term_37 rfl rfl rfl ?_
    refine r_iload_n (μ := mX12_term) (pc := 38) dX12_term_38 rfl rfl ?_
    refine vX1 (μ := mX12_term) (pc := 39) (c0 := 12) (q0 := (RX12, TX12, 34)) (μ2 := mX12_part0) dX12_term_39 rfl rfl lkX12_278 imX12_part0 seX12_X12_part0_X12_part0 mwX12_part0 (Nat.le_of_ble_eq_true rfl) (ihP D hD _ _ _ _ _ hPM hT htd hB h1) (fun r_39 mi_39 h_39 => ?_)
    obtain ⟨rfl, hP1⟩ := h_39
    refine r_if_ne (μ := mX12_term) (pc := 42) (tgt := 47) dX12_term_42 (by decide) (fun h_42 => ?_) (fun h_42 => absurd h_42 (b2i_ne rfl))
    refine r_aload_n (μ := mX12_term) (pc := 47) dX12_term_47 rfl rfl rfl ?_
    refine r_iconst (μ := mX12_term) (pc := 48) (v := 2) dX12_term_48 ic_2 ?_
    refine r_iload_n (μ := mX12_term) (pc := 49) dX12_term_49 rfl rfl ?_
    refine vV2 (μ := mX12_term) (pc := 50) (c0 := 12) (q0 := (RX12, TX12, 34)) (μ2 := mX12_step) dX12_term_50 rfl rfl lkX12_266 imX12_step seX12_X12_step_X12_step mwX12_step (Nat.le_of_ble_eq_true rfl) (e_step hM hP1.1 (by have := hP1.2.2 rfl; have := hP1.2.1.1; have := hP1.2.1.2.1; omega)) (fun mi_50 h_50 => ?_)
    refine r_goto (μ := mX12_term) (pc := 53) (tgt := 10) dX12_term_53 (by decide) ?_
    exact ihL D hD Q _ _ _ _ pend h_50 hP1.2.1 ((pd_keep _ _ _ _ h1).le htd) (by show (PS.o p1 ++ [(2, c)]).length + pend ≤ _; rw [List.length_append]; have := hP1.2.2 rfl; show (PS.o p1).length + 1 + pend ≤ Tok.b (PS.t p1); omega) h2 hq _ rfl

theorem lp_pdT {m0 : MI} {mr : MR} (hM : MB mr) {tp at_ : Nat} (h96 : tp ≤ 96) (hat : at_ ≤ 2880) {key : Int32} {f : Nat} (ihP : ∀ f2, f2 < f → PDC m0 mr tp at_ key mX12_part0 f2 0) : ∀ f2, f2 ≤ f → ∀ D, f2 + 3 ≤ D → ∀ (Q : QT) (mi : MI) (p : PS) (ok : Bool) (p2 : PS) (pend : Nat), PM m0 mi tp at_ p → TOK tp (PS.t p) → (PS.tn p ≤ 8 ∧ PS.dp p ≤ 8) → (PS.o p).length + pend ≤ Tok.b (PS.t p) → pd tp (m0 13) key f2 2 p = some (ok, p2) → (∀ mi2, PDP m0 tp at_ pend ok p2 mi2 → Q (some (.int (b2i ok))) shM mi2 mr) → ∀ x2 : Value, catL x2 = true → WP (D + 1) mX12_term 10 [.ref 0, .int key, x2] [] shM mi mr 0 0 Q := by
  intro f2
  induction f2 with
  | zero => intro _ D _ Q mi p ok p2 pend _ _ _ _ hp; cases hp
  | succ f2 ih =>
    intro hf2 D hD Q mi p ok p2 pend hPM hT htd hB hp hq x2 hx2
    rw [pd_2] at hp
    by_cases hs : sgnB p 42 = true ∨ sgnB p 47 = true
    · rw [if_pos hs] at hp
      have hlt : Tok.b (PS.t p) < Tok.e (PS.t p) := hs.elim (sgn_lt hT) (sgn_lt hT)
      have hk3 : Tok.k (PS.t p) = 3 := hs.elim (fun z => (sgn_k z).1) (fun z => (sgn_k z).1)
      have hle : mi 0 22 = Tok.le (PS.t p) := hPM.2.2.2.1.2.2.2.2 (Or.inr hk3)
      obtain ⟨hT2, hb2⟩ := nx_tok (T := m0 13) h96 hT
      have hB2 : (PS.o (nxP tp (m0 13) p)).length + (pend + 1) ≤ Tok.b (PS.t (nxP tp (m0 13) p)) := by show (PS.o p).length + (pend + 1) ≤ _; omega
      refine r_aload_n (μ := mX12_term) (pc := 10) dX12_term_10 rfl rfl rfl ?_
      refine r_bipush (μ := mX12_term) (pc := 11) (v := 42) dX12_term_11 bp_42 ?_
      refine vP1 (μ := mX12_term) (pc := 13) (c0 := 12) (q0 := (RX12, TX12, 34)) (μ2 := mX12_isSign) dX12_term_13 rfl rfl lkX12_260 imX12_isSign seX12_X12_isSign_X12_isSign mwX12_isSign (Nat.le_of_ble_eq_true rfl) (e_isSign hM hPM) ?_
      refine r_if_ne (μ := mX12_term) (pc := 16) (tgt := 28) dX12_term_16 (by decide) (fun h_16 => ?_) (fun h_16 => ?_)
      · have h_16 := b2i_1 h_16
        refine r_aload_n (μ := mX12_term) (pc := 28) dX12_term_28 rfl rfl rfl ?_
        refine r_getI (μ := mX12_term) (pc := 29) dX12_term_29 fpX12_238 rfl rfl (by decide) ?_
        rw [hle]
        refine s_istore_n (μ := mX12_term) (pc := 32) (L2 := [_, _, _]) dX12_term_32 rfl (Nat.le_of_ble_eq_true rfl) (Nat.le_of_ble_eq_true rfl) (by simp only [List.all_cons, List.all_nil, catL_i, catL_r, hx2, Bool.and_self]) rfl ?_
        refine r_aload_n (μ := mX12_term) (pc := 33) dX12_term_33 rfl rfl rfl ?_
        refine vV0 (μ := mX12_term) (pc := 34) (c0 := 12) (q0 := (RX12, TX12, 34)) (μ2 := mX12_nextToken) dX12_term_34 rfl rfl lkX12_263 imX12_nextToken seX12_X12_nextToken_X12_nextToken mwX12_nextToken (Nat.le_of_ble_eq_true rfl) (e_nextD (by omega) hM hPM h96 hT.2.1) (fun mi_34 h_34 => ?_)
        exact lp_pdTB hM h96 hat (ihP f2 (by omega)) (ih (by omega)) (by omega) h_34 hT2 htd hB2 hp hq
      · have h_16 := b2i_0 h_16
        refine r_aload_n (μ := mX12_term) (pc := 19) dX12_term_19 rfl rfl rfl ?_
        refine r_bipush (μ := mX12_term) (pc := 20) (v := 47) dX12_term_20 bp_47 ?_
        refine vP1 (μ := mX12_term) (pc := 22) (c0 := 12) (q0 := (RX12, TX12, 34)) (μ2 := mX12_isSign) dX12_term_22 rfl rfl lkX12_260 imX12_isSign seX12_X12_isSign_X12_isSign mwX12_isSign (Nat.le_of_ble_eq_true rfl) (e_isSign hM hPM) ?_
        refine r_if_eq (μ := mX12_term) (pc := 25) (tgt := 56) dX12_term_25 (by decide) (fun h_25 => ?_) (fun h_25 => ?_)
        · have h_25 := b2i_0 h_25
          exact absurd hs (by rw [h_16, h_25]; decide)
        · have h_25 := b2i_1 h_25
          refine r_aload_n (μ := mX12_term) (pc := 28) dX12_term_28 rfl rfl rfl ?_
          refine r_getI (μ := mX12_term) (pc := 29) dX12_term_29 fpX12_238 rfl rfl (by decide) ?_
          rw [hle]
          refine s_istore_n (μ := mX12_term) (pc := 32) (L2 := [_, _, _]) dX12_term_32 rfl (Nat.le_of_ble_eq_true rfl) (Nat.le_of_ble_eq_true rfl) (by simp only [List.all_cons, List.all_nil, catL_i, catL_r, hx2, Bool.and_self]) rfl ?_
          refine r_aload_n (μ := mX12_term) (pc := 33) dX12_term_33 rfl rfl rfl ?_
          refine vV0 (μ := mX12_term) (pc := 34) (c0 := 12) (q0 := (RX12, TX12, 34)) (μ2 := mX12_nextToken) dX12_term_34 rfl rfl lkX12_263 imX12_nextToken seX12_X12_nextToken_X12_nextToken mwX12_nextToken (Nat.le_of_ble_eq_true rfl) (e_nextD (by omega) hM hPM h96 hT.2.1) (fun mi_34 h_34 => ?_)
          exact lp_pdTB hM h96 hat (ihP f2 (by omega)) (ih (by omega)) (by omega) h_34 hT2 htd hB2 hp hq
    · rw [if_neg hs] at hp
      obtain ⟨rfl, rfl⟩ := Prod.mk.inj (Option.some.inj hp)
      refine r_aload_n (μ := mX12_term) (pc := 10) dX12_term_10 rfl rfl rfl ?_
      refine r_bipush (μ := mX12_term) (pc := 11) (v := 42) dX12_term_11 bp_42 ?_
      refine vP1 (μ := mX12_term) (pc := 13) (c0 := 12) (q0 := (RX12, TX12, 34)) (μ2 := mX12_isSign) dX12_term_13 rfl rfl lkX12_260 imX12_isSign seX12_X12_isSign_X12_isSign mwX12_isSign (Nat.le_of_ble_eq_true rfl) (e_isSign hM hPM) ?_
      refine r_if_ne (μ := mX12_term) (pc := 16) (tgt := 28) dX12_term_16 (by decide) (fun h_16 => ?_) (fun h_16 => ?_)
      · have h_16 := b2i_1 h_16
        exact absurd (Or.inl h_16) hs
      · have h_16 := b2i_0 h_16
        refine r_aload_n (μ := mX12_term) (pc := 19) dX12_term_19 rfl rfl rfl ?_
        refine r_bipush (μ := mX12_term) (pc := 20) (v := 47) dX12_term_20 bp_47 ?_
        refine vP1 (μ := mX12_term) (pc := 22) (c0 := 12) (q0 := (RX12, TX12, 34)) (μ2 := mX12_isSign) dX12_term_22 rfl rfl lkX12_260 imX12_isSign seX12_X12_isSign_X12_isSign mwX12_isSign (Nat.le_of_ble_eq_true rfl) (e_isSign hM hPM) ?_
        refine r_if_eq (μ := mX12_term) (pc := 25) (tgt := 56) dX12_term_25 (by decide) (fun h_25 => ?_) (fun h_25 => ?_)
        · have h_25 := b2i_0 h_25
          refine r_iconst (μ := mX12_term) (pc := 56) (v := 1) dX12_term_56 ic_1 ?_
          exact r_iret (μ := mX12_term) (pc := 57) dX12_term_57 rfl rfl (hq mi ⟨hPM, hT, fun _ => hB⟩)
        · have h_25 := b2i_1 h_25
          exact absurd (Or.inr h_25) hs

theorem c_pdT {m0 : MI} {mr : MR} (hM : MB mr) {tp at_ : Nat} (h96 : tp ≤ 96) (hat : at_ ≤ 2880) {key : Int32} {f : Nat} (ihP : ∀ f2, f2 ≤ f → PDC m0 mr tp at_ key mX12_part0 f2 0) : PDC m0 mr tp at_ key mX12_term (f + 1) 1 := by
  intro D hD mi p ok p2 pend hPM hT htd hB hp
  obtain ⟨D, rfl⟩ : ∃ E, D = E + 1 := ⟨D - 1, by omega⟩
  rw [pd_1] at hp
  rcases thn_c hp with ⟨p1, h1, h2⟩ | ⟨p1, h1, h2⟩
  · obtain ⟨rfl, rfl⟩ := Prod.mk.inj h2
    refine CP.of (L := [_, _, _]) (by decide) rfl rfl (Nat.le_of_ble_eq_true rfl) ?_
    refine r_aload_n (μ := mX12_term) (pc := 0) dX12_term_0 rfl rfl rfl ?_
    refine r_iload_n (μ := mX12_term) (pc := 1) dX12_term_1 rfl rfl ?_
    refine vX1 (μ := mX12_term) (pc := 2) (c0 := 12) (q0 := (RX12, TX12, 34)) (μ2 := mX12_part0) dX12_term_2 rfl rfl lkX12_278 imX12_part0 seX12_X12_part0_X12_part0 mwX12_part0 (Nat.le_of_ble_eq_true rfl) (ihP f (Nat.le_refl _) D (by omega) _ _ _ _ _ hPM hT htd hB h1) (fun r_2 mi_2 h_2 => ?_)
    obtain ⟨rfl, hP1⟩ := h_2
    refine r_if_ne (μ := mX12_term) (pc := 5) (tgt := 10) dX12_term_5 (by decide) (fun h_5 => absurd (b2i_eq rfl) h_5) (fun h_5 => ?_)
    refine r_iconst (μ := mX12_term) (pc := 8) (v := 0) dX12_term_8 ic_0 ?_
    exact r_iret (μ := mX12_term) (pc := 9) dX12_term_9 rfl rfl (PX_i ⟨rfl, hP1.1, hP1.2.1, fun z => Bool.noConfusion z⟩)
  · refine CP.of (L := [_, _, _]) (by decide) rfl rfl (Nat.le_of_ble_eq_true rfl) ?_
    refine r_aload_n (μ := mX12_term) (pc := 0) dX12_term_0 rfl rfl rfl ?_
    refine r_iload_n (μ := mX12_term) (pc := 1) dX12_term_1 rfl rfl ?_
    refine vX1 (μ := mX12_term) (pc := 2) (c0 := 12) (q0 := (RX12, TX12, 34)) (μ2 := mX12_part0) dX12_term_2 rfl rfl lkX12_278 imX12_part0 seX12_X12_part0_X12_part0 mwX12_part0 (Nat.le_of_ble_eq_true rfl) (ihP f (Nat.le_refl _) D (by omega) _ _ _ _ _ hPM hT htd hB h1) (fun r_2 mi_2 h_2 => ?_)
    obtain ⟨rfl, hP1⟩ := h_2
    refine r_if_ne (μ := mX12_term) (pc := 5) (tgt := 10) dX12_term_5 (by decide) (fun h_5 => ?_) (fun h_5 => absurd h_5 (b2i_ne rfl))
    exact lp_pdT hM h96 hat (fun f2 h => ihP f2 (by omega)) f (Nat.le_refl _) D (by omega) _ _ _ _ _ pend hP1.1 hP1.2.1 ((pd_keep _ _ _ _ h1).le htd) (hP1.2.2 rfl) h2 (fun mi2 h => PX_i ⟨rfl, h⟩) _ rfl

theorem lp_pdSB {m0 : MI} {mr : MR} (hM : MB mr) {tp at_ : Nat} (h96 : tp ≤ 96) (hat : at_ ≤ 2880) {key : Int32} {f2 : Nat} {D : Nat} {Q : QT} {mi : MI} {p : PS} {ok : Bool} {p2 : PS} {pend : Nat} {c : Int32} (ihP : PDC m0 mr tp at_ key mX12_term f2 1)
    (ihL : ∀ D, f2 + 3 ≤ D → ∀ (Q : QT) (mi : MI) (p : PS) (ok : Bool) (p2 : PS) (pend : Nat), PM m0 mi tp at_ p → TOK tp (PS.t p) → (PS.tn p ≤ 8 ∧ PS.dp p ≤ 8) → (PS.o p).length + pend ≤ Tok.b (PS.t p) → pd tp (m0 13) key f2 4 p = some (ok, p2) → (∀ mi2, PDP m0 tp at_ pend ok p2 mi2 → Q (some (.int (b2i ok))) shM mi2 mr) → ∀ x2 : Value, catL x2 = true → WP (D + 1) mX12_sum 10 [.ref 0, .int key, x2] [] shM mi mr 0 0 Q)
    (hD : f2 + 3 ≤ D) (hPM : PM m0 mi tp at_ p) (hT : TOK tp (PS.t p)) (htd : PS.tn p ≤ 8 ∧ PS.dp p ≤ 8) (hB : (PS.o p).length + (pend + 1) ≤ Tok.b (PS.t p)) (hp : thn (pd tp (m0 13) key f2 1 p) (fun p2 => pd tp (m0 13) key f2 4 (emP 2 c p2)) = some (ok, p2)) (hq : ∀ mi2, PDP m0 tp at_ pend ok p2 mi2 → Q (some (.int (b2i ok))) shM mi2 mr) :
    WP (D + 1) mX12_sum 37 [.ref 0, .int key, .int c] [] shM mi mr 0 0 Q := by
  rcases thn_c hp with ⟨p1, h1, h2⟩ | ⟨p1, h1, h2⟩
  · obtain ⟨rfl, rfl⟩ := Prod.mk.inj h2
    refine r_aload_n (μ := mX12_sum) (pc := 37) dX12_sum_37 rfl rfl rfl ?_
    refine r_iload_n (μ := mX12_sum) (pc := 38) dX12_sum_38 rfl rfl ?_
    refine vX1 (μ := mX12_sum) (pc := 39) (c0 := 12) (q0 := (RX12, TX12, 34)) (μ2 := mX12_term) dX12_sum_39 rfl rfl lkX12_275 imX12_term seX12_X12_term_X12_term mwX12_term (Nat.le_of_ble_eq_true rfl) (ihP D hD _ _ _ _ _ hPM hT htd hB h1) (fun r_39 mi_39 h_39 => ?_)
    obtain ⟨rfl, hP1⟩ := h_39
    refine r_if_ne (μ := mX12_sum) (pc := 42) (tgt := 47) dX12_sum_42 (by decide) (fun h_42 => absurd (b2i_eq rfl) h_42) (fun h_42 => ?_)
    refine r_iconst (μ := mX12_sum) (pc := 45) (v := 0) dX12_sum_45 ic_0 ?_
    exact r_iret (μ := mX12_sum) (pc := 46) dX12_sum_46 rfl rfl (hq _ ⟨hP1.1, hP1.2.1, fun z => Bool.noConfusion z⟩)
  · refine r_aload_n (μ := mX12_sum) (pc := 37) dX12_sum_37 rfl rfl rfl ?_
    refine r_iload_n (μ := mX12_sum) (pc := 38) dX12_sum_38 rfl rfl ?_
    refine vX1 (μ := mX12_sum) (pc := 39) (c0 := 12) (q0 := (RX12, TX12, 34)) (μ2 := mX12_term) dX12_sum_39 rfl rfl lkX12_275 imX12_term seX12_X12_term_X12_term mwX12_term (Nat.le_of_ble_eq_true rfl) (ihP D hD _ _ _ _ _ hPM hT htd hB h1) (fun r_39 mi_39 h_39 => ?_)
    obtain ⟨rfl, hP1⟩ := h_39
    refine r_if_ne (μ := mX12_sum) (pc := 42) (tgt := 47) dX12_sum_42 (by decide) (fun h_42 => ?_) (fun h_42 => absurd h_42 (b2i_ne rfl))
    refine r_aload_n (μ := mX12_sum) (pc := 47) dX12_sum_47 rfl rfl rfl ?_
    refine r_iconst (μ := mX12_sum) (pc := 48) (v := 2) dX12_sum_48 ic_2 ?_
    refine r_iload_n (μ := mX12_sum) (pc := 49) dX12_sum_49 rfl rfl ?_
    refine vV2 (μ := mX12_sum) (pc := 50) (c0 := 12) (q0 := (RX12, TX12, 34)) (μ2 := mX12_step) dX12_sum_50 rfl rfl lkX12_266 imX12_step seX12_X12_step_X12_step mwX12_step (Nat.le_of_ble_eq_true rfl) (e_step hM hP1.1 (by have := hP1.2.2 rfl; have := hP1.2.1.1; have := hP1.2.1.2.1; omega)) (fun mi_50 h_50 => ?_)
    refine r_goto (μ := mX12_sum) (pc := 53) (tgt := 10) dX12_sum_53 (by decide) ?_
    exact ihL D hD Q _ _ _ _ pend h_50 hP1.2.1 ((pd_keep _ _ _ _ h1).le htd) (by show (PS.o p1 ++ [(2, c)]).length + pend ≤ _; rw [List.length_append]; have := hP1.2.2 rfl; show (PS.o p1).length + 1 + pend ≤ Tok.b (PS.t p1); omega) h2 hq _ rfl

theorem lp_pdS {m0 : MI} {mr : MR} (hM : MB mr) {tp at_ : Nat} (h96 : tp ≤ 96) (hat : at_ ≤ 2880) {key : Int32} {f : Nat} (ihP : ∀ f2, f2 < f → PDC m0 mr tp at_ key mX12_term f2 1) : ∀ f2, f2 ≤ f → ∀ D, f2 + 3 ≤ D → ∀ (Q : QT) (mi : MI) (p : PS) (ok : Bool) (p2 : PS) (pend : Nat), PM m0 mi tp at_ p → TOK tp (PS.t p) → (PS.tn p ≤ 8 ∧ PS.dp p ≤ 8) → (PS.o p).length + pend ≤ Tok.b (PS.t p) → pd tp (m0 13) key f2 4 p = some (ok, p2) → (∀ mi2, PDP m0 tp at_ pend ok p2 mi2 → Q (some (.int (b2i ok))) shM mi2 mr) → ∀ x2 : Value, catL x2 = true → WP (D + 1) mX12_sum 10 [.ref 0, .int key, x2] [] shM mi mr 0 0 Q := by
  intro f2
  induction f2 with
  | zero => intro _ D _ Q mi p ok p2 pend _ _ _ _ hp; cases hp
  | succ f2 ih =>
    intro hf2 D hD Q mi p ok p2 pend hPM hT htd hB hp hq x2 hx2
    rw [pd_4] at hp
    by_cases hs : sgnB p 43 = true ∨ sgnB p 45 = true
    · rw [if_pos hs] at hp
      have hlt : Tok.b (PS.t p) < Tok.e (PS.t p) := hs.elim (sgn_lt hT) (sgn_lt hT)
      have hk3 : Tok.k (PS.t p) = 3 := hs.elim (fun z => (sgn_k z).1) (fun z => (sgn_k z).1)
      have hle : mi 0 22 = Tok.le (PS.t p) := hPM.2.2.2.1.2.2.2.2 (Or.inr hk3)
      obtain ⟨hT2, hb2⟩ := nx_tok (T := m0 13) h96 hT
      have hB2 : (PS.o (nxP tp (m0 13) p)).length + (pend + 1) ≤ Tok.b (PS.t (nxP tp (m0 13) p)) := by show (PS.o p).length + (pend + 1) ≤ _; omega
      refine r_aload_n (μ := mX12_sum) (pc := 10) dX12_sum_10 rfl rfl rfl ?_
      refine r_bipush (μ := mX12_sum) (pc := 11) (v := 43) dX12_sum_11 bp_43 ?_
      refine vP1 (μ := mX12_sum) (pc := 13) (c0 := 12) (q0 := (RX12, TX12, 34)) (μ2 := mX12_isSign) dX12_sum_13 rfl rfl lkX12_260 imX12_isSign seX12_X12_isSign_X12_isSign mwX12_isSign (Nat.le_of_ble_eq_true rfl) (e_isSign hM hPM) ?_
      refine r_if_ne (μ := mX12_sum) (pc := 16) (tgt := 28) dX12_sum_16 (by decide) (fun h_16 => ?_) (fun h_16 => ?_)
      · have h_16 := b2i_1 h_16
        refine r_aload_n (μ := mX12_sum) (pc := 28) dX12_sum_28 rfl rfl rfl ?_
        refine r_getI (μ := mX12_sum) (pc := 29) dX12_sum_29 fpX12_238 rfl rfl (by decide) ?_
        rw [hle]
        refine s_istore_n (μ := mX12_sum) (pc := 32) (L2 := [_, _, _]) dX12_sum_32 rfl (Nat.le_of_ble_eq_true rfl) (Nat.le_of_ble_eq_true rfl) (by simp only [List.all_cons, List.all_nil, catL_i, catL_r, hx2, Bool.and_self]) rfl ?_
        refine r_aload_n (μ := mX12_sum) (pc := 33) dX12_sum_33 rfl rfl rfl ?_
        refine vV0 (μ := mX12_sum) (pc := 34) (c0 := 12) (q0 := (RX12, TX12, 34)) (μ2 := mX12_nextToken) dX12_sum_34 rfl rfl lkX12_263 imX12_nextToken seX12_X12_nextToken_X12_nextToken mwX12_nextToken (Nat.le_of_ble_eq_true rfl) (e_nextD (by omega) hM hPM h96 hT.2.1) (fun mi_34 h_34 => ?_)
        exact lp_pdSB hM h96 hat (ihP f2 (by omega)) (ih (by omega)) (by omega) h_34 hT2 htd hB2 hp hq
      · have h_16 := b2i_0 h_16
        refine r_aload_n (μ := mX12_sum) (pc := 19) dX12_sum_19 rfl rfl rfl ?_
        refine r_bipush (μ := mX12_sum) (pc := 20) (v := 45) dX12_sum_20 bp_45 ?_
        refine vP1 (μ := mX12_sum) (pc := 22) (c0 := 12) (q0 := (RX12, TX12, 34)) (μ2 := mX12_isSign) dX12_sum_22 rfl rfl lkX12_260 imX12_isSign seX12_X12_isSign_X12_isSign mwX12_isSign (Nat.le_of_ble_eq_true rfl) (e_isSign hM hPM) ?_
        refine r_if_eq (μ := mX12_sum) (pc := 25) (tgt := 56) dX12_sum_25 (by decide) (fun h_25 => ?_) (fun h_25 => ?_)
        · have h_25 := b2i_0 h_25
          exact absurd hs (by rw [h_16, h_25]; decide)
        · have h_25 := b2i_1 h_25
          refine r_aload_n (μ := mX12_sum) (pc := 28) dX12_sum_28 rfl rfl rfl ?_
          refine r_getI (μ := mX12_sum) (pc := 29) dX12_sum_29 fpX12_238 rfl rfl (by decide) ?_
          rw [hle]
          refine s_istore_n (μ := mX12_sum) (pc := 32) (L2 := [_, _, _]) dX12_sum_32 rfl (Nat.le_of_ble_eq_true rfl) (Nat.le_of_ble_eq_true rfl) (by simp only [List.all_cons, List.all_nil, catL_i, catL_r, hx2, Bool.and_self]) rfl ?_
          refine r_aload_n (μ := mX12_sum) (pc := 33) dX12_sum_33 rfl rfl rfl ?_
          refine vV0 (μ := mX12_sum) (pc := 34) (c0 := 12) (q0 := (RX12, TX12, 34)) (μ2 := mX12_nextToken) dX12_sum_34 rfl rfl lkX12_263 imX12_nextToken seX12_X12_nextToken_X12_nextToken mwX12_nextToken (Nat.le_of_ble_eq_true rfl) (e_nextD (by omega) hM hPM h96 hT.2.1) (fun mi_34 h_34 => ?_)
          exact lp_pdSB hM h96 hat (ihP f2 (by omega)) (ih (by omega)) (by omega) h_34 hT2 htd hB2 hp hq
    · rw [if_neg hs] at hp
      obtain ⟨rfl, rfl⟩ := Prod.mk.inj (Option.some.inj hp)
      refine r_aload_n (μ := mX12_sum) (pc := 10) dX12_sum_10 rfl rfl rfl ?_
      refine r_bipush (μ := mX12_sum) (pc := 11) (v := 43) dX12_sum_11 bp_43 ?_
      refine vP1 (μ := mX12_sum) (pc := 13) (c0 := 12) (q0 := (RX12, TX12, 34)) (μ2 := mX12_isSign) dX12_sum_13 rfl rfl lkX12_260 imX12_isSign seX12_X12_isSign_X12_isSign mwX12_isSign (Nat.le_of_ble_eq_true rfl) (e_isSign hM hPM) ?_
      refine r_if_ne (μ := mX12_sum) (pc := 16) (tgt := 28) dX12_sum_16 (by decide) (fun h_16 => ?_) (fun h_16 => ?_)
      · have h_16 := b2i_1 h_16
        exact absurd (Or.inl h_16) hs
      · have h_16 := b2i_0 h_16
        refine r_aload_n (μ := mX12_sum) (pc := 19) dX12_sum_19 rfl rfl rfl ?_
        refine r_bipush (μ := mX12_sum) (pc := 20) (v := 45) dX12_sum_20 bp_45 ?_
        refine vP1 (μ := mX12_sum) (pc := 22) (c0 := 12) (q0 := (RX12, TX12, 34)) (μ2 := mX12_isSign) dX12_sum_22 rfl rfl lkX12_260 imX12_isSign seX12_X12_isSign_X12_isSign mwX12_isSign (Nat.le_of_ble_eq_true rfl) (e_isSign hM hPM) ?_
        refine r_if_eq (μ := mX12_sum) (pc := 25) (tgt := 56) dX12_sum_25 (by decide) (fun h_25 => ?_) (fun h_25 => ?_)
        · have h_25 := b2i_0 h_25
          refine r_iconst (μ := mX12_sum) (pc := 56) (v := 1) dX12_sum_56 ic_1 ?_
          exact r_iret (μ := mX12_sum) (pc := 57) dX12_sum_57 rfl rfl (hq mi ⟨hPM, hT, fun _ => hB⟩)
        · have h_25 := b2i_1 h_25
          exact absurd (Or.inr h_25) hs

theorem c_pdS {m0 : MI} {mr : MR} (hM : MB mr) {tp at_ : Nat} (h96 : tp ≤ 96) (hat : at_ ≤ 2880) {key : Int32} {f : Nat} (ihP : ∀ f2, f2 ≤ f → PDC m0 mr tp at_ key mX12_term f2 1) : PDC m0 mr tp at_ key mX12_sum (f + 1) 3 := by
  intro D hD mi p ok p2 pend hPM hT htd hB hp
  obtain ⟨D, rfl⟩ : ∃ E, D = E + 1 := ⟨D - 1, by omega⟩
  rw [pd_3] at hp
  rcases thn_c hp with ⟨p1, h1, h2⟩ | ⟨p1, h1, h2⟩
  · obtain ⟨rfl, rfl⟩ := Prod.mk.inj h2
    refine CP.of (L := [_, _, _]) (by decide) rfl rfl (Nat.le_of_ble_eq_true rfl) ?_
    refine r_aload_n (μ := mX12_sum) (pc := 0) dX12_sum_0 rfl rfl rfl ?_
    refine r_iload_n (μ := mX12_sum) (pc := 1) dX12_sum_1 rfl rfl ?_
    refine vX1 (μ := mX12_sum) (pc := 2) (c0 := 12) (q0 := (RX12, TX12, 34)) (μ2 := mX12_term) dX12_sum_2 rfl rfl lkX12_275 imX12_term seX12_X12_term_X12_term mwX12_term (Nat.le_of_ble_eq_true rfl) (ihP f (Nat.le_refl _) D (by omega) _ _ _ _ _ hPM hT htd hB h1) (fun r_2 mi_2 h_2 => ?_)
    obtain ⟨rfl, hP1⟩ := h_2
    refine r_if_ne (μ := mX12_sum) (pc := 5) (tgt := 10) dX12_sum_5 (by decide) (fun h_5 => absurd (b2i_eq rfl) h_5) (fun h_5 => ?_)
    refine r_iconst (μ := mX12_sum) (pc := 8) (v := 0) dX12_sum_8 ic_0 ?_
    exact r_iret (μ := mX12_sum) (pc := 9) dX12_sum_9 rfl rfl (PX_i ⟨rfl, hP1.1, hP1.2.1, fun z => Bool.noConfusion z⟩)
  · refine CP.of (L := [_, _, _]) (by decide) rfl rfl (Nat.le_of_ble_eq_true rfl) ?_
    refine r_aload_n (μ := mX12_sum) (pc := 0) dX12_sum_0 rfl rfl rfl ?_
    refine r_iload_n (μ := mX12_sum) (pc := 1) dX12_sum_1 rfl rfl ?_
    refine vX1 (μ := mX12_sum) (pc := 2) (c0 := 12) (q0 := (RX12, TX12, 34)) (μ2 := mX12_term) dX12_sum_2 rfl rfl lkX12_275 imX12_term seX12_X12_term_X12_term mwX12_term (Nat.le_of_ble_eq_true rfl) (ihP f (Nat.le_refl _) D (by omega) _ _ _ _ _ hPM hT htd hB h1) (fun r_2 mi_2 h_2 => ?_)
    obtain ⟨rfl, hP1⟩ := h_2
    refine r_if_ne (μ := mX12_sum) (pc := 5) (tgt := 10) dX12_sum_5 (by decide) (fun h_5 => ?_) (fun h_5 => absurd h_5 (b2i_ne rfl))
    exact lp_pdS hM h96 hat (fun f2 h => ihP f2 (by omega)) f (Nat.le_refl _) D (by omega) _ _ _ _ _ pend hP1.1 hP1.2.1 ((pd_keep _ _ _ _ h1).le htd) (hP1.2.2 rfl) h2 (fun mi2 h => PX_i ⟨rfl, h⟩) _ rfl

