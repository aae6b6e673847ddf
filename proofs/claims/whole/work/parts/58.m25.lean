theorem lp_pdBB {m0 : MI} {mr : MR} (hM : MB mr) {tp at_ : Nat} (h96 : tp ≤ 96) (hat : at_ ≤ 2880) {key : Int32} {f2 : Nat} {D : Nat} {Q : QT} {mi : MI} {p : PS} {ok : Bool} {p2 : PS} {pend : Nat} (ihP : PDC m0 mr tp at_ key mX12_test f2 5)
    (ihL : ∀ D, f2 + 3 ≤ D → ∀ (Q : QT) (mi : MI) (p : PS) (ok : Bool) (p2 : PS) (pend : Nat), PM m0 mi tp at_ p → TOK tp (PS.t p) → (PS.tn p ≤ 8 ∧ PS.dp p ≤ 8) → (PS.o p).length + pend ≤ Tok.b (PS.t p) → pd tp (m0 13) key f2 7 p = some (ok, p2) → (∀ mi2, PDP m0 tp at_ pend ok p2 mi2 → Q (some (.int (b2i ok))) shM mi2 mr) → WP (D + 1) mX12_both 10 [.ref 0, .int key] [] shM mi mr 0 0 Q)
    (hD : f2 + 3 ≤ D) (hPM : PM m0 mi tp at_ p) (hT : TOK tp (PS.t p)) (htd : PS.tn p ≤ 8 ∧ PS.dp p ≤ 8) (hB : (PS.o p).length + (pend + 1) ≤ Tok.b (PS.t p)) (hp : thn (pd tp (m0 13) key f2 5 p) (fun p2 => pd tp (m0 13) key f2 7 (emP 2 38 p2)) = some (ok, p2)) (hq : ∀ mi2, PDP m0 tp at_ pend ok p2 mi2 → Q (some (.int (b2i ok))) shM mi2 mr) :
    WP (D + 1) mX12_both 23 [.ref 0, .int key] [] shM mi mr 0 0 Q := by
  rcases thn_c hp with ⟨p1, h1, h2⟩ | ⟨p1, h1, h2⟩
  · obtain ⟨rfl, rfl⟩ := Prod.mk.inj h2
    refine r_aload_n (μ := mX12_both) (pc := 23) dX12_both_23 rfl rfl rfl ?_
    refine r_iload_n (μ := mX12_both) (pc := 24) dX12_both_24 rfl rfl ?_
    refine vX1 (μ := mX12_both) (pc := 25) (c0 := 12) (q0 := (RX12, TX12, 34)) (μ2 := mX12_test) dX12_both_25 rfl rfl lkX12_269 imX12_test seX12_X12_test_X12_test mwX12_test (Nat.le_of_ble_eq_true rfl) (ihP D hD _ _ _ _ _ hPM hT htd hB h1) (fun r_25 mi_25 h_25 => ?_)
    obtain ⟨rfl, hP1⟩ := h_25
    refine r_if_ne (μ := mX12_both) (pc := 28) (tgt := 33) dX12_both_28 (by decide) (fun h_28 => absurd (b2i_eq rfl) h_28) (fun h_28 => ?_)
    refine r_iconst (μ := mX12_both) (pc := 31) (v := 0) dX12_both_31 ic_0 ?_
    exact r_iret (μ := mX12_both) (pc := 32) dX12_both_32 rfl rfl (hq _ ⟨hP1.1, hP1.2.1, fun z => Bool.noConfusion z⟩)
  · refine r_aload_n (μ := mX12_both) (pc := 23) dX12_both_23 rfl rfl rfl ?_
    refine r_iload_n (μ := mX12_both) (pc := 24) dX12_both_24 rfl rfl ?_
    refine vX1 (μ := mX12_both) (pc := 25) (c0 := 12) (q0 := (RX12, TX12, 34)) (μ2 := mX12_test) dX12_both_25 rfl rfl lkX12_269 imX12_test seX12_X12_test_X12_test mwX12_test (Nat.le_of_ble_eq_true rfl) (ihP D hD _ _ _ _ _ hPM hT htd hB h1) (fun r_25 mi_25 h_25 => ?_)
    obtain ⟨rfl, hP1⟩ := h_25
    refine r_if_ne (μ := mX12_both) (pc := 28) (tgt := 33) dX12_both_28 (by decide) (fun h_28 => ?_) (fun h_28 => absurd h_28 (b2i_ne rfl))
    refine r_aload_n (μ := mX12_both) (pc := 33) dX12_both_33 rfl rfl rfl ?_
    refine r_iconst (μ := mX12_both) (pc := 34) (v := 2) dX12_both_34 ic_2 ?_
    refine r_bipush (μ := mX12_both) (pc := 35) (v := 38) dX12_both_35 bp_38 ?_
    refine vV2 (μ := mX12_both) (pc := 37) (c0 := 12) (q0 := (RX12, TX12, 34)) (μ2 := mX12_step) dX12_both_37 rfl rfl lkX12_266 imX12_step seX12_X12_step_X12_step mwX12_step (Nat.le_of_ble_eq_true rfl) (e_step hM hP1.1 (by have := hP1.2.2 rfl; have := hP1.2.1.1; have := hP1.2.1.2.1; omega)) (fun mi_37 h_37 => ?_)
    refine r_goto (μ := mX12_both) (pc := 40) (tgt := 10) dX12_both_40 (by decide) ?_
    exact ihL D hD Q _ _ _ _ pend h_37 hP1.2.1 ((pd_keep _ _ _ _ h1).le htd) (by show (PS.o p1 ++ [(2, 38)]).length + pend ≤ _; rw [List.length_append]; have := hP1.2.2 rfl; show (PS.o p1).length + 1 + pend ≤ Tok.b (PS.t p1); omega) h2 hq

theorem lp_pdB {m0 : MI} {mr : MR} (hM : MB mr) {tp at_ : Nat} (h96 : tp ≤ 96) (hat : at_ ≤ 2880) {key : Int32} {f : Nat} (ihP : ∀ f2, f2 < f → PDC m0 mr tp at_ key mX12_test f2 5) : ∀ f2, f2 ≤ f → ∀ D, f2 + 3 ≤ D → ∀ (Q : QT) (mi : MI) (p : PS) (ok : Bool) (p2 : PS) (pend : Nat), PM m0 mi tp at_ p → TOK tp (PS.t p) → (PS.tn p ≤ 8 ∧ PS.dp p ≤ 8) → (PS.o p).length + pend ≤ Tok.b (PS.t p) → pd tp (m0 13) key f2 7 p = some (ok, p2) → (∀ mi2, PDP m0 tp at_ pend ok p2 mi2 → Q (some (.int (b2i ok))) shM mi2 mr) → WP (D + 1) mX12_both 10 [.ref 0, .int key] [] shM mi mr 0 0 Q := by
  intro f2
  induction f2 with
  | zero => intro _ D _ Q mi p ok p2 pend _ _ _ _ hp; cases hp
  | succ f2 ih =>
    intro hf2 D hD Q mi p ok p2 pend hPM hT htd hB hp hq
    rw [pd_7] at hp
    by_cases hs : sgnB p 38 = true
    · rw [if_pos hs] at hp
      have hlt : Tok.b (PS.t p) < Tok.e (PS.t p) := sgn_lt hT hs
      obtain ⟨hT2, hb2⟩ := nx_tok (T := m0 13) h96 hT
      have hB2 : (PS.o (nxP tp (m0 13) p)).length + (pend + 1) ≤ Tok.b (PS.t (nxP tp (m0 13) p)) := by show (PS.o p).length + (pend + 1) ≤ _; omega
      refine r_aload_n (μ := mX12_both) (pc := 10) dX12_both_10 rfl rfl rfl ?_
      refine r_bipush (μ := mX12_both) (pc := 11) (v := 38) dX12_both_11 bp_38 ?_
      refine vP1 (μ := mX12_both) (pc := 13) (c0 := 12) (q0 := (RX12, TX12, 34)) (μ2 := mX12_isSign) dX12_both_13 rfl rfl lkX12_260 imX12_isSign seX12_X12_isSign_X12_isSign mwX12_isSign (Nat.le_of_ble_eq_true rfl) (e_isSign hM hPM) ?_
      refine r_if_eq (μ := mX12_both) (pc := 16) (tgt := 43) dX12_both_16 (by decide) (fun h_16 => ?_) (fun h_16 => ?_)
      · have h_16 := b2i_0 h_16
        exact absurd (h_16.symm.trans hs) (by decide)
      · have h_16 := b2i_1 h_16
        refine r_aload_n (μ := mX12_both) (pc := 19) dX12_both_19 rfl rfl rfl ?_
        refine vV0 (μ := mX12_both) (pc := 20) (c0 := 12) (q0 := (RX12, TX12, 34)) (μ2 := mX12_nextToken) dX12_both_20 rfl rfl lkX12_263 imX12_nextToken seX12_X12_nextToken_X12_nextToken mwX12_nextToken (Nat.le_of_ble_eq_true rfl) (e_nextD (by omega) hM hPM h96 hT.2.1) (fun mi_20 h_20 => ?_)
        exact lp_pdBB hM h96 hat (ihP f2 (by omega)) (ih (by omega)) (by omega) h_20 hT2 htd hB2 hp hq
    · rw [if_neg hs] at hp
      obtain ⟨rfl, rfl⟩ := Prod.mk.inj (Option.some.inj hp)
      refine r_aload_n (μ := mX12_both) (pc := 10) dX12_both_10 rfl rfl rfl ?_
      refine r_bipush (μ := mX12_both) (pc := 11) (v := 38) dX12_both_11 bp_38 ?_
      refine vP1 (μ := mX12_both) (pc := 13) (c0 := 12) (q0 := (RX12, TX12, 34)) (μ2 := mX12_isSign) dX12_both_13 rfl rfl lkX12_260 imX12_isSign seX12_X12_isSign_X12_isSign mwX12_isSign (Nat.le_of_ble_eq_true rfl) (e_isSign hM hPM) ?_
      refine r_if_eq (μ := mX12_both) (pc := 16) (tgt := 43) dX12_both_16 (by decide) (fun h_16 => ?_) (fun h_16 => ?_)
      · have h_16 := b2i_0 h_16
        refine r_iconst (μ := mX12_both) (pc := 43) (v := 1) dX12_both_43 ic_1 ?_
        exact r_iret (μ := mX12_both) (pc := 44) dX12_both_44 rfl rfl (hq mi ⟨hPM, hT, fun _ => hB⟩)
      · have h_16 := b2i_1 h_16
        exact absurd h_16 hs

theorem c_pdB {m0 : MI} {mr : MR} (hM : MB mr) {tp at_ : Nat} (h96 : tp ≤ 96) (hat : at_ ≤ 2880) {key : Int32} {f : Nat} (ihP : ∀ f2, f2 ≤ f → PDC m0 mr tp at_ key mX12_test f2 5) : PDC m0 mr tp at_ key mX12_both (f + 1) 6 := by
  intro D hD mi p ok p2 pend hPM hT htd hB hp
  obtain ⟨D, rfl⟩ : ∃ E, D = E + 1 := ⟨D - 1, by omega⟩
  rw [pd_6] at hp
  rcases thn_c hp with ⟨p1, h1, h2⟩ | ⟨p1, h1, h2⟩
  · obtain ⟨rfl, rfl⟩ := Prod.mk.inj h2
    refine CP.of (L := [_, _]) (by decide) rfl rfl (Nat.le_of_ble_eq_true rfl) ?_
    refine r_aload_n (μ := mX12_both) (pc := 0) dX12_both_0 rfl rfl rfl ?_
    refine r_iload_n (μ := mX12_both) (pc := 1) dX12_both_1 rfl rfl ?_
    refine vX1 (μ := mX12_both) (pc := 2) (c0 := 12) (q0 := (RX12, TX12, 34)) (μ2 := mX12_test) dX12_both_2 rfl rfl lkX12_269 imX12_test seX12_X12_test_X12_test mwX12_test (Nat.le_of_ble_eq_true rfl) (ihP f (Nat.le_refl _) D (by omega) _ _ _ _ _ hPM hT htd hB h1) (fun r_2 mi_2 h_2 => ?_)
    obtain ⟨rfl, hP1⟩ := h_2
    refine r_if_ne (μ := mX12_both) (pc := 5) (tgt := 10) dX12_both_5 (by decide) (fun h_5 => absurd (b2i_eq rfl) h_5) (fun h_5 => ?_)
    refine r_iconst (μ := mX12_both) (pc := 8) (v := 0) dX12_both_8 ic_0 ?_
    exact r_iret (μ := mX12_both) (pc := 9) dX12_both_9 rfl rfl (PX_i ⟨rfl, hP1.1, hP1.2.1, fun z => Bool.noConfusion z⟩)
  · refine CP.of (L := [_, _]) (by decide) rfl rfl (Nat.le_of_ble_eq_true rfl) ?_
    refine r_aload_n (μ := mX12_both) (pc := 0) dX12_both_0 rfl rfl rfl ?_
    refine r_iload_n (μ := mX12_both) (pc := 1) dX12_both_1 rfl rfl ?_
    refine vX1 (μ := mX12_both) (pc := 2) (c0 := 12) (q0 := (RX12, TX12, 34)) (μ2 := mX12_test) dX12_both_2 rfl rfl lkX12_269 imX12_test seX12_X12_test_X12_test mwX12_test (Nat.le_of_ble_eq_true rfl) (ihP f (Nat.le_refl _) D (by omega) _ _ _ _ _ hPM hT htd hB h1) (fun r_2 mi_2 h_2 => ?_)
    obtain ⟨rfl, hP1⟩ := h_2
    refine r_if_ne (μ := mX12_both) (pc := 5) (tgt := 10) dX12_both_5 (by decide) (fun h_5 => ?_) (fun h_5 => absurd h_5 (b2i_ne rfl))
    exact lp_pdB hM h96 hat (fun f2 h => ihP f2 (by omega)) f (Nat.le_refl _) D (by omega) _ _ _ _ _ pend hP1.1 hP1.2.1 ((pd_keep _ _ _ _ h1).le htd) (hP1.2.2 rfl) h2 (fun mi2 h => PX_i ⟨rfl, h⟩)

theorem lp_pdEB {m0 : MI} {mr : MR} (hM : MB mr) {tp at_ : Nat} (h96 : tp ≤ 96) (hat : at_ ≤ 2880) {key : Int32} {f2 : Nat} {D : Nat} {Q : QT} {mi : MI} {p : PS} {ok : Bool} {p2 : PS} {pend : Nat} (ihP : PDC m0 mr tp at_ key mX12_both f2 6)
    (ihL : ∀ D, f2 + 3 ≤ D → ∀ (Q : QT) (mi : MI) (p : PS) (ok : Bool) (p2 : PS) (pend : Nat), PM m0 mi tp at_ p → TOK tp (PS.t p) → (PS.tn p ≤ 8 ∧ PS.dp p ≤ 8) → (PS.o p).length + pend ≤ Tok.b (PS.t p) → pd tp (m0 13) key f2 9 p = some (ok, p2) → (∀ mi2, PDP m0 tp at_ pend ok p2 mi2 → Q (some (.int (b2i ok))) shM mi2 mr) → WP (D + 1) mX12_either 10 [.ref 0, .int key] [] shM mi mr 0 0 Q)
    (hD : f2 + 3 ≤ D) (hPM : PM m0 mi tp at_ p) (hT : TOK tp (PS.t p)) (htd : PS.tn p ≤ 8 ∧ PS.dp p ≤ 8) (hB : (PS.o p).length + (pend + 1) ≤ Tok.b (PS.t p)) (hp : thn (pd tp (m0 13) key f2 6 p) (fun p2 => pd tp (m0 13) key f2 9 (emP 2 124 p2)) = some (ok, p2)) (hq : ∀ mi2, PDP m0 tp at_ pend ok p2 mi2 → Q (some (.int (b2i ok))) shM mi2 mr) :
    WP (D + 1) mX12_either 23 [.ref 0, .int key] [] shM mi mr 0 0 Q := by
  rcases thn_c hp with ⟨p1, h1, h2⟩ | ⟨p1, h1, h2⟩
  · obtain ⟨rfl, rfl⟩ := Prod.mk.inj h2
    refine r_aload_n (μ := mX12_either) (pc := 23) dX12_either_23 rfl rfl rfl ?_
    refine r_iload_n (μ := mX12_either) (pc := 24) dX12_either_24 rfl rfl ?_
    refine vX1 (μ := mX12_either) (pc := 25) (c0 := 12) (q0 := (RX12, TX12, 34)) (μ2 := mX12_both) dX12_either_25 rfl rfl lkX12_257 imX12_both seX12_X12_both_X12_both mwX12_both (Nat.le_of_ble_eq_true rfl) (ihP D hD _ _ _ _ _ hPM hT htd hB h1) (fun r_25 mi_25 h_25 => ?_)
    obtain ⟨rfl, hP1⟩ := h_25
    refine r_if_ne (μ := mX12_either) (pc := 28) (tgt := 33) dX12_either_28 (by decide) (fun h_28 => absurd (b2i_eq rfl) h_28) (fun h_28 => ?_)
    refine r_iconst (μ := mX12_either) (pc := 31) (v := 0) dX12_either_31 ic_0 ?_
    exact r_iret (μ := mX12_either) (pc := 32) dX12_either_32 rfl rfl (hq _ ⟨hP1.1, hP1.2.1, fun z => Bool.noConfusion z⟩)
  · refine r_aload_n (μ := mX12_either) (pc := 23) dX12_either_23 rfl rfl rfl ?_
    refine r_iload_n (μ := mX12_either) (pc := 24) dX12_either_24 rfl rfl ?_
    refine vX1 (μ := mX12_either) (pc := 25) (c0 := 12) (q0 := (RX12, TX12, 34)) (μ2 := mX12_both) dX12_either_25 rfl rfl lkX12_257 imX12_both seX12_X12_both_X12_both mwX12_both (Nat.le_of_ble_eq_true rfl) (ihP D hD _ _ _ _ _ hPM hT htd hB h1) (fun r_25 mi_25 h_25 => ?_)
    obtain ⟨rfl, hP1⟩ := h_25
    refine r_if_ne (μ := mX12_either) (pc := 28) (tgt := 33) dX12_either_28 (by decide) (fun h_28 => ?_) (fun h_28 => absurd h_28 (b2i_ne rfl))
    refine r_aload_n (μ := mX12_either) (pc := 33) dX12_either_33 rfl rfl rfl ?_
    refine r_iconst (μ := mX12_either) (pc := 34) (v := 2) dX12_either_34 ic_2 ?_
    refine r_bipush (μ := mX12_either) (pc := 35) (v := 124) dX12_either_35 bp_124 ?_
    refine vV2 (μ := mX12_either) (pc := 37) (c0 := 12) (q0 := (RX12, TX12, 34)) (μ2 := mX12_step) dX12_either_37 rfl rfl lkX12_266 imX12_step seX12_X12_step_X12_step mwX12_step (Nat.le_of_ble_eq_true rfl) (e_step hM hP1.1 (by have := hP1.2.2 rfl; have := hP1.2.1.1; have := hP1.2.1.2.1; omega)) (fun mi_37 h_37 => ?_)
    refine r_goto (μ := mX12_either) (pc := 40) (tgt := 10) dX12_either_40 (by decide) ?_
    exact ihL D hD Q _ _ _ _ pend h_37 hP1.2.1 ((pd_keep _ _ _ _ h1).le htd) (by show (PS.o p1 ++ [(2, 124)]).length + pend ≤ _; rw [List.length_append]; have := hP1.2.2 rfl; show (PS.o p1).length + 1 + pend ≤ Tok.b (PS.t p1); omega) h2 hq

theorem lp_pdE {m0 : MI} {mr : MR} (hM : MB mr) {tp at_ : Nat} (h96 : tp ≤ 96) (hat : at_ ≤ 2880) {key : Int32} {f : Nat} (ihP : ∀ f2, f2 < f → PDC m0 mr tp at_ key mX12_both f2 6) : ∀ f2, f2 ≤ f → ∀ D, f2 + 3 ≤ D → ∀ (Q : QT) (mi : MI) (p : PS) (ok : Bool) (p2 : PS) (pend : Nat), PM m0 mi tp at_ p → TOK tp (PS.t p) → (PS.tn p ≤ 8 ∧ PS.dp p ≤ 8) → (PS.o p).length + pend ≤ Tok.b (PS.t p) → pd tp (m0 13) key f2 9 p = some (ok, p2) → (∀ mi2, PDP m0 tp at_ pend ok p2 mi2 → Q (some (.int (b2i ok))) shM mi2 mr) → WP (D + 1) mX12_either 10 [.ref 0, .int key] [] shM mi mr 0 0 Q := by
  intro f2
  induction f2 with
  | zero => intro _ D _ Q mi p ok p2 pend _ _ _ _ hp; cases hp
  | succ f2 ih =>
    intro hf2 D hD Q mi p ok p2 pend hPM hT htd hB hp hq
    rw [pd_9] at hp
    by_cases hs : sgnB p 124 = true
    · rw [if_pos hs] at hp
      have hlt : Tok.b (PS.t p) < Tok.e (PS.t p) := sgn_lt hT hs
      obtain ⟨hT2, hb2⟩ := nx_tok (T := m0 13) h96 hT
      have hB2 : (PS.o (nxP tp (m0 13) p)).length + (pend + 1) ≤ Tok.b (PS.t (nxP tp (m0 13) p)) := by show (PS.o p).length + (pend + 1) ≤ _; omega
      refine r_aload_n (μ := mX12_either) (pc := 10) dX12_either_10 rfl rfl rfl ?_
      refine r_bipush (μ := mX12_either) (pc := 11) (v := 124) dX12_either_11 bp_124 ?_
      refine vP1 (μ := mX12_either) (pc := 13) (c0 := 12) (q0 := (RX12, TX12, 34)) (μ2 := mX12_isSign) dX12_either_13 rfl rfl lkX12_260 imX12_isSign seX12_X12_isSign_X12_isSign mwX12_isSign (Nat.le_of_ble_eq_true rfl) (e_isSign hM hPM) ?_
      refine r_if_eq (μ := mX12_either) (pc := 16) (tgt := 43) dX12_either_16 (by decide) (fun h_16 => ?_) (fun h_16 => ?_)
      · have h_16 := b2i_0 h_16
        exact absurd (h_16.symm.trans hs) (by decide)
      · have h_16 := b2i_1 h_16
        refine r_aload_n (μ := mX12_either) (pc := 19) dX12_either_19 rfl rfl rfl ?_
        refine vV0 (μ := mX12_either) (pc := 20) (c0 := 12) (q0 := (RX12, TX12, 34)) (μ2 := mX12_nextToken) dX12_either_20 rfl rfl lkX12_263 imX12_nextToken seX12_X12_nextToken_X12_nextToken mwX12_nextToken (Nat.le_of_ble_eq_true rfl) (e_nextD (by omega) hM hPM h96 hT.2.1) (fun mi_20 h_20 => ?_)
        exact lp_pdEB hM h96 hat (ihP f2 (by omega)) (ih (by omega)) (by omega) h_20 hT2 htd hB2 hp hq
    · rw [if_neg hs] at hp
      obtain ⟨rfl, rfl⟩ := Prod.mk.inj (Option.some.inj hp)
      refine r_aload_n (μ := mX12_either) (pc := 10) dX12_either_10 rfl rfl rfl ?_
      refine r_bipush (μ := mX12_either) (pc := 11) (v := 124) dX12_either_11 bp_124 ?_
      refine vP1 (μ := mX12_either) (pc := 13) (c0 := 12) (q0 := (RX12, TX12, 34)) (μ2 := mX12_isSign) dX12_either_13 rfl rfl lkX12_260 imX12_isSign seX12_X12_isSign_X12_isSign mwX12_isSign (Nat.le_of_ble_eq_true rfl) (e_isSign hM hPM) ?_
      refine r_if_eq (μ := mX12_either) (pc := 16) (tgt := 43) dX12_either_16 (by decide) (fun h_16 => ?_) (fun h_16 => ?_)
      · have h_16 := b2i_0 h_16
        refine r_iconst (μ := mX12_either) (pc := 43) (v := 1) dX12_either_43 ic_1 ?_
        exact r_iret (μ := mX12_either) (pc := 44) dX12_either_44 rfl rfl (hq mi ⟨hPM, hT, fun _ => hB⟩)
      · have h_16 := b2i_1 h_16
        exact absurd h_16 hs

theorem c_pdE {m0 : MI} {mr : MR} (hM : MB mr) {tp at_ : Nat} (h96 : tp ≤ 96) (hat : at_ ≤ 2880) {key : Int32} {f : Nat} (ihP : ∀ f2, f2 ≤ f → PDC m0 mr tp at_ key mX12_both f2 6) : PDC m0 mr tp at_ key mX12_either (f + 1) 8 := by
  intro D hD mi p ok p2 pend hPM hT htd hB hp
  obtain ⟨D, rfl⟩ : ∃ E, D = E + 1 := ⟨D - 1, by omega⟩
  rw [pd_8] at hp
  rcases thn_c hp with ⟨p1, h1, h2⟩ | ⟨p1, h1, h2⟩
  · obtain ⟨rfl, rfl⟩ := Prod.mk.inj h2
    refine CP.of (L := [_, _]) (by decide) rfl rfl (Nat.le_of_ble_eq_true rfl) ?_
    refine r_aload_n (μ := mX12_either) (pc := 0) dX12_either_0 rfl rfl rfl ?_
    refine r_iload_n (μ := mX12_either) (pc := 1) dX12_either_1 rfl rfl ?_
    refine vX1 (μ := mX12_either) (pc := 2) (c0 := 12) (q0 := (RX12, TX12, 34)) (μ2 := mX12_both) dX12_either_2 rfl rfl lkX12_257 imX12_both seX12_X12_both_X12_both mwX12_both (Nat.le_of_ble_eq_true rfl) (ihP f (Nat.le_refl _) D (by omega) _ _ _ _ _ hPM hT htd hB h1) (fun r_2 mi_2 h_2 => ?_)
    obtain ⟨rfl, hP1⟩ := h_2
    refine r_if_ne (μ := mX12_either) (pc := 5) (tgt := 10) dX12_either_5 (by decide) (fun h_5 => absurd (b2i_eq rfl) h_5) (fun h_5 => ?_)
    refine r_iconst (μ := mX12_either) (pc := 8) (v := 0) dX12_either_8 ic_0 ?_
    exact r_iret (μ := mX12_either) (pc := 9) dX12_either_9 rfl rfl (PX_i ⟨rfl, hP1.1, hP1.2.1, fun z => Bool.noConfusion z⟩)
  · refine CP.of (L := [_, _]) (by decide) rfl rfl (Nat.le_of_ble_eq_true rfl) ?_
    refine r_aload_n (μ := mX12_either) (pc := 0) dX12_either_0 rfl rfl rfl ?_
    refine r_iload_n (μ := mX12_either) (pc := 1) dX12_either_1 rfl rfl ?_
    refine vX1 (μ := mX12_either) (pc := 2) (c0 := 12) (q0 := (RX12, TX12, 34)) (μ2 := mX12_both) dX12_either_2 rfl rfl lkX12_257 imX12_both seX12_X12_both_X12_both mwX12_both (Nat.le_of_ble_eq_true rfl) (ihP f (Nat.le_refl _) D (by omega) _ _ _ _ _ hPM hT htd hB h1) (fun r_2 mi_2 h_2 => ?_)
    obtain ⟨rfl, hP1⟩ := h_2
    refine r_if_ne (μ := mX12_either) (pc := 5) (tgt := 10) dX12_either_5 (by decide) (fun h_5 => ?_) (fun h_5 => absurd h_5 (b2i_ne rfl))
    exact lp_pdE hM h96 hat (fun f2 h => ihP f2 (by omega)) f (Nat.le_refl _) D (by omega) _ _ _ _ _ pend hP1.1 hP1.2.1 ((pd_keep _ _ _ _ h1).le htd) (hP1.2.2 rfl) h2 (fun mi2 h => PX_i ⟨rfl, h⟩)

theorem lp_pdCB {m0 : MI} {mr : MR} (hM : MB mr) {tp at_ : Nat} (h96 : tp ≤ 96) (hat : at_ ≤ 2880) {key : Int32} {f : Nat} {D : Nat} {Q : QT} {mi : MI} {p : PS} {ok : Bool} {p2 : PS} {pend : Nat} {c : Int32} (ihP : PDC m0 mr tp at_ key mX12_sum f 3) (hD : f + 3 ≤ D) (hPM : PM m0 mi tp at_ p) (hT : TOK tp (PS.t p)) (htd : PS.tn p ≤ 8 ∧ PS.dp p ≤ 8) (hB : (PS.o p).length + (pend + 1) ≤ Tok.b (PS.t p)) (hp : thn (pd tp (m0 13) key f 3 p) (fun p2 => some (true, emP 2 c p2)) = some (ok, p2)) (hq : ∀ mi2, PDP m0 tp at_ pend ok p2 mi2 → Q (some (.int (b2i ok))) shM mi2 mr) :
    WP (D + 1) mX12_test 46 [.ref 0, .int key, .int c] [] shM mi mr 0 0 Q := by
  rcases thn_c hp with ⟨p1, h1, h2⟩ | ⟨p1, h1, h2⟩
  · obtain ⟨rfl, rfl⟩ := Prod.mk.inj h2
    refine r_aload_n (μ := mX12_test) (pc := 46) dX12_test_46 rfl rfl rfl ?_
    refine r_iload_n (μ := mX12_test) (pc := 47) dX12_test_47 rfl rfl ?_
    refine vX1 (μ := mX12_test) (pc := 48) (c0 := 12) (q0 := (RX12, TX12, 34)) (μ2 := mX12_sum) dX12_test_48 rfl rfl lkX12_272 imX12_sum seX12_X12_sum_X12_sum mwX12_sum (Nat.le_of_ble_eq_true rfl) (ihP D hD _ _ _ _ _ hPM hT htd hB h1) (fun r_48 mi_48 h_48 => ?_)
    obtain ⟨rfl, hP1⟩ := h_48
    refine r_if_ne (μ := mX12_test) (pc := 51) (tgt := 56) dX12_test_51 (by decide) (fun h_51 => absurd (b2i_eq rfl) h_51) (fun h_51 => ?_)
    refine r_iconst (μ := mX12_test) (pc := 54) (v := 0) dX12_test_54 ic_0 ?_
    exact r_iret (μ := mX12_test) (pc := 55) dX12_test_55 rfl rfl (hq _ ⟨hP1.1, hP1.2.1, fun z => Bool.noConfusion z⟩)
  · obtain ⟨rfl, rfl⟩ := Prod.mk.inj (Option.some.inj h2)
    refine r_aload_n (μ := mX12_test) (pc := 46) dX12_test_46 rfl rfl rfl ?_
    refine r_iload_n (μ := mX12_test) (pc := 47) dX12_test_47 rfl rfl ?_
    refine vX1 (μ := mX12_test) (pc := 48) (c0 := 12) (q0 := (RX12, TX12, 34)) (μ2 := mX12_sum) dX12_test_48 rfl rfl lkX12_272 imX12_sum seX12_X12_sum_X12_sum mwX12_sum (Nat.le_of_ble_eq_true rfl) (ihP D hD _ _ _ _ _ hPM hT htd hB h1) (fun r_48 mi_48 h_48 => ?_)
    obtain ⟨rfl, hP1⟩ := h_48
    refine r_if_ne (μ := mX12_test) (pc := 51) (tgt := 56) dX12_test_51 (by decide) (fun h_51 => ?_) (fun h_51 => absurd h_51 (b2i_ne rfl))
    refine r_aload_n (μ := mX12_test) (pc := 56) dX12_test_56 rfl rfl rfl ?_
    refine r_iconst (μ := mX12_test) (pc := 57) (v := 2) dX12_test_57 ic_2 ?_
    refine r_iload_n (μ := mX12_test) (pc := 58) dX12_test_58 rfl rfl ?_
    refine vV2 (μ := mX12_test) (pc := 59) (c0 := 12) (q0 := (RX12, TX12, 34)) (μ2 := mX12_step) dX12_test_59 rfl rfl lkX12_266 imX12_step seX12_X12_step_X12_step mwX12_step (Nat.le_of_ble_eq_true rfl) (e_step hM hP1.1 (by have := hP1.2.2 rfl; have := hP1.2.1.1; have := hP1.2.1.2.1; omega)) (fun mi_59 h_59 => ?_)
    refine r_iconst (μ := mX12_test) (pc := 62) (v := 1) dX12_test_62 ic_1 ?_
    exact r_iret (μ := mX12_test) (pc := 63) dX12_test_63 rfl rfl (hq _ ⟨h_59, hP1.2.1, fun _ => by show (PS.o p1 ++ [(2, c)]).length + pend ≤ _; rw [List.length_append]; have := hP1.2.2 rfl; show (PS.o p1).length + 1 + pend ≤ Tok.b (PS.t p1); omega⟩)

theorem c_pdC {m0 : MI} {mr : MR} (hM : MB mr) {tp at_ : Nat} (h96 : tp ≤ 96) (hat : at_ ≤ 2880) {key : Int32} {f : Nat} (ihP : ∀ f2, f2 ≤ f → PDC m0 mr tp at_ key mX12_sum f2 3) : PDC m0 mr tp at_ key mX12_test (f + 1) 5 := by
  intro D hD mi p ok p2 pend hPM hT htd hB hp
  obtain ⟨D, rfl⟩ : ∃ E, D = E + 1 := ⟨D - 1, by omega⟩
  rw [pd_5] at hp
  rcases thn_c hp with ⟨p1, h1, h2⟩ | ⟨p1, h1, h2⟩
  · obtain ⟨rfl, rfl⟩ := Prod.mk.inj h2
    refine CP.of (L := [_, _, _]) (by decide) rfl rfl (Nat.le_of_ble_eq_true rfl) ?_
    refine r_aload_n (μ := mX12_test) (pc := 0) dX12_test_0 rfl rfl rfl ?_
    refine r_iload_n (μ := mX12_test) (pc := 1) dX12_test_1 rfl rfl ?_
    refine vX1 (μ := mX12_test) (pc := 2) (c0 := 12) (q0 := (RX12, TX12, 34)) (μ2 := mX12_sum) dX12_test_2 rfl rfl lkX12_272 imX12_sum seX12_X12_sum_X12_sum mwX12_sum (Nat.le_of_ble_eq_true rfl) (ihP f (Nat.le_refl _) D (by omega) _ _ _ _ _ hPM hT htd hB h1) (fun r_2 mi_2 h_2 => ?_)
    obtain ⟨rfl, hP1⟩ := h_2
    refine r_if_ne (μ := mX12_test) (pc := 5) (tgt := 10) dX12_test_5 (by decide) (fun h_5 => absurd (b2i_eq rfl) h_5) (fun h_5 => ?_)
    refine r_iconst (μ := mX12_test) (pc := 8) (v := 0) dX12_test_8 ic_0 ?_
    exact r_iret (μ := mX12_test) (pc := 9) dX12_test_9 rfl rfl (PX_i ⟨rfl, hP1.1, hP1.2.1, fun z => Bool.noConfusion z⟩)
  · by_cases hs : sgnB p1 60 = true ∨ sgnB p1 61 = true ∨ sgnB p1 62 = true
    · rw [if_pos hs] at h2
      have hk3 : Tok.k (PS.t p1) = 3 := hs.elim (fun z => (sgn_k z).1) (fun z => z.elim (fun z => (sgn_k z).1) (fun z => (sgn_k z).1))
      refine CP.of (L := [_, _, _]) (by decide) rfl rfl (Nat.le_of_ble_eq_true rfl) ?_
      refine r_aload_n (μ := mX12_test) (pc := 0) dX12_test_0 rfl rfl rfl ?_
      refine r_iload_n (μ := mX12_test) (pc := 1) dX12_test_1 rfl rfl ?_
      refine vX1 (μ := mX12_test) (pc := 2) (c0 := 12) (q0 := (RX12, TX12, 34)) (μ2 := mX12_sum) dX12_test_2 rfl rfl lkX12_272 imX12_sum seX12_X12_sum_X12_sum mwX12_sum (Nat.le_of_ble_eq_true rfl) (ihP f (Nat.le_refl _) D (by omega) _ _ _ _ _ hPM hT htd hB h1) (fun r_2 mi_2 h_2 => ?_)
      obtain ⟨rfl, hP1⟩ := h_2
      refine r_if_ne (μ := mX12_test) (pc := 5) (tgt := 10) dX12_test_5 (by decide) (fun h_5 => ?_) (fun h_5 => absurd h_5 (b2i_ne rfl))
      refine r_aload_n (μ := mX12_test) (pc := 10) dX12_test_10 rfl rfl rfl ?_
      refine r_bipush (μ := mX12_test) (pc := 11) (v := 60) dX12_test_11 bp_60 ?_
      refine vP1 (μ := mX12_test) (pc := 13) (c0 := 12) (q0 := (RX12, TX12, 34)) (μ2 := mX12_isSign) dX12_test_13 rfl rfl lkX12_260 imX12_isSign seX12_X12_isSign_X12_isSign mwX12_isSign (Nat.le_of_ble_eq_true rfl) (e_isSign hM hP1.1) ?_
      refine r_if_ne (μ := mX12_test) (pc := 16) (tgt := 37) dX12_test_16 (by decide) (fun h_16 => ?_) (fun h_16 => ?_)
      · have h_16 := b2i_1 h_16
        refine r_aload_n (μ := mX12_test) (pc := 37) dX12_test_37 rfl rfl rfl ?_
        refine r_getI (μ := mX12_test) (pc := 38) dX12_test_38 fpX12_238 rfl rfl (by decide) ?_
        rw [hP1.1.2.2.2.1.2.2.2.2 (Or.inr hk3)]
        refine s_istore_n (μ := mX12_test) (pc := 41) (L2 := [_, _, _]) dX12_test_41 rfl (Nat.le_of_ble_eq_true rfl) (Nat.le_of_ble_eq_true rfl) rfl rfl ?_
        refine r_aload_n (μ := mX12_test) (pc := 42) dX12_test_42 rfl rfl rfl ?_
        refine vV0 (μ := mX12_test) (pc := 43) (c0 := 12) (q0 := (RX12, TX12, 34)) (μ2 := mX12_nextToken) dX12_test_43 rfl rfl lkX12_263 imX12_nextToken seX12_X12_nextToken_X12_nextToken mwX12_nextToken (Nat.le_of_ble_eq_true rfl) (e_nextD (by omega) hM hP1.1 h96 hP1.2.1.2.1) (fun mi_43 h_43 => ?_)
        obtain ⟨hT2, hb2⟩ := nx_tok (T := m0 13) h96 hP1.2.1
        have hbb := hP1.2.2 rfl
        exact lp_pdCB hM h96 hat (ihP f (Nat.le_refl _)) (by omega) h_43 hT2 ((pd_keep _ _ _ _ h1).le htd) (by show (PS.o p1).length + (pend + 1) ≤ _; have hlt : Tok.b (PS.t p1) < Tok.e (PS.t p1) := hP1.2.1.2.2 (by rw [hk3]; decide); omega) h2 (fun mi2 h => PX_i ⟨rfl, h⟩)
      · have h_16 := b2i_0 h_16
        refine r_aload_n (μ := mX12_test) (pc := 19) dX12_test_19 rfl rfl rfl ?_
        refine r_bipush (μ := mX12_test) (pc := 20) (v := 61) dX12_test_20 bp_61 ?_
        refine vP1 (μ := mX12_test) (pc := 22) (c0 := 12) (q0 := (RX12, TX12, 34)) (μ2 := mX12_isSign) dX12_test_22 rfl rfl lkX12_260 imX12_isSign seX12_X12_isSign_X12_isSign mwX12_isSign (Nat.le_of_ble_eq_true rfl) (e_isSign hM hP1.1) ?_
        refine r_if_ne (μ := mX12_test) (pc := 25) (tgt := 37) dX12_test_25 (by decide) (fun h_25 => ?_) (fun h_25 => ?_)
        · have h_25 := b2i_1 h_25
          refine r_aload_n (μ := mX12_test) (pc := 37) dX12_test_37 rfl rfl rfl ?_
          refine r_getI (μ := mX12_test) (pc := 38) dX12_test_38 fpX12_238 rfl rfl (by decide) ?_
          rw [hP1.1.2.2.2.1.2.2.2.2 (Or.inr hk3)]
          refine s_istore_n (μ := mX12_test) (pc := 41) (L2 := [_, _, _]) dX12_test_41 rfl (Nat.le_of_ble_eq_true rfl) (Nat.le_of_ble_eq_true rfl) rfl rfl ?_
          refine r_aload_n (μ := mX12_test) (pc := 42) dX12_test_42 rfl rfl rfl ?_
          refine vV0 (μ := mX12_test) (pc := 43) (c0 := 12) (q0 := (RX12, TX12, 34)) (μ2 := mX12_nextToken) dX12_test_43 rfl rfl lkX12_263 imX12_nextToken seX12_X12_nextToken_X12_nextToken mwX12_nextToken (Nat.le_of_ble_eq_true rfl) (e_nextD (by omega) hM hP1.1 h96 hP1.2.1.2.1) (fun mi_43 h_43 => ?_)
          obtain ⟨hT2, hb2⟩ := nx_tok (T := m0 13) h96 hP1.2.1
          have hbb := hP1.2.2 rfl
          exact lp_pdCB hM h96 hat (ihP f (Nat.le_refl _)) (by omega) h_43 hT2 ((pd_keep _ _ _ _ h1).le htd) (by show (PS.o p1).length + (pend + 1) ≤ _; have hlt : Tok.b (PS.t p1) < Tok.e (PS.t p1) := hP1.2.1.2.2 (by rw [hk3]; decide); omega) h2 (fun mi2 h => PX_i ⟨rfl, h⟩)
        · have h_25 := b2i_0 h_25
          refine r_aload_n (μ := mX12_test) (pc := 28) dX12_test_28 rfl rfl rfl ?_
          refine r_bipush (μ := mX12_test) (pc := 29) (v := 62) dX12_test_29 bp_62 ?_
          refine vP1 (μ := mX12_test) (pc := 31) (c0 := 12) (q0 := (RX12, TX12, 34)) (μ2 := mX12_isSign) dX12_test_31 rfl rfl lkX12_260 imX12_isSign seX12_X12_isSign_X12_isSign mwX12_isSign (Nat.le_of_ble_eq_true rfl) (e_isSign hM hP1.1) ?_
          refine r_if_eq (μ := mX12_test) (pc := 34) (tgt := 62) dX12_test_34 (by decide) (fun h_34 => ?_) (fun h_34 => ?_)
          · have h_34 := b2i_0 h_34
            exact absurd hs (by rw [h_16, h_25, h_34]; decide)
          · have h_34 := b2i_1 h_34
            refine r_aload_n (μ := mX12_test) (pc := 37) dX12_test_37 rfl rfl rfl ?_
            refine r_getI (μ := mX12_test) (pc := 38) dX12_test_38 fpX12_238 rfl rfl (by decide) ?_
            rw [hP1.1.2.2.2.1.2.2.2.2 (Or.inr hk3)]
            refine s_istore_n (μ := mX12_test) (pc := 41) (L2 := [_, _, _]) dX12_test_41 rfl (Nat.le_of_ble_eq_true rfl) (Nat.le_of_ble_eq_true rfl) rfl rfl ?_
            refine r_aload_n (μ := mX12_test) (pc := 42) dX12_test_42 rfl rfl rfl ?_
            refine vV0 (μ := mX12_test) (pc := 43) (c0 := 12) (q0 := (RX12, TX12, 34)) (μ2 := mX12_nextToken) dX12_test_43 rfl rfl lkX12_263 imX12_nextToken seX12_X12_nextToken_X12_nextToken mwX12_nextToken (Nat.le_of_ble_eq_true rfl) (e_nextD (by omega) hM hP1.1 h96 hP1.2.1.2.1) (fun mi_43 h_43 => ?_)
            obtain ⟨hT2, hb2⟩ := nx_tok (T := m0 13) h96 hP1.2.1
            have hbb := hP1.2.2 rfl
            exact lp_pdCB hM h96 hat (ihP f (Nat.le_refl _)) (by omega) h_43 hT2 ((pd_keep _ _ _ _ h1).le htd) (by show (PS.o p1).length + (pend + 1) ≤ _; have hlt : Tok.b (PS.t p1) < Tok.e (PS.t p1) := hP1.2.1.2.2 (by rw [hk3]; decide); omega) h2 (fun mi2 h => PX_i ⟨rfl, h⟩)
    · rw [if_neg hs] at h2
      obtain ⟨rfl, rfl⟩ := Prod.mk.inj (Option.some.inj h2)
      refine CP.of (L := [_, _, _]) (by decide) rfl rfl (Nat.le_of_ble_eq_true rfl) ?_
      refine r_aload_n (μ := mX12_test) (pc := 0) dX12_test_0 rfl rfl rfl ?_
      refine r_iload_n (μ := mX12_test) (pc := 1) dX12_test_1 rfl rfl ?_
      refine vX1 (μ := mX12_test) (pc := 2) (c0 := 12) (q0 := (RX12, TX12, 34)) (μ2 := mX12_sum) dX12_test_2 rfl rfl lkX12_272 imX12_sum seX12_X12_sum_X12_sum mwX12_sum (Nat.le_of_ble_eq_true rfl) (ihP f (Nat.le_refl _) D (by omega) _ _ _ _ _ hPM hT htd hB h1) (fun r_2 mi_2 h_2 => ?_)
      obtain ⟨rfl, hP1⟩ := h_2
      refine r_if_ne (μ := mX12_test) (pc := 5) (tgt := 10) dX12_test_5 (by decide) (fun h_5 => ?_) (fun h_5 => absurd h_5 (b2i_ne rfl))
      refine r_aload_n (μ := mX12_test) (pc := 10) dX12_test_10 rfl rfl rfl ?_
      refine r_bipush (μ := mX12_test) (pc := 11) (v := 60) dX12_test_11 bp_60 ?_
      refine vP1 (μ := mX12_test) (pc := 13) (c0 := 12) (q0 := (RX12, TX12, 34)) (μ2 := mX12_isSign) dX12_test_13 rfl rfl lkX12_260 imX12_isSign seX12_X12_isSign_X12_isSign mwX12_isSign (Nat.le_of_ble_eq_true rfl) (e_isSign hM hP1.1) ?_
      refine r_if_ne (μ := mX12_test) (pc := 16) (tgt := 37) dX12_test_16 (by decide) (fun h_16 => ?_) (fun h_16 => ?_)
      · have h_16 := b2i_1 h_16
        exact absurd (Or.inl h_16) hs
      · have h_16 := b2i_0 h_16
        refine r_aload_n (μ := mX12_test) (pc := 19) dX12_test_19 rfl rfl rfl ?_
        refine r_bipush (μ := mX12_test) (pc := 20) (v := 61) dX12_test_20 bp_61 ?_
        refine vP1 (μ := mX12_test) (pc := 22) (c0 := 12) (q0 := (RX12, TX12, 34)) (μ2 := mX12_isSign) dX12_test_22 rfl rfl lkX12_260 imX12_isSign seX12_X12_isSign_X12_isSign mwX12_isSign (Nat.le_of_ble_eq_true rfl) (e_isSign hM hP1.1) ?_
        refine r_if_ne (μ := mX12_test) (pc := 25) (tgt := 37) dX12_test_25 (by decide) (fun h_25 => ?_) (fun h_25 => ?_)
        · have h_25 := b2i_1 h_25
          exact absurd (Or.inr (Or.inl h_25)) hs
        · have h_25 := b2i_0 h_25
          refine r_aload_n (μ := mX12_test) (pc := 28) dX12_test_28 rfl rfl rfl ?_
          refine r_bipush (μ := mX12_test) (pc := 29) (v := 62) dX12_test_29 bp_62 ?_
          refine vP1 (μ := mX12_test) (pc := 31) (c0 := 12) (q0 := (RX12, TX12, 34)) (μ2 := mX12_isSign) dX12_test_31 rfl rfl lkX12_260 imX12_isSign seX12_X12_isSign_X12_isSign mwX12_isSign (Nat.le_of_ble_eq_true rfl) (e_isSign hM hP1.1) ?_
          refine r_if_eq (μ := mX12_test) (pc := 34) (tgt := 62) dX12_test_34 (by decide) (fun h_34 => ?_) (fun h_34 => ?_)
          · have h_34 := b2i_0 h_34
            refine r_iconst (μ := mX12_test) (pc := 62) (v := 1) dX12_test_62 ic_1 ?_
            exact r_iret (μ := mX12_test) (pc := 63) dX12_test_63 rfl rfl (PX_i ⟨rfl, hP1⟩)
          · have h_34 := b2i_1 h_34
            exact absurd (Or.inr (Or.inr h_34)) hs

