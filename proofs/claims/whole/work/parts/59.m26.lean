theorem lp_p102 {m0 : MI} {mr : MR} (hM : MB mr) {tp at_ : Nat} (h96 : tp ≤ 96) (hat : at_ ≤ 2880) {key : Int32} {f D : Nat} {Q : QT} {mi : MI} {p : PS} {ok : Bool} {p2 : PS} {pend : Nat} (ihP : PDC m0 mr tp at_ key mX12_part0 f 0) (hD : f + 3 ≤ D) (hPM : PM m0 mi tp at_ p) (hT : TOK tp (PS.t p)) (htd : PS.tn p ≤ 8 ∧ PS.dp p ≤ 8) (hB : (PS.o p).length + pend ≤ Tok.b (PS.t p)) (hlt : Tok.b (PS.t p) < Tok.e (PS.t p)) (htd2 : PS.tn (tnP (PS.tn p + 1) p) ≤ 8 ∧ PS.dp p ≤ 8) (hp : thn (pd tp (m0 13) key f 0 (nxP tp (m0 13) (tnP (PS.tn p + 1) p))) (fun p => some (true, emP 2 33 (tnP (PS.tn p - 1) p))) = some (ok, p2)) (hq : ∀ mi2, PDP m0 tp at_ pend ok p2 mi2 → Q (some (.int (b2i ok))) shM mi2 mr) : WP (D + 1) mX12_part0 102 [.ref 0, .int key] [] shM mi mr 0 0 Q := by
  have hu := hPM.u (x := PS.tn p + 1)
  obtain ⟨hT2, hb2⟩ := nx_tok (T := m0 13) (p := tnP (PS.tn p + 1) p) h96 hT
  have hB2 : (PS.o (nxP tp (m0 13) (tnP (PS.tn p + 1) p))).length + (pend + 1) ≤ Tok.b (PS.t (nxP tp (m0 13) (tnP (PS.tn p + 1) p))) := by show (PS.o p).length + (pend + 1) ≤ _; have hb3 : Tok.e (PS.t p) ≤ Tok.b (PS.t (nxP tp (m0 13) (tnP (PS.tn p + 1) p))) := hb2; omega
  rcases thn_c hp with ⟨p1, h1, h2⟩ | ⟨p1, h1, h2⟩
  · obtain ⟨rfl, rfl⟩ := Prod.mk.inj h2
    refine r_aload_n (μ := mX12_part0) (pc := 102) dX12_part0_102 rfl rfl rfl ?_
    refine r_dup (μ := mX12_part0) (pc := 103) dX12_part0_103 rfl ?_
    refine r_getI (μ := mX12_part0) (pc := 104) dX12_part0_104 fpX12_287 rfl rfl (by decide) ?_
    rw [hPM.2.2.2.2.1.2.1]
    refine r_iconst (μ := mX12_part0) (pc := 107) (v := 1) dX12_part0_107 ic_1 ?_
    refine r_iadd (μ := mX12_part0) (pc := 108) dX12_part0_108 ?_
    rw [← nI_succ]
    refine r_putI (μ := mX12_part0) (pc := 109) dX12_part0_109 fwX12_287 rfl (by decide) rfl ?_
    refine r_aload_n (μ := mX12_part0) (pc := 112) dX12_part0_112 rfl rfl rfl ?_
    refine vV0 (μ := mX12_part0) (pc := 113) (c0 := 12) (q0 := (RX12, TX12, 34)) (μ2 := mX12_nextToken) dX12_part0_113 rfl rfl lkX12_263 imX12_nextToken seX12_X12_nextToken_X12_nextToken mwX12_nextToken (Nat.le_of_ble_eq_true rfl) (e_nextD (by omega) hM hu h96 hT.2.1) (fun mi_113 h_113 => ?_)
    refine r_aload_n (μ := mX12_part0) (pc := 116) dX12_part0_116 rfl rfl rfl ?_
    refine r_iload_n (μ := mX12_part0) (pc := 117) dX12_part0_117 rfl rfl ?_
    refine vX1 (μ := mX12_part0) (pc := 118) (c0 := 12) (q0 := (RX12, TX12, 34)) (μ2 := mX12_part0) dX12_part0_118 rfl rfl lkX12_278 imX12_part0 seX12_X12_part0_X12_part0 mwX12_part0 (Nat.le_of_ble_eq_true rfl) (ihP D hD _ _ _ _ _ h_113 hT2 htd2 hB2 h1) (fun r_118 mi_118 h_118 => ?_)
    obtain ⟨rfl, hP1⟩ := h_118
    refine r_if_ne (μ := mX12_part0) (pc := 121) (tgt := 126) dX12_part0_121 (by decide) (fun h_121 => absurd (b2i_eq rfl) h_121) (fun h_121 => ?_)
    refine r_iconst (μ := mX12_part0) (pc := 124) (v := 0) dX12_part0_124 ic_0 ?_
    exact r_iret (μ := mX12_part0) (pc := 125) dX12_part0_125 rfl rfl (hq _ ⟨hP1.1, hP1.2.1, fun z => Bool.noConfusion z⟩)
  · obtain ⟨rfl, rfl⟩ := Prod.mk.inj (Option.some.inj h2)
    have hk := (pd_keep f 0 _ _ h1).1
    have hk1 : 1 ≤ PS.tn p1 := by rw [hk]; exact Nat.succ_le_succ (Nat.zero_le _)
    refine r_aload_n (μ := mX12_part0) (pc := 102) dX12_part0_102 rfl rfl rfl ?_
    refine r_dup (μ := mX12_part0) (pc := 103) dX12_part0_103 rfl ?_
    refine r_getI (μ := mX12_part0) (pc := 104) dX12_part0_104 fpX12_287 rfl rfl (by decide) ?_
    rw [hPM.2.2.2.2.1.2.1]
    refine r_iconst (μ := mX12_part0) (pc := 107) (v := 1) dX12_part0_107 ic_1 ?_
    refine r_iadd (μ := mX12_part0) (pc := 108) dX12_part0_108 ?_
    rw [← nI_succ]
    refine r_putI (μ := mX12_part0) (pc := 109) dX12_part0_109 fwX12_287 rfl (by decide) rfl ?_
    refine r_aload_n (μ := mX12_part0) (pc := 112) dX12_part0_112 rfl rfl rfl ?_
    refine vV0 (μ := mX12_part0) (pc := 113) (c0 := 12) (q0 := (RX12, TX12, 34)) (μ2 := mX12_nextToken) dX12_part0_113 rfl rfl lkX12_263 imX12_nextToken seX12_X12_nextToken_X12_nextToken mwX12_nextToken (Nat.le_of_ble_eq_true rfl) (e_nextD (by omega) hM hu h96 hT.2.1) (fun mi_113 h_113 => ?_)
    refine r_aload_n (μ := mX12_part0) (pc := 116) dX12_part0_116 rfl rfl rfl ?_
    refine r_iload_n (μ := mX12_part0) (pc := 117) dX12_part0_117 rfl rfl ?_
    refine vX1 (μ := mX12_part0) (pc := 118) (c0 := 12) (q0 := (RX12, TX12, 34)) (μ2 := mX12_part0) dX12_part0_118 rfl rfl lkX12_278 imX12_part0 seX12_X12_part0_X12_part0 mwX12_part0 (Nat.le_of_ble_eq_true rfl) (ihP D hD _ _ _ _ _ h_113 hT2 htd2 hB2 h1) (fun r_118 mi_118 h_118 => ?_)
    obtain ⟨rfl, hP1⟩ := h_118
    refine r_if_ne (μ := mX12_part0) (pc := 121) (tgt := 126) dX12_part0_121 (by decide) (fun h_121 => ?_) (fun h_121 => absurd h_121 (b2i_ne rfl))
    refine r_aload_n (μ := mX12_part0) (pc := 126) dX12_part0_126 rfl rfl rfl ?_
    refine r_dup (μ := mX12_part0) (pc := 127) dX12_part0_127 rfl ?_
    refine r_getI (μ := mX12_part0) (pc := 128) dX12_part0_128 fpX12_287 rfl rfl (by decide) ?_
    rw [hP1.1.2.2.2.2.1.2.1]
    refine r_iconst (μ := mX12_part0) (pc := 131) (v := 1) dX12_part0_131 ic_1 ?_
    refine r_isub (μ := mX12_part0) (pc := 132) dX12_part0_132 ?_
    rw [sub1 hk1]
    refine r_putI (μ := mX12_part0) (pc := 133) dX12_part0_133 fwX12_287 rfl (by decide) rfl ?_
    refine r_aload_n (μ := mX12_part0) (pc := 136) dX12_part0_136 rfl rfl rfl ?_
    refine r_iconst (μ := mX12_part0) (pc := 137) (v := 2) dX12_part0_137 ic_2 ?_
    refine r_bipush (μ := mX12_part0) (pc := 138) (v := 33) dX12_part0_138 bp_33 ?_
    refine vV2 (μ := mX12_part0) (pc := 140) (c0 := 12) (q0 := (RX12, TX12, 34)) (μ2 := mX12_step) dX12_part0_140 rfl rfl lkX12_266 imX12_step seX12_X12_step_X12_step mwX12_step (Nat.le_of_ble_eq_true rfl) (e_step (p := tnP (PS.tn p1 - 1) p1) hM (hP1.1.u (x := PS.tn p1 - 1)) (by show at_ + 2 * (PS.o p1).length + 1 < 3080; have := hP1.2.2 rfl; have := hP1.2.1.1; have := hP1.2.1.2.1; omega)) (fun mi_140 h_140 => ?_)
    refine r_iconst (μ := mX12_part0) (pc := 143) (v := 1) dX12_part0_143 ic_1 ?_
    exact r_iret (μ := mX12_part0) (pc := 144) dX12_part0_144 rfl rfl (hq _ ⟨h_140, hP1.2.1, fun _ => by show (PS.o p1 ++ [(2, 33)]).length + pend ≤ _; rw [List.length_append]; have := hP1.2.2 rfl; show (PS.o p1).length + 1 + pend ≤ Tok.b (PS.t p1); omega⟩)

theorem lp_p165 {m0 : MI} {mr : MR} (hM : MB mr) {tp at_ : Nat} (h96 : tp ≤ 96) (hat : at_ ≤ 2880) {key : Int32} {f D : Nat} {Q : QT} {mi : MI} {p : PS} {ok : Bool} {p2 : PS} {pend : Nat} (ihE : PDC m0 mr tp at_ key mX12_either f 8) (hD : f + 3 ≤ D) (hPM : PM m0 mi tp at_ p) (hT : TOK tp (PS.t p)) (htd : PS.tn p ≤ 8 ∧ PS.dp p ≤ 8) (hB : (PS.o p).length + pend ≤ Tok.b (PS.t p)) (hlt : Tok.b (PS.t p) < Tok.e (PS.t p)) (htd2 : PS.tn p ≤ 8 ∧ PS.dp (dpP (PS.dp p + 1) p) ≤ 8) (hp : thn (pd tp (m0 13) key f 8 (nxP tp (m0 13) (dpP (PS.dp p + 1) p))) (fun p => if sgnB p 41 = true then some (true, nxP tp (m0 13) (dpP (PS.dp p - 1) p)) else some (false, p)) = some (ok, p2)) (hq : ∀ mi2, PDP m0 tp at_ pend ok p2 mi2 → Q (some (.int (b2i ok))) shM mi2 mr) : WP (D + 1) mX12_part0 165 [.ref 0, .int key] [] shM mi mr 0 0 Q := by
  have hu := hPM.d (x := PS.dp p + 1)
  obtain ⟨hT2, hb2⟩ := nx_tok (T := m0 13) (p := dpP (PS.dp p + 1) p) h96 hT
  have hB2 : (PS.o (nxP tp (m0 13) (dpP (PS.dp p + 1) p))).length + (pend + 1) ≤ Tok.b (PS.t (nxP tp (m0 13) (dpP (PS.dp p + 1) p))) := by show (PS.o p).length + (pend + 1) ≤ _; have hb3 : Tok.e (PS.t p) ≤ Tok.b (PS.t (nxP tp (m0 13) (dpP (PS.dp p + 1) p))) := hb2; omega
  rcases thn_c hp with ⟨p1, h1, h2⟩ | ⟨p1, h1, h2⟩
  · obtain ⟨rfl, rfl⟩ := Prod.mk.inj h2
    refine r_aload_n (μ := mX12_part0) (pc := 165) dX12_part0_165 rfl rfl rfl ?_
    refine r_dup (μ := mX12_part0) (pc := 166) dX12_part0_166 rfl ?_
    refine r_getI (μ := mX12_part0) (pc := 167) dX12_part0_167 fpX12_290 rfl rfl (by decide) ?_
    rw [hPM.2.2.2.2.1.1]
    refine r_iconst (μ := mX12_part0) (pc := 170) (v := 1) dX12_part0_170 ic_1 ?_
    refine r_iadd (μ := mX12_part0) (pc := 171) dX12_part0_171 ?_
    rw [← nI_succ]
    refine r_putI (μ := mX12_part0) (pc := 172) dX12_part0_172 fwX12_290 rfl (by decide) rfl ?_
    refine r_aload_n (μ := mX12_part0) (pc := 175) dX12_part0_175 rfl rfl rfl ?_
    refine vV0 (μ := mX12_part0) (pc := 176) (c0 := 12) (q0 := (RX12, TX12, 34)) (μ2 := mX12_nextToken) dX12_part0_176 rfl rfl lkX12_263 imX12_nextToken seX12_X12_nextToken_X12_nextToken mwX12_nextToken (Nat.le_of_ble_eq_true rfl) (e_nextD (by omega) hM hu h96 hT.2.1) (fun mi_176 h_176 => ?_)
    refine r_aload_n (μ := mX12_part0) (pc := 179) dX12_part0_179 rfl rfl rfl ?_
    refine r_iload_n (μ := mX12_part0) (pc := 180) dX12_part0_180 rfl rfl ?_
    refine vX1 (μ := mX12_part0) (pc := 181) (c0 := 12) (q0 := (RX12, TX12, 34)) (μ2 := mX12_either) dX12_part0_181 rfl rfl lkX12_293 imX12_either seX12_X12_either_X12_either mwX12_either (Nat.le_of_ble_eq_true rfl) (ihE D hD _ _ _ _ _ h_176 hT2 htd2 hB2 h1) (fun r_181 mi_181 h_181 => ?_)
    obtain ⟨rfl, hP1⟩ := h_181
    refine r_if_eq (μ := mX12_part0) (pc := 184) (tgt := 196) dX12_part0_184 (by decide) (fun h_184 => ?_) (fun h_184 => absurd (b2i_eq rfl) h_184)
    refine r_iconst (μ := mX12_part0) (pc := 196) (v := 0) dX12_part0_196 ic_0 ?_
    exact r_iret (μ := mX12_part0) (pc := 197) dX12_part0_197 rfl rfl (hq _ ⟨hP1.1, hP1.2.1, fun z => Bool.noConfusion z⟩)
  · have hk := (pd_keep f 8 _ _ h1).2
    have hk1 : 1 ≤ PS.dp p1 := by rw [hk]; exact Nat.succ_le_succ (Nat.zero_le _)
    by_cases hs : sgnB p1 41 = true
    · rw [if_pos hs] at h2
      obtain ⟨rfl, rfl⟩ := Prod.mk.inj (Option.some.inj h2)
      refine r_aload_n (μ := mX12_part0) (pc := 165) dX12_part0_165 rfl rfl rfl ?_
      refine r_dup (μ := mX12_part0) (pc := 166) dX12_part0_166 rfl ?_
      refine r_getI (μ := mX12_part0) (pc := 167) dX12_part0_167 fpX12_290 rfl rfl (by decide) ?_
      rw [hPM.2.2.2.2.1.1]
      refine r_iconst (μ := mX12_part0) (pc := 170) (v := 1) dX12_part0_170 ic_1 ?_
      refine r_iadd (μ := mX12_part0) (pc := 171) dX12_part0_171 ?_
      rw [← nI_succ]
      refine r_putI (μ := mX12_part0) (pc := 172) dX12_part0_172 fwX12_290 rfl (by decide) rfl ?_
      refine r_aload_n (μ := mX12_part0) (pc := 175) dX12_part0_175 rfl rfl rfl ?_
      refine vV0 (μ := mX12_part0) (pc := 176) (c0 := 12) (q0 := (RX12, TX12, 34)) (μ2 := mX12_nextToken) dX12_part0_176 rfl rfl lkX12_263 imX12_nextToken seX12_X12_nextToken_X12_nextToken mwX12_nextToken (Nat.le_of_ble_eq_true rfl) (e_nextD (by omega) hM hu h96 hT.2.1) (fun mi_176 h_176 => ?_)
      refine r_aload_n (μ := mX12_part0) (pc := 179) dX12_part0_179 rfl rfl rfl ?_
      refine r_iload_n (μ := mX12_part0) (pc := 180) dX12_part0_180 rfl rfl ?_
      refine vX1 (μ := mX12_part0) (pc := 181) (c0 := 12) (q0 := (RX12, TX12, 34)) (μ2 := mX12_either) dX12_part0_181 rfl rfl lkX12_293 imX12_either seX12_X12_either_X12_either mwX12_either (Nat.le_of_ble_eq_true rfl) (ihE D hD _ _ _ _ _ h_176 hT2 htd2 hB2 h1) (fun r_181 mi_181 h_181 => ?_)
      obtain ⟨rfl, hP1⟩ := h_181
      refine r_if_eq (μ := mX12_part0) (pc := 184) (tgt := 196) dX12_part0_184 (by decide) (fun h_184 => absurd h_184 (b2i_ne rfl)) (fun h_184 => ?_)
      refine r_aload_n (μ := mX12_part0) (pc := 187) dX12_part0_187 rfl rfl rfl ?_
      refine r_bipush (μ := mX12_part0) (pc := 188) (v := 41) dX12_part0_188 bp_41 ?_
      refine vP1 (μ := mX12_part0) (pc := 190) (c0 := 12) (q0 := (RX12, TX12, 34)) (μ2 := mX12_isSign) dX12_part0_190 rfl rfl lkX12_260 imX12_isSign seX12_X12_isSign_X12_isSign mwX12_isSign (Nat.le_of_ble_eq_true rfl) (e_isSign hM hP1.1) ?_
      refine r_if_ne (μ := mX12_part0) (pc := 193) (tgt := 198) dX12_part0_193 (by decide) (fun h_193 => ?_) (fun h_193 => ?_)
      · have h_193 := b2i_1 h_193
        refine r_aload_n (μ := mX12_part0) (pc := 198) dX12_part0_198 rfl rfl rfl ?_
        refine r_dup (μ := mX12_part0) (pc := 199) dX12_part0_199 rfl ?_
        refine r_getI (μ := mX12_part0) (pc := 200) dX12_part0_200 fpX12_290 rfl rfl (by decide) ?_
        rw [hP1.1.2.2.2.2.1.1]
        refine r_iconst (μ := mX12_part0) (pc := 203) (v := 1) dX12_part0_203 ic_1 ?_
        refine r_isub (μ := mX12_part0) (pc := 204) dX12_part0_204 ?_
        rw [sub1 hk1]
        refine r_putI (μ := mX12_part0) (pc := 205) dX12_part0_205 fwX12_290 rfl (by decide) rfl ?_
        refine r_aload_n (μ := mX12_part0) (pc := 208) dX12_part0_208 rfl rfl rfl ?_
        refine vV0 (μ := mX12_part0) (pc := 209) (c0 := 12) (q0 := (RX12, TX12, 34)) (μ2 := mX12_nextToken) dX12_part0_209 rfl rfl lkX12_263 imX12_nextToken seX12_X12_nextToken_X12_nextToken mwX12_nextToken (Nat.le_of_ble_eq_true rfl) (e_nextD (p := dpP (PS.dp p1 - 1) p1) (by omega) hM (hP1.1.d (x := PS.dp p1 - 1)) h96 hP1.2.1.2.1) (fun mi_209 h_209 => ?_)
        refine r_iconst (μ := mX12_part0) (pc := 212) (v := 1) dX12_part0_212 ic_1 ?_
        exact r_iret (μ := mX12_part0) (pc := 213) dX12_part0_213 rfl rfl (hq _ ⟨h_209, (nx_tok (T := m0 13) (p := dpP (PS.dp p1 - 1) p1) h96 hP1.2.1).1, fun _ => by have hb9 : Tok.e (PS.t p1) ≤ _ := (nx_tok (T := m0 13) (p := dpP (PS.dp p1 - 1) p1) h96 hP1.2.1).2; have := hP1.2.2 rfl; have := hP1.2.1.1; show (PS.o p1).length + pend ≤ _; omega⟩)
      · have h_193 := b2i_0 h_193
        exact absurd (h_193.symm.trans hs) (by decide)
    · rw [if_neg hs] at h2
      obtain ⟨rfl, rfl⟩ := Prod.mk.inj (Option.some.inj h2)
      refine r_aload_n (μ := mX12_part0) (pc := 165) dX12_part0_165 rfl rfl rfl ?_
      refine r_dup (μ := mX12_part0) (pc := 166) dX12_part0_166 rfl ?_
      refine r_getI (μ := mX12_part0) (pc := 167) dX12_part0_167 fpX12_290 rfl rfl (by decide) ?_
      rw [hPM.2.2.2.2.1.1]
      refine r_iconst (μ := mX12_part0) (pc := 170) (v := 1) dX12_part0_170 ic_1 ?_
      refine r_iadd (μ := mX12_part0) (pc := 171) dX12_part0_171 ?_
      rw [← nI_succ]
      refine r_putI (μ := mX12_part0) (pc := 172) dX12_part0_172 fwX12_290 rfl (by decide) rfl ?_
      refine r_aload_n (μ := mX12_part0) (pc := 175) dX12_part0_175 rfl rfl rfl ?_
      refine vV0 (μ := mX12_part0) (pc := 176) (c0 := 12) (q0 := (RX12, TX12, 34)) (μ2 := mX12_nextToken) dX12_part0_176 rfl rfl lkX12_263 imX12_nextToken seX12_X12_nextToken_X12_nextToken mwX12_nextToken (Nat.le_of_ble_eq_true rfl) (e_nextD (by omega) hM hu h96 hT.2.1) (fun mi_176 h_176 => ?_)
      refine r_aload_n (μ := mX12_part0) (pc := 179) dX12_part0_179 rfl rfl rfl ?_
      refine r_iload_n (μ := mX12_part0) (pc := 180) dX12_part0_180 rfl rfl ?_
      refine vX1 (μ := mX12_part0) (pc := 181) (c0 := 12) (q0 := (RX12, TX12, 34)) (μ2 := mX12_either) dX12_part0_181 rfl rfl lkX12_293 imX12_either seX12_X12_either_X12_either mwX12_either (Nat.le_of_ble_eq_true rfl) (ihE D hD _ _ _ _ _ h_176 hT2 htd2 hB2 h1) (fun r_181 mi_181 h_181 => ?_)
      obtain ⟨rfl, hP1⟩ := h_181
      refine r_if_eq (μ := mX12_part0) (pc := 184) (tgt := 196) dX12_part0_184 (by decide) (fun h_184 => absurd h_184 (b2i_ne rfl)) (fun h_184 => ?_)
      refine r_aload_n (μ := mX12_part0) (pc := 187) dX12_part0_187 rfl rfl rfl ?_
      refine r_bipush (μ := mX12_part0) (pc := 188) (v := 41) dX12_part0_188 bp_41 ?_
      refine vP1 (μ := mX12_part0) (pc := 190) (c0 := 12) (q0 := (RX12, TX12, 34)) (μ2 := mX12_isSign) dX12_part0_190 rfl rfl lkX12_260 imX12_isSign seX12_X12_isSign_X12_isSign mwX12_isSign (Nat.le_of_ble_eq_true rfl) (e_isSign hM hP1.1) ?_
      refine r_if_ne (μ := mX12_part0) (pc := 193) (tgt := 198) dX12_part0_193 (by decide) (fun h_193 => ?_) (fun h_193 => ?_)
      · have h_193 := b2i_1 h_193
        exact absurd h_193 hs
      · have h_193 := b2i_0 h_193
        refine r_iconst (μ := mX12_part0) (pc := 196) (v := 0) dX12_part0_196 ic_0 ?_
        exact r_iret (μ := mX12_part0) (pc := 197) dX12_part0_197 rfl rfl (hq _ ⟨hP1.1, hP1.2.1, fun z => Bool.noConfusion z⟩)

theorem lp_p84 {m0 : MI} {mr : MR} (hM : MB mr) {tp at_ : Nat} (h96 : tp ≤ 96) (hat : at_ ≤ 2880) {key : Int32} {f D : Nat} {Q : QT} {mi : MI} {p : PS} {ok : Bool} {p2 : PS} {pend : Nat} (ihP : PDC m0 mr tp at_ key mX12_part0 f 0) (ihE : PDC m0 mr tp at_ key mX12_either f 8) (hD : f + 3 ≤ D) (hPM : PM m0 mi tp at_ p) (hT : TOK tp (PS.t p)) (htd : PS.tn p ≤ 8 ∧ PS.dp p ≤ 8) (hB : (PS.o p).length + pend ≤ Tok.b (PS.t p)) (hp : (if sgnB p 33 = true ∧ PS.tn p < 8 then thn (pd tp (m0 13) key f 0 (nxP tp (m0 13) (tnP (PS.tn p + 1) p))) (fun p => some (true, emP 2 33 (tnP (PS.tn p - 1) p)))
    else if sgnB p 40 = true ∧ ¬ PS.dp p = 8 then thn (pd tp (m0 13) key f 8 (nxP tp (m0 13) (dpP (PS.dp p + 1) p))) (fun p => if sgnB p 41 = true then some (true, nxP tp (m0 13) (dpP (PS.dp p - 1) p)) else some (false, p)) else some (false, p)) = some (ok, p2)) (hq : ∀ mi2, PDP m0 tp at_ pend ok p2 mi2 → Q (some (.int (b2i ok))) shM mi2 mr) : WP (D + 1) mX12_part0 84 [.ref 0, .int key] [] shM mi mr 0 0 Q := by
  refine r_aload_n (μ := mX12_part0) (pc := 84) dX12_part0_84 rfl rfl rfl ?_
  refine r_bipush (μ := mX12_part0) (pc := 85) (v := 33) dX12_part0_85 bp_33 ?_
  refine vP1 (μ := mX12_part0) (pc := 87) (c0 := 12) (q0 := (RX12, TX12, 34)) (μ2 := mX12_isSign) dX12_part0_87 rfl rfl lkX12_260 imX12_isSign seX12_X12_isSign_X12_isSign mwX12_isSign (Nat.le_of_ble_eq_true rfl) (e_isSign hM hPM) ?_
  refine r_if_eq (μ := mX12_part0) (pc := 90) (tgt := 145) dX12_part0_90 (by decide) (fun h_90 => ?_) (fun h_90 => ?_)
  · have h_90 := b2i_0 h_90
    rw [if_neg (fun z => absurd (h_90.symm.trans z.1) (by decide))] at hp
    refine r_aload_n (μ := mX12_part0) (pc := 145) dX12_part0_145 rfl rfl rfl ?_
    refine r_bipush (μ := mX12_part0) (pc := 146) (v := 40) dX12_part0_146 bp_40 ?_
    refine vP1 (μ := mX12_part0) (pc := 148) (c0 := 12) (q0 := (RX12, TX12, 34)) (μ2 := mX12_isSign) dX12_part0_148 rfl rfl lkX12_260 imX12_isSign seX12_X12_isSign_X12_isSign mwX12_isSign (Nat.le_of_ble_eq_true rfl) (e_isSign hM hPM) ?_
    refine r_if_eq (μ := mX12_part0) (pc := 151) (tgt := 163) dX12_part0_151 (by decide) (fun h_151 => ?_) (fun h_151 => ?_)
    · have h_151 := b2i_0 h_151
      rw [if_neg (fun z => absurd (h_151.symm.trans z.1) (by decide))] at hp
      obtain ⟨rfl, rfl⟩ := Prod.mk.inj (Option.some.inj hp)
      refine r_iconst (μ := mX12_part0) (pc := 163) (v := 0) dX12_part0_163 ic_0 ?_
      exact r_iret (μ := mX12_part0) (pc := 164) dX12_part0_164 rfl rfl (hq _ ⟨hPM, hT, fun z => Bool.noConfusion z⟩)
    · have h_151 := b2i_1 h_151
      refine r_aload_n (μ := mX12_part0) (pc := 154) dX12_part0_154 rfl rfl rfl ?_
      refine r_getI (μ := mX12_part0) (pc := 155) dX12_part0_155 fpX12_290 rfl rfl (by decide) ?_
      rw [hPM.2.2.2.2.1.1]
      refine r_bipush (μ := mX12_part0) (pc := 158) (v := 8) dX12_part0_158 bp_8 ?_
      refine r_icmp_ne (μ := mX12_part0) (pc := 160) (tgt := 165) dX12_part0_160 (by decide) (fun h_160 => ?_) (fun h_160 => ?_)
      · rw [if_pos ⟨h_151, fun z => h_160 (by rw [z]; rfl)⟩] at hp
        exact lp_p165 hM h96 hat ihE hD hPM hT htd hB (sgn_lt hT h_151) ⟨htd.1, by show PS.dp p + 1 ≤ 8; have hz8 : ¬ PS.dp p = 8 := fun z => h_160 (by rw [z]; rfl); have := htd.2; omega⟩ hp hq
      · rw [if_neg (fun z => z.2 ((nI_eq (b := 8) (by omega) (by omega)).mp h_160))] at hp
        obtain ⟨rfl, rfl⟩ := Prod.mk.inj (Option.some.inj hp)
        refine r_iconst (μ := mX12_part0) (pc := 163) (v := 0) dX12_part0_163 ic_0 ?_
        exact r_iret (μ := mX12_part0) (pc := 164) dX12_part0_164 rfl rfl (hq _ ⟨hPM, hT, fun z => Bool.noConfusion z⟩)
  · have h_90 := b2i_1 h_90
    refine r_aload_n (μ := mX12_part0) (pc := 93) dX12_part0_93 rfl rfl rfl ?_
    refine r_getI (μ := mX12_part0) (pc := 94) dX12_part0_94 fpX12_287 rfl rfl (by decide) ?_
    rw [hPM.2.2.2.2.1.2.1]
    refine r_bipush (μ := mX12_part0) (pc := 97) (v := 8) dX12_part0_97 bp_8 ?_
    refine r_icmp_ge (μ := mX12_part0) (pc := 99) (tgt := 145) dX12_part0_99 (by decide) (fun h_99 => ?_) (fun h_99 => ?_)
    · rw [if_neg (fun z => absurd ((nI_leI (a := 8) (by omega) (by omega)).mp h_99) (by have := z.2; omega))] at hp
      refine r_aload_n (μ := mX12_part0) (pc := 145) dX12_part0_145 rfl rfl rfl ?_
      refine r_bipush (μ := mX12_part0) (pc := 146) (v := 40) dX12_part0_146 bp_40 ?_
      refine vP1 (μ := mX12_part0) (pc := 148) (c0 := 12) (q0 := (RX12, TX12, 34)) (μ2 := mX12_isSign) dX12_part0_148 rfl rfl lkX12_260 imX12_isSign seX12_X12_isSign_X12_isSign mwX12_isSign (Nat.le_of_ble_eq_true rfl) (e_isSign hM hPM) ?_
      refine r_if_eq (μ := mX12_part0) (pc := 151) (tgt := 163) dX12_part0_151 (by decide) (fun h_151 => ?_) (fun h_151 => ?_)
      · have h_151 := b2i_0 h_151
        rw [if_neg (fun z => absurd (h_151.symm.trans z.1) (by decide))] at hp
        obtain ⟨rfl, rfl⟩ := Prod.mk.inj (Option.some.inj hp)
        refine r_iconst (μ := mX12_part0) (pc := 163) (v := 0) dX12_part0_163 ic_0 ?_
        exact r_iret (μ := mX12_part0) (pc := 164) dX12_part0_164 rfl rfl (hq _ ⟨hPM, hT, fun z => Bool.noConfusion z⟩)
      · have h_151 := b2i_1 h_151
        refine r_aload_n (μ := mX12_part0) (pc := 154) dX12_part0_154 rfl rfl rfl ?_
        refine r_getI (μ := mX12_part0) (pc := 155) dX12_part0_155 fpX12_290 rfl rfl (by decide) ?_
        rw [hPM.2.2.2.2.1.1]
        refine r_bipush (μ := mX12_part0) (pc := 158) (v := 8) dX12_part0_158 bp_8 ?_
        refine r_icmp_ne (μ := mX12_part0) (pc := 160) (tgt := 165) dX12_part0_160 (by decide) (fun h_160 => ?_) (fun h_160 => ?_)
        · rw [if_pos ⟨h_151, fun z => h_160 (by rw [z]; rfl)⟩] at hp
          exact lp_p165 hM h96 hat ihE hD hPM hT htd hB (sgn_lt hT h_151) ⟨htd.1, by show PS.dp p + 1 ≤ 8; have hz8 : ¬ PS.dp p = 8 := fun z => h_160 (by rw [z]; rfl); have := htd.2; omega⟩ hp hq
        · rw [if_neg (fun z => z.2 ((nI_eq (b := 8) (by omega) (by omega)).mp h_160))] at hp
          obtain ⟨rfl, rfl⟩ := Prod.mk.inj (Option.some.inj hp)
          refine r_iconst (μ := mX12_part0) (pc := 163) (v := 0) dX12_part0_163 ic_0 ?_
          exact r_iret (μ := mX12_part0) (pc := 164) dX12_part0_164 rfl rfl (hq _ ⟨hPM, hT, fun z => Bool.noConfusion z⟩)
    · rw [if_pos ⟨h_90, by have := mt (nI_leI (a := 8) (by omega) (by omega)).mpr h_99; omega⟩] at hp
      exact lp_p102 hM h96 hat ihP hD hPM hT htd hB (sgn_lt hT h_90) ⟨by show PS.tn p + 1 ≤ 8; have := mt (nI_leI (a := 8) (by omega) (by omega)).mpr h_99; omega, htd.2⟩ hp hq

theorem c_pdP {m0 : MI} {mr : MR} (hM : MB mr) {tp at_ : Nat} (h96 : tp ≤ 96) (hat : at_ ≤ 2880) {key : Int32} {f : Nat} (hkey : key = 0 ∨ key = 1 ∨ key = 2) (ihP : PDC m0 mr tp at_ key mX12_part0 f 0) (ihE : PDC m0 mr tp at_ key mX12_either f 8) : PDC m0 mr tp at_ key mX12_part0 (f + 1) 0 := by
  intro D hD mi p ok p2 pend hPM hT htd hB hp
  obtain ⟨D, rfl⟩ : ∃ E, D = E + 1 := ⟨D - 1, by omega⟩
  rw [pd_0] at hp
  have hk := hPM.2.2.2.1.2.2.1
  have hb96 := hT.1
  have he96 := hT.2.1
  by_cases h2 : Tok.k (PS.t p) = 2
  · rw [if_pos h2] at hp
    obtain ⟨rfl, rfl⟩ := Prod.mk.inj (Option.some.inj hp)
    refine CP.of (L := [_, _]) (by decide) rfl rfl (Nat.le_of_ble_eq_true rfl) ?_
    refine r_aload_n (μ := mX12_part0) (pc := 0) dX12_part0_0 rfl rfl rfl ?_
    refine r_getI (μ := mX12_part0) (pc := 1) dX12_part0_1 fpX12_229 rfl rfl (by decide) ?_
    rw [hk]
    refine r_iconst (μ := mX12_part0) (pc := 4) (v := 2) dX12_part0_4 ic_2 ?_
    refine r_icmp_ne (μ := mX12_part0) (pc := 5) (tgt := 33) dX12_part0_5 (by decide) (fun h_5 => absurd h2 h_5) (fun h_5 => ?_)
    refine r_aload_n (μ := mX12_part0) (pc := 8) dX12_part0_8 rfl rfl rfl ?_
    refine r_iconst (μ := mX12_part0) (pc := 9) (v := 0) dX12_part0_9 ic_0 ?_
    refine r_aload_n (μ := mX12_part0) (pc := 10) dX12_part0_10 rfl rfl rfl ?_
    refine r_getI (μ := mX12_part0) (pc := 11) dX12_part0_11 fpX12_244 rfl rfl (by decide) ?_
    rw [hPM.2.2.2.1.2.2.2.1 h2]
    refine vV2 (μ := mX12_part0) (pc := 14) (c0 := 12) (q0 := (RX12, TX12, 34)) (μ2 := mX12_step) dX12_part0_14 rfl rfl lkX12_266 imX12_step seX12_X12_step_X12_step mwX12_step (Nat.le_of_ble_eq_true rfl) (e_step hM hPM (by omega)) (fun mi_14 h_14 => ?_)
    refine r_aload_n (μ := mX12_part0) (pc := 17) dX12_part0_17 rfl rfl rfl ?_
    refine r_dup (μ := mX12_part0) (pc := 18) dX12_part0_18 rfl ?_
    refine r_getI (μ := mX12_part0) (pc := 19) dX12_part0_19 fpX12_281 rfl rfl (by decide) ?_
    rw [h_14.2.2.2.2.1.2.2.2]
    refine r_iconst (μ := mX12_part0) (pc := 22) (v := 1) dX12_part0_22 ic_1 ?_
    refine r_iadd (μ := mX12_part0) (pc := 23) dX12_part0_23 ?_
    refine r_putI (μ := mX12_part0) (pc := 24) dX12_part0_24 fwX12_281 rfl (by decide) rfl ?_
    refine r_aload_n (μ := mX12_part0) (pc := 27) dX12_part0_27 rfl rfl rfl ?_
    refine vV0 (μ := mX12_part0) (pc := 28) (c0 := 12) (q0 := (RX12, TX12, 34)) (μ2 := mX12_nextToken) dX12_part0_28 rfl rfl lkX12_263 imX12_nextToken seX12_X12_nextToken_X12_nextToken mwX12_nextToken (Nat.le_of_ble_eq_true rfl) (e_nextD (p := sdP (emP 0 (Tok.nu (PS.t p)) p)) (by omega) hM (h_14.s) h96 hT.2.1) (fun mi_28 h_28 => ?_)
    refine r_iconst (μ := mX12_part0) (pc := 31) (v := 1) dX12_part0_31 ic_1 ?_
    exact r_iret (μ := mX12_part0) (pc := 32) dX12_part0_32 rfl rfl (PX_i ⟨rfl, h_28, (nx_tok (T := m0 13) (p := sdP (emP 0 (Tok.nu (PS.t p)) p)) h96 hT).1, fun _ => by have hb9 : Tok.e (PS.t p) ≤ _ := (nx_tok (T := m0 13) (p := sdP (emP 0 (Tok.nu (PS.t p)) p)) h96 hT).2; have hlt : Tok.b (PS.t p) < Tok.e (PS.t p) := hT.2.2 (by rw [h2]; decide); show (PS.o p ++ [_]).length + pend ≤ _; rw [List.length_append]; show (PS.o p).length + 1 + pend ≤ _; omega⟩)
  · rw [if_neg h2] at hp
    by_cases h1 : Tok.k (PS.t p) = 1 ∧ ¬ Tok.le (PS.t p) = 0 ∧ nmB key (Tok.le (PS.t p)) = true
    · rw [if_pos h1] at hp
      obtain ⟨rfl, rfl⟩ := Prod.mk.inj (Option.some.inj hp)
      have hle := hPM.2.2.2.1.2.2.2.2 (Or.inl h1.1)
      refine CP.of (L := [_, _]) (by decide) rfl rfl (Nat.le_of_ble_eq_true rfl) ?_
      refine r_aload_n (μ := mX12_part0) (pc := 0) dX12_part0_0 rfl rfl rfl ?_
      refine r_getI (μ := mX12_part0) (pc := 1) dX12_part0_1 fpX12_229 rfl rfl (by decide) ?_
      rw [hk]
      refine r_iconst (μ := mX12_part0) (pc := 4) (v := 2) dX12_part0_4 ic_2 ?_
      refine r_icmp_ne (μ := mX12_part0) (pc := 5) (tgt := 33) dX12_part0_5 (by decide) (fun h_5 => ?_) (fun h_5 => absurd h_5 h2)
      refine r_aload_n (μ := mX12_part0) (pc := 33) dX12_part0_33 rfl rfl rfl ?_
      refine r_getI (μ := mX12_part0) (pc := 34) dX12_part0_34 fpX12_229 rfl rfl (by decide) ?_
      rw [hk]
      refine r_iconst (μ := mX12_part0) (pc := 37) (v := 1) dX12_part0_37 ic_1 ?_
      refine r_icmp_ne (μ := mX12_part0) (pc := 38) (tgt := 84) dX12_part0_38 (by decide) (fun h_38 => absurd h1.1 h_38) (fun h_38 => ?_)
      refine r_aload_n (μ := mX12_part0) (pc := 41) dX12_part0_41 rfl rfl rfl ?_
      refine r_getI (μ := mX12_part0) (pc := 42) dX12_part0_42 fpX12_238 rfl rfl (by decide) ?_
      rw [hle]
      refine r_if_eq (μ := mX12_part0) (pc := 45) (tgt := 84) dX12_part0_45 (by decide) (fun h_45 => absurd h_45 h1.2.1) (fun h_45 => ?_)
      refine r_iload_n (μ := mX12_part0) (pc := 48) dX12_part0_48 rfl rfl ?_
      refine r_aload_n (μ := mX12_part0) (pc := 49) dX12_part0_49 rfl rfl rfl ?_
      refine r_getI (μ := mX12_part0) (pc := 50) dX12_part0_50 fpX12_238 rfl rfl (by decide) ?_
      rw [hle]
      refine sP2 (μ := mX12_part0) (pc := 53) (μ2 := mX12_isName) dX12_part0_53 lkX12_284 stX12_isName mwX12_isName (Nat.le_of_ble_eq_true rfl) (c_isName hkey) ?_
      refine r_if_eq (μ := mX12_part0) (pc := 56) (tgt := 84) dX12_part0_56 (by decide) (fun h_56 => ?_) (fun h_56 => ?_)
      · have h_56 := b2i_0 h_56
        exact absurd (h_56.symm.trans h1.2.2) (by decide)
      · have h_56 := b2i_1 h_56
        refine r_aload_n (μ := mX12_part0) (pc := 59) dX12_part0_59 rfl rfl rfl ?_
        refine r_iconst (μ := mX12_part0) (pc := 60) (v := 1) dX12_part0_60 ic_1 ?_
        refine r_aload_n (μ := mX12_part0) (pc := 61) dX12_part0_61 rfl rfl rfl ?_
        refine r_getI (μ := mX12_part0) (pc := 62) dX12_part0_62 fpX12_238 rfl rfl (by decide) ?_
        rw [hle]
        refine vV2 (μ := mX12_part0) (pc := 65) (c0 := 12) (q0 := (RX12, TX12, 34)) (μ2 := mX12_step) dX12_part0_65 rfl rfl lkX12_266 imX12_step seX12_X12_step_X12_step mwX12_step (Nat.le_of_ble_eq_true rfl) (e_step hM hPM (by omega)) (fun mi_65 h_65 => ?_)
        refine r_aload_n (μ := mX12_part0) (pc := 68) dX12_part0_68 rfl rfl rfl ?_
        refine r_dup (μ := mX12_part0) (pc := 69) dX12_part0_69 rfl ?_
        refine r_getI (μ := mX12_part0) (pc := 70) dX12_part0_70 fpX12_281 rfl rfl (by decide) ?_
        rw [h_65.2.2.2.2.1.2.2.2]
        refine r_iconst (μ := mX12_part0) (pc := 73) (v := 1) dX12_part0_73 ic_1 ?_
        refine r_iadd (μ := mX12_part0) (pc := 74) dX12_part0_74 ?_
        refine r_putI (μ := mX12_part0) (pc := 75) dX12_part0_75 fwX12_281 rfl (by decide) rfl ?_
        refine r_aload_n (μ := mX12_part0) (pc := 78) dX12_part0_78 rfl rfl rfl ?_
        refine vV0 (μ := mX12_part0) (pc := 79) (c0 := 12) (q0 := (RX12, TX12, 34)) (μ2 := mX12_nextToken) dX12_part0_79 rfl rfl lkX12_263 imX12_nextToken seX12_X12_nextToken_X12_nextToken mwX12_nextToken (Nat.le_of_ble_eq_true rfl) (e_nextD (p := sdP (emP 1 (Tok.le (PS.t p)) p)) (by omega) hM (h_65.s) h96 hT.2.1) (fun mi_79 h_79 => ?_)
        refine r_iconst (μ := mX12_part0) (pc := 82) (v := 1) dX12_part0_82 ic_1 ?_
        exact r_iret (μ := mX12_part0) (pc := 83) dX12_part0_83 rfl rfl (PX_i ⟨rfl, h_79, (nx_tok (T := m0 13) (p := sdP (emP 1 (Tok.le (PS.t p)) p)) h96 hT).1, fun _ => by have hb9 : Tok.e (PS.t p) ≤ _ := (nx_tok (T := m0 13) (p := sdP (emP 1 (Tok.le (PS.t p)) p)) h96 hT).2; have hlt : Tok.b (PS.t p) < Tok.e (PS.t p) := hT.2.2 (by rw [h1.1]; decide); show (PS.o p ++ [_]).length + pend ≤ _; rw [List.length_append]; show (PS.o p).length + 1 + pend ≤ _; omega⟩)
    · rw [if_neg h1] at hp
      refine CP.of (L := [_, _]) (by decide) rfl rfl (Nat.le_of_ble_eq_true rfl) ?_
      refine r_aload_n (μ := mX12_part0) (pc := 0) dX12_part0_0 rfl rfl rfl ?_
      refine r_getI (μ := mX12_part0) (pc := 1) dX12_part0_1 fpX12_229 rfl rfl (by decide) ?_
      rw [hk]
      refine r_iconst (μ := mX12_part0) (pc := 4) (v := 2) dX12_part0_4 ic_2 ?_
      refine r_icmp_ne (μ := mX12_part0) (pc := 5) (tgt := 33) dX12_part0_5 (by decide) (fun h_5 => ?_) (fun h_5 => absurd h_5 h2)
      refine r_aload_n (μ := mX12_part0) (pc := 33) dX12_part0_33 rfl rfl rfl ?_
      refine r_getI (μ := mX12_part0) (pc := 34) dX12_part0_34 fpX12_229 rfl rfl (by decide) ?_
      rw [hk]
      refine r_iconst (μ := mX12_part0) (pc := 37) (v := 1) dX12_part0_37 ic_1 ?_
      refine r_icmp_ne (μ := mX12_part0) (pc := 38) (tgt := 84) dX12_part0_38 (by decide) (fun h_38 => ?_) (fun h_38 => ?_)
      · exact lp_p84 hM h96 hat ihP ihE (by omega) hPM hT htd hB hp (fun mi2 h => PX_i ⟨rfl, h⟩)
      · have hle := hPM.2.2.2.1.2.2.2.2 (Or.inl h_38)
        refine r_aload_n (μ := mX12_part0) (pc := 41) dX12_part0_41 rfl rfl rfl ?_
        refine r_getI (μ := mX12_part0) (pc := 42) dX12_part0_42 fpX12_238 rfl rfl (by decide) ?_
        rw [hle]
        refine r_if_eq (μ := mX12_part0) (pc := 45) (tgt := 84) dX12_part0_45 (by decide) (fun h_45 => ?_) (fun h_45 => ?_)
        · exact lp_p84 hM h96 hat ihP ihE (by omega) hPM hT htd hB hp (fun mi2 h => PX_i ⟨rfl, h⟩)
        · refine r_iload_n (μ := mX12_part0) (pc := 48) dX12_part0_48 rfl rfl ?_
          refine r_aload_n (μ := mX12_part0) (pc := 49) dX12_part0_49 rfl rfl rfl ?_
          refine r_getI (μ := mX12_part0) (pc := 50) dX12_part0_50 fpX12_238 rfl rfl (by decide) ?_
          rw [hle]
          refine sP2 (μ := mX12_part0) (pc := 53) (μ2 := mX12_isName) dX12_part0_53 lkX12_284 stX12_isName mwX12_isName (Nat.le_of_ble_eq_true rfl) (c_isName hkey) ?_
          refine r_if_eq (μ := mX12_part0) (pc := 56) (tgt := 84) dX12_part0_56 (by decide) (fun h_56 => ?_) (fun h_56 => ?_)
          · have h_56 := b2i_0 h_56
            exact lp_p84 hM h96 hat ihP ihE (by omega) hPM hT htd hB hp (fun mi2 h => PX_i ⟨rfl, h⟩)
          · have h_56 := b2i_1 h_56
            exact absurd ⟨h_38, h_45, h_56⟩ h1

