theorem k_towards {d : Nat} {sh : List Sh} {mi : MI} {mr : MR} (hF : SHC sh) (hB : CB mr) {m0 : MI} {tp ke : Nat} {key : Int32} {c : Nat} {sg out : List Int32} {ops : Nat} (h : RdS m0 mi tp ke key true c sg out ops) (h96 : tp ≤ 96) {t : Tok} {e : Nat} {k : Int32} (ht : nxT tp (mi 49) e k = t) (htb : Tok.b t = c) (he : e ≤ tp) (hk0 : ¬ Tok.k t = 0) (hke : ke ≤ e) (hpv : (k = 3 ∧ ke < e) ∨ (k = 1 ∧ e = ke ∧ 0 < ke ∧ ltB tp (mi 49) e = false)) {kt : Nat} (hkt : kt < 3) (hk : key = nI kt) (hlen : sg.length + out.length ≤ 95) : CP (d + 6) mX5_readTowardsOperand [.ref 48] sh mi mr 0 0 (PX sh mr (fun r mi2 => StP m0 mi2 tp ke key c (Tok.e t) r (stp key true t sg out ops))) := by
  obtain ⟨s1, s2, s3⟩ := tk_see ht h96 he
  obtain ⟨hc, sl, sd, sn⟩ := s3 hk0
  rw [htb] at hc sl sd sn s1
  have hec : e ≤ c := by rw [s1]; exact (rnE_le blB_lt he).1
  have g0 : ∀ e, glu e 3 = false := fun e => by unfold glu; simp
  have g1 : ∀ e, 0 < e → glu e 1 = true := fun e h => by unfold glu; simp [h]
  cases hd : dgB tp (mi 49) c with
  | true =>
    obtain ⟨x1, x2, x3⟩ := sd hd
    have hg : (glu e k = true ∧ e = c) ↔ c = ke := by
      rcases hpv with ⟨rfl, z⟩ | ⟨rfl, rfl, z, z2⟩
      · rw [g0]
        exact ⟨fun y => absurd y.1 (by decide), fun y => by omega⟩
      · rw [g1 _ z]
        exact ⟨fun y => y.2.symm, fun y => ⟨rfl, y.symm⟩⟩
    by_cases hb : c = ke ∨ 4 < Tok.e t - c
    · rw [if_pos (hb.imp hg.mpr id)] at x2
      have e1 : stp key true t sg out ops = none := by
        unfold stp
        rw [if_pos rfl, if_neg (by rw [x2]; decide), if_neg (by rw [x2]; exact fun z => absurd z.1 (by decide)), if_neg (by rw [x2]; exact fun z => absurd z.1 (by decide)), if_neg (by rw [x2]; exact fun z => absurd z.1 (by decide))]
      rw [e1]
      exact t_num_bad hF hB h h96 hc hd x1.symm (by omega) hb
    · rw [if_neg (fun z => hb (z.imp hg.mp id))] at x2
      have e1 : stp key true t sg out ops = some (false, (clS sg (out ++ [Tok.nu t])).1, (clS sg (out ++ [Tok.nu t])).2, ops + 1) := by
        unfold stp
        rw [if_pos rfl, if_pos x2]
      rw [e1, x3]
      exact t_num hF hB h h96 hc hd x1.symm (by omega) (fun z => hb (Or.inl z)) (by omega) hlen
  | false =>
    cases hl : ltB tp (mi 49) c with
    | true =>
      obtain ⟨x1, x2, x3⟩ := sl hl
      have hg : ¬ (glu e k = true ∧ e = c) := by
        rintro ⟨y1, y2⟩
        rcases hpv with ⟨rfl, z⟩ | ⟨rfl, rfl, z, z2⟩
        · rw [g0] at y1; cases y1
        · rw [y2, hl] at z2; cases z2
      rw [if_neg hg] at x2
      have n2 : ¬ Tok.k t = 2 := by rw [x2]; decide
      have n3 : ¬ Tok.k t = 3 := by rw [x2]; decide
      by_cases h1 : Tok.e t - c = 1
      · rw [if_pos h1] at x3
        have h0 : ¬ mi 49 c = 0 := fun z => by have := lt_in hl; rw [z] at this; exact absurd this (by decide)
        by_cases hn : nmB key (mi 49 c) = true
        · have e1 : stp key true t sg out ops = some (false, (clS sg (out ++ [nI (10000 + nmP key (Tok.le t))])).1, (clS sg (out ++ [nI (10000 + nmP key (Tok.le t))])).2, ops + 1) := by
            unfold stp
            rw [if_pos rfl, if_neg n2, if_pos ⟨x2, by rw [x3]; exact h0, by rw [x3]; exact hn⟩]
          rw [e1, x3, show Tok.e t = c + 1 by omega]
          exact t_name hF hB h h96 hc hl x1.symm hkt hk h1 hn hlen
        · have e1 : stp key true t sg out ops = none := by
            unfold stp
            rw [if_pos rfl, if_neg n2, if_neg (fun z => hn (by rw [← x3]; exact z.2.2)), if_neg (fun z => n3 z.1), if_neg (fun z => n3 z.1)]
          rw [e1]
          exact t_name_no hF hB h h96 hc hl x1.symm hkt hk h1 hn
      · rw [if_neg h1] at x3
        have e1 : stp key true t sg out ops = none := by
          unfold stp
          rw [if_pos rfl, if_neg n2, if_neg (fun z => z.2.1 x3), if_neg (fun z => n3 z.1), if_neg (fun z => n3 z.1)]
        rw [e1]
        exact t_name_long hF hB h h96 hc hl x1.symm h1
    | false =>
      obtain ⟨x1, x2, x3⟩ := sn hl hd
      have n2 : ¬ Tok.k t = 2 := by rw [x2]; decide
      have n1 : ¬ Tok.k t = 1 := by rw [x2]; decide
      by_cases h33 : mi 49 c = 33 ∧ cntL 33 sg < 8
      · have e1 : stp key true t sg out ops = some (true, 33 :: sg, out, ops) := by
          unfold stp
          rw [if_pos rfl, if_neg n2, if_neg (fun z => n1 z.1), if_pos ⟨x2, by rw [x3]; exact h33.1, h33.2⟩]
        rw [e1, x1]
        exact t_not hF hB h h96 hc hd hl h33.1 h33.2 hlen
      · by_cases h40 : mi 49 c = 40 ∧ cntL 40 sg < 8
        · have e1 : stp key true t sg out ops = some (true, 40 :: sg, out, ops) := by
            unfold stp
            rw [if_pos rfl, if_neg n2, if_neg (fun z => n1 z.1), if_neg (fun z => h33 ⟨by rw [← x3]; exact z.2.1, z.2.2⟩), if_pos ⟨x2, by rw [x3]; exact h40.1, h40.2⟩]
          rw [e1, x1]
          exact t_brk hF hB h h96 hc hd hl h40.1 h40.2 hlen
        · have e1 : stp key true t sg out ops = none := by
            unfold stp
            rw [if_pos rfl, if_neg n2, if_neg (fun z => n1 z.1), if_neg (fun z => h33 ⟨by rw [← x3]; exact z.2.1, z.2.2⟩), if_neg (fun z => h40 ⟨by rw [← x3]; exact z.2.1, z.2.2⟩)]
          rw [e1]
          exact t_bad hF hB h h96 hc hd hl h33 h40 hlen

theorem b_cl_no {d : Nat} {sh : List Sh} {mi : MI} {mr : MR} (hF : SHC sh) (hB : CB mr) {m0 : MI} {tp ke : Nat} {key : Int32} {c : Nat} {sg out : List Int32} {ops : Nat} (h : RdS m0 mi tp ke key false c sg out ops) (hc : c < 96) (hlen : sg.length + out.length ≤ 95) (hx : mi 49 c = 41) (h0 : cntL 40 sg = 0) {x : Nat} : CP (d + 3) mX5_readBehindOperand [.ref 48] sh mi mr 0 0 (PX sh mr (fun r mi2 => StP m0 mi2 tp ke key c x r (none))) := by
  have hR := h
  obtain ⟨hA, ⟨e1, e2, e3, e4, e5, e6⟩, ⟨e8, e9, e11, e12, e13⟩, hL, hS⟩ := h
  refine CP.of (L := [_, _, _]) (by decide) rfl rfl (Nat.le_of_ble_eq_true rfl) ?_
  refine r_aload_n (μ := mX5_readBehindOperand) (pc := 0) dX5_readBehindOperand_0 rfl rfl rfl ?_
  refine r_getR (μ := mX5_readBehindOperand) (pc := 1) dX5_readBehindOperand_1 fpX5_9 rfl (hF _ _ rfl) (by decide) (hB _ _ _ rfl) ?_
  refine r_aload_n (μ := mX5_readBehindOperand) (pc := 4) dX5_readBehindOperand_4 rfl rfl rfl ?_
  refine r_getI (μ := mX5_readBehindOperand) (pc := 5) dX5_readBehindOperand_5 fpX5_19 rfl (hF _ _ rfl) (by decide) ?_
  rw [e2]
  refine r_iaload (μ := mX5_readBehindOperand) (pc := 8) (j := c) dX5_readBehindOperand_8 (hF _ _ rfl) rfl (by omega) (by decide) ?_
  refine s_istore_n (μ := mX5_readBehindOperand) (pc := 9) (L2 := [_, _, _]) dX5_readBehindOperand_9 rfl (Nat.le_of_ble_eq_true rfl) (Nat.le_of_ble_eq_true rfl) rfl rfl ?_
  refine r_iload_n (μ := mX5_readBehindOperand) (pc := 10) dX5_readBehindOperand_10 rfl rfl ?_
  refine r_bipush (μ := mX5_readBehindOperand) (pc := 11) (v := 41) dX5_readBehindOperand_11 bp_41 ?_
  refine r_icmp_ne (μ := mX5_readBehindOperand) (pc := 13) (tgt := 21) dX5_readBehindOperand_13 (by decide) (fun h_13 => absurd hx h_13) (fun h_13 => ?_)
  refine r_aload_n (μ := mX5_readBehindOperand) (pc := 16) dX5_readBehindOperand_16 rfl rfl rfl ?_
  refine vX0 (μ := mX5_readBehindOperand) (pc := 17) (c0 := 5) (q0 := (RX5, TX5, 14)) (μ2 := mX5_readClosing) dX5_readBehindOperand_17 (hF _ _ rfl) rfl lkX5_155 imX5_readClosing seX5_X5_readClosing_X5_readClosing mwX5_readClosing (Nat.le_of_ble_eq_true rfl) (k_closing_no hF hB hR h0) (fun r_17 mi_17 h_17 => ?_)
  obtain ⟨rfl, rfl⟩ := h_17
  exact r_iret (μ := mX5_readBehindOperand) (pc := 20) dX5_readBehindOperand_20 rfl rfl (PX_i ⟨rfl, hR.fl⟩)

theorem b_cl {d : Nat} {sh : List Sh} {mi : MI} {mr : MR} (hF : SHC sh) (hB : CB mr) {m0 : MI} {tp ke : Nat} {key : Int32} {c : Nat} {sg out : List Int32} {ops : Nat} (h : RdS m0 mi tp ke key false c sg out ops) (hc : c < 96) (hlen : sg.length + out.length ≤ 95) (hx : mi 49 c = 41) (h0 : ¬ cntL 40 sg = 0) {l : List Int32} (hl : (po 1 sg out).1 = 40 :: l) : CP (d + 3) mX5_readBehindOperand [.ref 48] sh mi mr 0 0 (PX sh mr (fun r mi2 => StP m0 mi2 tp ke key c (c + 1) r (some (false, (clS l (po 1 sg out).2).1, (clS l (po 1 sg out).2).2, ops)))) := by
  have hR := h
  obtain ⟨hA, ⟨e1, e2, e3, e4, e5, e6⟩, ⟨e8, e9, e11, e12, e13⟩, hL, hS⟩ := h
  refine CP.of (L := [_, _, _]) (by decide) rfl rfl (Nat.le_of_ble_eq_true rfl) ?_
  refine r_aload_n (μ := mX5_readBehindOperand) (pc := 0) dX5_readBehindOperand_0 rfl rfl rfl ?_
  refine r_getR (μ := mX5_readBehindOperand) (pc := 1) dX5_readBehindOperand_1 fpX5_9 rfl (hF _ _ rfl) (by decide) (hB _ _ _ rfl) ?_
  refine r_aload_n (μ := mX5_readBehindOperand) (pc := 4) dX5_readBehindOperand_4 rfl rfl rfl ?_
  refine r_getI (μ := mX5_readBehindOperand) (pc := 5) dX5_readBehindOperand_5 fpX5_19 rfl (hF _ _ rfl) (by decide) ?_
  rw [e2]
  refine r_iaload (μ := mX5_readBehindOperand) (pc := 8) (j := c) dX5_readBehindOperand_8 (hF _ _ rfl) rfl (by omega) (by decide) ?_
  refine s_istore_n (μ := mX5_readBehindOperand) (pc := 9) (L2 := [_, _, _]) dX5_readBehindOperand_9 rfl (Nat.le_of_ble_eq_true rfl) (Nat.le_of_ble_eq_true rfl) rfl rfl ?_
  refine r_iload_n (μ := mX5_readBehindOperand) (pc := 10) dX5_readBehindOperand_10 rfl rfl ?_
  refine r_bipush (μ := mX5_readBehindOperand) (pc := 11) (v := 41) dX5_readBehindOperand_11 bp_41 ?_
  refine r_icmp_ne (μ := mX5_readBehindOperand) (pc := 13) (tgt := 21) dX5_readBehindOperand_13 (by decide) (fun h_13 => absurd hx h_13) (fun h_13 => ?_)
  refine r_aload_n (μ := mX5_readBehindOperand) (pc := 16) dX5_readBehindOperand_16 rfl rfl rfl ?_
  refine vX0 (μ := mX5_readBehindOperand) (pc := 17) (c0 := 5) (q0 := (RX5, TX5, 14)) (μ2 := mX5_readClosing) dX5_readBehindOperand_17 (hF _ _ rfl) rfl lkX5_155 imX5_readClosing seX5_X5_readClosing_X5_readClosing mwX5_readClosing (Nat.le_of_ble_eq_true rfl) (k_closing hF hB hR h0 hl (by omega)) (fun r_17 mi_17 h_17 => ?_)
  obtain ⟨rfl, h17⟩ := h_17
  exact r_iret (μ := mX5_readBehindOperand) (pc := 20) dX5_readBehindOperand_20 rfl rfl (PX_i ⟨rfl, h17⟩)

theorem b_none {d : Nat} {sh : List Sh} {mi : MI} {mr : MR} (hF : SHC sh) (hB : CB mr) {m0 : MI} {tp ke : Nat} {key : Int32} {c : Nat} {sg out : List Int32} {ops : Nat} (h : RdS m0 mi tp ke key false c sg out ops) (hc : c < 96) (hlen : sg.length + out.length ≤ 95) (hx : ¬ mi 49 c = 41) (h0 : rkS (mi 49 c) = 0) {x : Nat} : CP (d + 3) mX5_readBehindOperand [.ref 48] sh mi mr 0 0 (PX sh mr (fun r mi2 => StP m0 mi2 tp ke key c x r (none))) := by
  have hR := h
  obtain ⟨hA, ⟨e1, e2, e3, e4, e5, e6⟩, ⟨e8, e9, e11, e12, e13⟩, hL, hS⟩ := h
  refine CP.of (L := [_, _, _]) (by decide) rfl rfl (Nat.le_of_ble_eq_true rfl) ?_
  refine r_aload_n (μ := mX5_readBehindOperand) (pc := 0) dX5_readBehindOperand_0 rfl rfl rfl ?_
  refine r_getR (μ := mX5_readBehindOperand) (pc := 1) dX5_readBehindOperand_1 fpX5_9 rfl (hF _ _ rfl) (by decide) (hB _ _ _ rfl) ?_
  refine r_aload_n (μ := mX5_readBehindOperand) (pc := 4) dX5_readBehindOperand_4 rfl rfl rfl ?_
  refine r_getI (μ := mX5_readBehindOperand) (pc := 5) dX5_readBehindOperand_5 fpX5_19 rfl (hF _ _ rfl) (by decide) ?_
  rw [e2]
  refine r_iaload (μ := mX5_readBehindOperand) (pc := 8) (j := c) dX5_readBehindOperand_8 (hF _ _ rfl) rfl (by omega) (by decide) ?_
  refine s_istore_n (μ := mX5_readBehindOperand) (pc := 9) (L2 := [_, _, _]) dX5_readBehindOperand_9 rfl (Nat.le_of_ble_eq_true rfl) (Nat.le_of_ble_eq_true rfl) rfl rfl ?_
  refine r_iload_n (μ := mX5_readBehindOperand) (pc := 10) dX5_readBehindOperand_10 rfl rfl ?_
  refine r_bipush (μ := mX5_readBehindOperand) (pc := 11) (v := 41) dX5_readBehindOperand_11 bp_41 ?_
  refine r_icmp_ne (μ := mX5_readBehindOperand) (pc := 13) (tgt := 21) dX5_readBehindOperand_13 (by decide) (fun h_13 => ?_) (fun h_13 => absurd h_13 hx)
  refine r_iload_n (μ := mX5_readBehindOperand) (pc := 21) dX5_readBehindOperand_21 rfl rfl ?_
  refine sP1 (μ := mX5_readBehindOperand) (pc := 22) (μ2 := mX5_rankOf) dX5_readBehindOperand_22 lkX5_158 stX5_rankOf mwX5_rankOf (Nat.le_of_ble_eq_true rfl) k_rankOf ?_
  refine s_istore_n (μ := mX5_readBehindOperand) (pc := 25) (L2 := [_, _, _]) dX5_readBehindOperand_25 rfl (Nat.le_of_ble_eq_true rfl) (Nat.le_of_ble_eq_true rfl) rfl rfl ?_
  refine r_iload_n (μ := mX5_readBehindOperand) (pc := 26) dX5_readBehindOperand_26 rfl rfl ?_
  refine r_if_ne (μ := mX5_readBehindOperand) (pc := 27) (tgt := 32) dX5_readBehindOperand_27 (by decide) (fun h_27 => absurd (by rw [h0]; rfl) h_27) (fun h_27 => ?_)
  refine r_iconst (μ := mX5_readBehindOperand) (pc := 30) (v := 0) dX5_readBehindOperand_30 ic_0 ?_
  exact r_iret (μ := mX5_readBehindOperand) (pc := 31) dX5_readBehindOperand_31 rfl rfl (PX_i ⟨rfl, hR.fl⟩)

theorem b_cmp {d : Nat} {sh : List Sh} {mi : MI} {mr : MR} (hF : SHC sh) (hB : CB mr) {m0 : MI} {tp ke : Nat} {key : Int32} {c : Nat} {sg out : List Int32} {ops : Nat} (h : RdS m0 mi tp ke key false c sg out ops) (hc : c < 96) (hlen : sg.length + out.length ≤ 95) (hx : ¬ mi 49 c = 41) (h3 : rkS (mi 49 c) = 3) (hp : rkS ((po 4 sg out).1.headD 0) = 3) {x : Nat} : CP (d + 3) mX5_readBehindOperand [.ref 48] sh mi mr 0 0 (PX sh mr (fun r mi2 => StP m0 mi2 tp ke key c x r (none))) := by
  have hR := h
  obtain ⟨hA, ⟨e1, e2, e3, e4, e5, e6⟩, ⟨e8, e9, e11, e12, e13⟩, hL, hS⟩ := h
  refine CP.of (L := [_, _, _]) (by decide) rfl rfl (Nat.le_of_ble_eq_true rfl) ?_
  refine r_aload_n (μ := mX5_readBehindOperand) (pc := 0) dX5_readBehindOperand_0 rfl rfl rfl ?_
  refine r_getR (μ := mX5_readBehindOperand) (pc := 1) dX5_readBehindOperand_1 fpX5_9 rfl (hF _ _ rfl) (by decide) (hB _ _ _ rfl) ?_
  refine r_aload_n (μ := mX5_readBehindOperand) (pc := 4) dX5_readBehindOperand_4 rfl rfl rfl ?_
  refine r_getI (μ := mX5_readBehindOperand) (pc := 5) dX5_readBehindOperand_5 fpX5_19 rfl (hF _ _ rfl) (by decide) ?_
  rw [e2]
  refine r_iaload (μ := mX5_readBehindOperand) (pc := 8) (j := c) dX5_readBehindOperand_8 (hF _ _ rfl) rfl (by omega) (by decide) ?_
  refine s_istore_n (μ := mX5_readBehindOperand) (pc := 9) (L2 := [_, _, _]) dX5_readBehindOperand_9 rfl (Nat.le_of_ble_eq_true rfl) (Nat.le_of_ble_eq_true rfl) rfl rfl ?_
  refine r_iload_n (μ := mX5_readBehindOperand) (pc := 10) dX5_readBehindOperand_10 rfl rfl ?_
  refine r_bipush (μ := mX5_readBehindOperand) (pc := 11) (v := 41) dX5_readBehindOperand_11 bp_41 ?_
  refine r_icmp_ne (μ := mX5_readBehindOperand) (pc := 13) (tgt := 21) dX5_readBehindOperand_13 (by decide) (fun h_13 => ?_) (fun h_13 => absurd h_13 hx)
  refine r_iload_n (μ := mX5_readBehindOperand) (pc := 21) dX5_readBehindOperand_21 rfl rfl ?_
  refine sP1 (μ := mX5_readBehindOperand) (pc := 22) (μ2 := mX5_rankOf) dX5_readBehindOperand_22 lkX5_158 stX5_rankOf mwX5_rankOf (Nat.le_of_ble_eq_true rfl) k_rankOf ?_
  refine s_istore_n (μ := mX5_readBehindOperand) (pc := 25) (L2 := [_, _, _]) dX5_readBehindOperand_25 rfl (Nat.le_of_ble_eq_true rfl) (Nat.le_of_ble_eq_true rfl) rfl rfl ?_
  refine r_iload_n (μ := mX5_readBehindOperand) (pc := 26) dX5_readBehindOperand_26 rfl rfl ?_
  refine r_if_ne (μ := mX5_readBehindOperand) (pc := 27) (tgt := 32) dX5_readBehindOperand_27 (by decide) (fun h_27 => ?_) (fun h_27 => absurd h_27 (by rw [h3]; decide))
  refine r_aload_n (μ := mX5_readBehindOperand) (pc := 32) dX5_readBehindOperand_32 rfl rfl rfl ?_
  refine r_iload_n (μ := mX5_readBehindOperand) (pc := 33) dX5_readBehindOperand_33 rfl rfl ?_
  refine r_iconst (μ := mX5_readBehindOperand) (pc := 34) (v := 3) dX5_readBehindOperand_34 ic_3 ?_
  refine r_icmp_ne (μ := mX5_readBehindOperand) (pc := 35) (tgt := 44) dX5_readBehindOperand_35 (by decide) (fun h_35 => absurd (by rw [h3]; rfl) h_35) (fun h_35 => ?_)
  refine r_iload_n (μ := mX5_readBehindOperand) (pc := 38) dX5_readBehindOperand_38 rfl rfl ?_
  refine r_iconst (μ := mX5_readBehindOperand) (pc := 39) (v := 1) dX5_readBehindOperand_39 ic_1 ?_
  refine r_iadd (μ := mX5_readBehindOperand) (pc := 40) dX5_readBehindOperand_40 ?_
  rw [show nI (rkS (mi 49 c)) + 1 = nI 4 from by rw [h3]; rfl]
  refine r_goto (μ := mX5_readBehindOperand) (pc := 41) (tgt := 45) dX5_readBehindOperand_41 (by decide) ?_
  refine vV1 (μ := mX5_readBehindOperand) (pc := 45) (c0 := 5) (q0 := (RX5, TX5, 14)) (μ2 := mX5_putOutSigns) dX5_readBehindOperand_45 (hF _ _ rfl) rfl lkX5_123 imX5_putOutSigns seX5_X5_putOutSigns_X5_putOutSigns mwX5_putOutSigns (Nat.le_of_ble_eq_true rfl) (k_putOutSigns hF hB hR (th := 4) (by omega) (by omega) (by omega)) (fun mi_45 h_45 => ?_)
  have hR2 := h_45
  obtain ⟨hA, ⟨e1, e2, e3, e4, e5, e6⟩, ⟨e8, e9, e11, e12, e13⟩, hL, hS⟩ := h_45
  have hpl := po_len (4) sg out
  refine r_iload_n (μ := mX5_readBehindOperand) (pc := 48) dX5_readBehindOperand_48 rfl rfl ?_
  refine r_iconst (μ := mX5_readBehindOperand) (pc := 49) (v := 3) dX5_readBehindOperand_49 ic_3 ?_
  refine r_icmp_ne (μ := mX5_readBehindOperand) (pc := 50) (tgt := 66) dX5_readBehindOperand_50 (by decide) (fun h_50 => absurd (by rw [h3]; rfl) h_50) (fun h_50 => ?_)
  refine r_aload_n (μ := mX5_readBehindOperand) (pc := 53) dX5_readBehindOperand_53 rfl rfl rfl ?_
  refine vP0 (μ := mX5_readBehindOperand) (pc := 54) (c0 := 5) (q0 := (RX5, TX5, 14)) (μ2 := mX5_topSign) dX5_readBehindOperand_54 (hF _ _ rfl) rfl lkX5_152 imX5_topSign seX5_X5_topSign_X5_topSign mwX5_topSign (Nat.le_of_ble_eq_true rfl) (k_topSign hF hB e11 (by omega) hS) ?_
  refine sP1 (μ := mX5_readBehindOperand) (pc := 57) (μ2 := mX5_rankOf) dX5_readBehindOperand_57 lkX5_158 stX5_rankOf mwX5_rankOf (Nat.le_of_ble_eq_true rfl) k_rankOf ?_
  refine r_iconst (μ := mX5_readBehindOperand) (pc := 60) (v := 3) dX5_readBehindOperand_60 ic_3 ?_
  refine r_icmp_ne (μ := mX5_readBehindOperand) (pc := 61) (tgt := 66) dX5_readBehindOperand_61 (by decide) (fun h_61 => absurd (by rw [hp]; rfl) h_61) (fun h_61 => ?_)
  refine r_iconst (μ := mX5_readBehindOperand) (pc := 64) (v := 0) dX5_readBehindOperand_64 ic_0 ?_
  exact r_iret (μ := mX5_readBehindOperand) (pc := 65) dX5_readBehindOperand_65 rfl rfl (PX_i ⟨rfl, hR2.fl⟩)

theorem b_psh3 {d : Nat} {sh : List Sh} {mi : MI} {mr : MR} (hF : SHC sh) (hB : CB mr) {m0 : MI} {tp ke : Nat} {key : Int32} {c : Nat} {sg out : List Int32} {ops : Nat} (h : RdS m0 mi tp ke key false c sg out ops) (hc : c < 96) (hlen : sg.length + out.length ≤ 95) (hx : ¬ mi 49 c = 41) (h3 : rkS (mi 49 c) = 3) (hp : ¬ rkS ((po 4 sg out).1.headD 0) = 3) : CP (d + 3) mX5_readBehindOperand [.ref 48] sh mi mr 0 0 (PX sh mr (fun r mi2 => StP m0 mi2 tp ke key c (c + 1) r (some (true, mi 49 c :: (po 4 sg out).1, (po 4 sg out).2, ops)))) := by
  have hR := h
  obtain ⟨hA, ⟨e1, e2, e3, e4, e5, e6⟩, ⟨e8, e9, e11, e12, e13⟩, hL, hS⟩ := h
  have h9 := rk_33 (c := mi 49 c) (by omega)
  have hp40 : cntL 40 (po (4) sg out).1 = cntL 40 (mi 49 c :: (po (4) sg out).1) := by show _ = cntL 40 _ + _; rw [if_neg h9.2.1]; rfl
  have hp33 : cntL 33 (po (4) sg out).1 = cntL 33 (mi 49 c :: (po (4) sg out).1) := by show _ = cntL 33 _ + _; rw [if_neg h9.1]; rfl
  refine CP.of (L := [_, _, _]) (by decide) rfl rfl (Nat.le_of_ble_eq_true rfl) ?_
  refine r_aload_n (μ := mX5_readBehindOperand) (pc := 0) dX5_readBehindOperand_0 rfl rfl rfl ?_
  refine r_getR (μ := mX5_readBehindOperand) (pc := 1) dX5_readBehindOperand_1 fpX5_9 rfl (hF _ _ rfl) (by decide) (hB _ _ _ rfl) ?_
  refine r_aload_n (μ := mX5_readBehindOperand) (pc := 4) dX5_readBehindOperand_4 rfl rfl rfl ?_
  refine r_getI (μ := mX5_readBehindOperand) (pc := 5) dX5_readBehindOperand_5 fpX5_19 rfl (hF _ _ rfl) (by decide) ?_
  rw [e2]
  refine r_iaload (μ := mX5_readBehindOperand) (pc := 8) (j := c) dX5_readBehindOperand_8 (hF _ _ rfl) rfl (by omega) (by decide) ?_
  refine s_istore_n (μ := mX5_readBehindOperand) (pc := 9) (L2 := [_, _, _]) dX5_readBehindOperand_9 rfl (Nat.le_of_ble_eq_true rfl) (Nat.le_of_ble_eq_true rfl) rfl rfl ?_
  refine r_iload_n (μ := mX5_readBehindOperand) (pc := 10) dX5_readBehindOperand_10 rfl rfl ?_
  refine r_bipush (μ := mX5_readBehindOperand) (pc := 11) (v := 41) dX5_readBehindOperand_11 bp_41 ?_
  refine r_icmp_ne (μ := mX5_readBehindOperand) (pc := 13) (tgt := 21) dX5_readBehindOperand_13 (by decide) (fun h_13 => ?_) (fun h_13 => absurd h_13 hx)
  refine r_iload_n (μ := mX5_readBehindOperand) (pc := 21) dX5_readBehindOperand_21 rfl rfl ?_
  refine sP1 (μ := mX5_readBehindOperand) (pc := 22) (μ2 := mX5_rankOf) dX5_readBehindOperand_22 lkX5_158 stX5_rankOf mwX5_rankOf (Nat.le_of_ble_eq_true rfl) k_rankOf ?_
  refine s_istore_n (μ := mX5_readBehindOperand) (pc := 25) (L2 := [_, _, _]) dX5_readBehindOperand_25 rfl (Nat.le_of_ble_eq_true rfl) (Nat.le_of_ble_eq_true rfl) rfl rfl ?_
  refine r_iload_n (μ := mX5_readBehindOperand) (pc := 26) dX5_readBehindOperand_26 rfl rfl ?_
  refine r_if_ne (μ := mX5_readBehindOperand) (pc := 27) (tgt := 32) dX5_readBehindOperand_27 (by decide) (fun h_27 => ?_) (fun h_27 => absurd h_27 (by rw [h3]; decide))
  refine r_aload_n (μ := mX5_readBehindOperand) (pc := 32) dX5_readBehindOperand_32 rfl rfl rfl ?_
  refine r_iload_n (μ := mX5_readBehindOperand) (pc := 33) dX5_readBehindOperand_33 rfl rfl ?_
  refine r_iconst (μ := mX5_readBehindOperand) (pc := 34) (v := 3) dX5_readBehindOperand_34 ic_3 ?_
  refine r_icmp_ne (μ := mX5_readBehindOperand) (pc := 35) (tgt := 44) dX5_readBehindOperand_35 (by decide) (fun h_35 => absurd (by rw [h3]; rfl) h_35) (fun h_35 => ?_)
  refine r_iload_n (μ := mX5_readBehindOperand) (pc := 38) dX5_readBehindOperand_38 rfl rfl ?_
  refine r_iconst (μ := mX5_readBehindOperand) (pc := 39) (v := 1) dX5_readBehindOperand_39 ic_1 ?_
  refine r_iadd (μ := mX5_readBehindOperand) (pc := 40) dX5_readBehindOperand_40 ?_
  rw [show nI (rkS (mi 49 c)) + 1 = nI 4 from by rw [h3]; rfl]
  refine r_goto (μ := mX5_readBehindOperand) (pc := 41) (tgt := 45) dX5_readBehindOperand_41 (by decide) ?_
  refine vV1 (μ := mX5_readBehindOperand) (pc := 45) (c0 := 5) (q0 := (RX5, TX5, 14)) (μ2 := mX5_putOutSigns) dX5_readBehindOperand_45 (hF _ _ rfl) rfl lkX5_123 imX5_putOutSigns seX5_X5_putOutSigns_X5_putOutSigns mwX5_putOutSigns (Nat.le_of_ble_eq_true rfl) (k_putOutSigns hF hB hR (th := 4) (by omega) (by omega) (by omega)) (fun mi_45 h_45 => ?_)
  have hR2 := h_45
  obtain ⟨hA, ⟨e1, e2, e3, e4, e5, e6⟩, ⟨e8, e9, e11, e12, e13⟩, hL, hS⟩ := h_45
  have hpl := po_len (4) sg out
  refine r_iload_n (μ := mX5_readBehindOperand) (pc := 48) dX5_readBehindOperand_48 rfl rfl ?_
  refine r_iconst (μ := mX5_readBehindOperand) (pc := 49) (v := 3) dX5_readBehindOperand_49 ic_3 ?_
  refine r_icmp_ne (μ := mX5_readBehindOperand) (pc := 50) (tgt := 66) dX5_readBehindOperand_50 (by decide) (fun h_50 => absurd (by rw [h3]; rfl) h_50) (fun h_50 => ?_)
  refine r_aload_n (μ := mX5_readBehindOperand) (pc := 53) dX5_readBehindOperand_53 rfl rfl rfl ?_
  refine vP0 (μ := mX5_readBehindOperand) (pc := 54) (c0 := 5) (q0 := (RX5, TX5, 14)) (μ2 := mX5_topSign) dX5_readBehindOperand_54 (hF _ _ rfl) rfl lkX5_152 imX5_topSign seX5_X5_topSign_X5_topSign mwX5_topSign (Nat.le_of_ble_eq_true rfl) (k_topSign hF hB e11 (by omega) hS) ?_
  refine sP1 (μ := mX5_readBehindOperand) (pc := 57) (μ2 := mX5_rankOf) dX5_readBehindOperand_57 lkX5_158 stX5_rankOf mwX5_rankOf (Nat.le_of_ble_eq_true rfl) k_rankOf ?_
  refine r_iconst (μ := mX5_readBehindOperand) (pc := 60) (v := 3) dX5_readBehindOperand_60 ic_3 ?_
  refine r_icmp_ne (μ := mX5_readBehindOperand) (pc := 61) (tgt := 66) dX5_readBehindOperand_61 (by decide) (fun h_61 => ?_) (fun h_61 => absurd h_61 (fun z => hp ((nI_eq (b := 3) (by have := rkS_le ((po 4 sg out).1.headD 0); omega) (by decide)).mp z)))
  refine r_aload_n (μ := mX5_readBehindOperand) (pc := 66) dX5_readBehindOperand_66 rfl rfl rfl ?_
  refine r_iload_n (μ := mX5_readBehindOperand) (pc := 67) dX5_readBehindOperand_67 rfl rfl ?_
  refine vV1 (μ := mX5_readBehindOperand) (pc := 68) (c0 := 5) (q0 := (RX5, TX5, 14)) (μ2 := mX5_pushSign) dX5_readBehindOperand_68 (hF _ _ rfl) rfl lkX5_133 imX5_pushSign seX5_X5_pushSign_X5_pushSign mwX5_pushSign (Nat.le_of_ble_eq_true rfl) (k_pushSign hF hB e11 (by omega) e2) (fun mi_68 h_68 => ?_)
  subst h_68
  refine r_aload_n (μ := mX5_readBehindOperand) (pc := 71) dX5_readBehindOperand_71 rfl rfl rfl ?_
  refine r_iconst (μ := mX5_readBehindOperand) (pc := 72) (v := 1) dX5_readBehindOperand_72 ic_1 ?_
  refine r_putZ (μ := mX5_readBehindOperand) (pc := 73) dX5_readBehindOperand_73 fwX5_31 (hF _ _ rfl) (by decide) rfl rfl rfl ?_
  refine r_iconst (μ := mX5_readBehindOperand) (pc := 76) (v := 1) dX5_readBehindOperand_76 ic_1 ?_
  exact r_iret (μ := mX5_readBehindOperand) (pc := 77) dX5_readBehindOperand_77 rfl rfl (PX_i ⟨rfl, (hR2.psh (a := cntL 40 (po (4) sg out).1) (b := cntL 33 (po (4) sg out).1) (mi 49 c) true hp40 hp33 (fun a x y => by simp [upI_ne x, upI_ne y]) (by simp [u5148, upI_row]) (by rintro j (rfl | rfl | rfl | rfl | rfl | rfl) <;> simp [upF, u4850, u4851, u5048, u5148, u5150]) (by simp [upF, u4850, u4851, u5048, u5148, u5150, *]) (by simp [upF, u4850, u4851, u5048, u5148, u5150, *]; rfl) (by simp [upF, u4850, u4851, u5048, u5148, u5150, *]) (by simp [upF, u4850, u4851, u5048, u5148, u5150, *]) (by simp [upF, u4850, u4851, u5048, u5148, u5150, *]))⟩)

theorem b_psh {d : Nat} {sh : List Sh} {mi : MI} {mr : MR} (hF : SHC sh) (hB : CB mr) {m0 : MI} {tp ke : Nat} {key : Int32} {c : Nat} {sg out : List Int32} {ops : Nat} (h : RdS m0 mi tp ke key false c sg out ops) (hc : c < 96) (hlen : sg.length + out.length ≤ 95) (hx : ¬ mi 49 c = 41) (h1 : 1 ≤ rkS (mi 49 c)) (h3 : ¬ rkS (mi 49 c) = 3) : CP (d + 3) mX5_readBehindOperand [.ref 48] sh mi mr 0 0 (PX sh mr (fun r mi2 => StP m0 mi2 tp ke key c (c + 1) r (some (true, mi 49 c :: (po (rkS (mi 49 c)) sg out).1, (po (rkS (mi 49 c)) sg out).2, ops)))) := by
  have hR := h
  obtain ⟨hA, ⟨e1, e2, e3, e4, e5, e6⟩, ⟨e8, e9, e11, e12, e13⟩, hL, hS⟩ := h
  have h9 := rk_33 (c := mi 49 c) (by omega)
  have hp40 : cntL 40 (po (rkS (mi 49 c)) sg out).1 = cntL 40 (mi 49 c :: (po (rkS (mi 49 c)) sg out).1) := by show _ = cntL 40 _ + _; rw [if_neg h9.2.1]; rfl
  have hp33 : cntL 33 (po (rkS (mi 49 c)) sg out).1 = cntL 33 (mi 49 c :: (po (rkS (mi 49 c)) sg out).1) := by show _ = cntL 33 _ + _; rw [if_neg h9.1]; rfl
  have h5 := rkS_le (mi 49 c)
  have n3 : ¬ nI (rkS (mi 49 c)) = 3 := fun z => h3 ((nI_eq (b := 3) (by omega) (by decide)).mp z)
  refine CP.of (L := [_, _, _]) (by decide) rfl rfl (Nat.le_of_ble_eq_true rfl) ?_
  refine r_aload_n (μ := mX5_readBehindOperand) (pc := 0) dX5_readBehindOperand_0 rfl rfl rfl ?_
  refine r_getR (μ := mX5_readBehindOperand) (pc := 1) dX5_readBehindOperand_1 fpX5_9 rfl (hF _ _ rfl) (by decide) (hB _ _ _ rfl) ?_
  refine r_aload_n (μ := mX5_readBehindOperand) (pc := 4) dX5_readBehindOperand_4 rfl rfl rfl ?_
  refine r_getI (μ := mX5_readBehindOperand) (pc := 5) dX5_readBehindOperand_5 fpX5_19 rfl (hF _ _ rfl) (by decide) ?_
  rw [e2]
  refine r_iaload (μ := mX5_readBehindOperand) (pc := 8) (j := c) dX5_readBehindOperand_8 (hF _ _ rfl) rfl (by omega) (by decide) ?_
  refine s_istore_n (μ := mX5_readBehindOperand) (pc := 9) (L2 := [_, _, _]) dX5_readBehindOperand_9 rfl (Nat.le_of_ble_eq_true rfl) (Nat.le_of_ble_eq_true rfl) rfl rfl ?_
  refine r_iload_n (μ := mX5_readBehindOperand) (pc := 10) dX5_readBehindOperand_10 rfl rfl ?_
  refine r_bipush (μ := mX5_readBehindOperand) (pc := 11) (v := 41) dX5_readBehindOperand_11 bp_41 ?_
  refine r_icmp_ne (μ := mX5_readBehindOperand) (pc := 13) (tgt := 21) dX5_readBehindOperand_13 (by decide) (fun h_13 => ?_) (fun h_13 => absurd h_13 hx)
  refine r_iload_n (μ := mX5_readBehindOperand) (pc := 21) dX5_readBehindOperand_21 rfl rfl ?_
  refine sP1 (μ := mX5_readBehindOperand) (pc := 22) (μ2 := mX5_rankOf) dX5_readBehindOperand_22 lkX5_158 stX5_rankOf mwX5_rankOf (Nat.le_of_ble_eq_true rfl) k_rankOf ?_
  refine s_istore_n (μ := mX5_readBehindOperand) (pc := 25) (L2 := [_, _, _]) dX5_readBehindOperand_25 rfl (Nat.le_of_ble_eq_true rfl) (Nat.le_of_ble_eq_true rfl) rfl rfl ?_
  refine r_iload_n (μ := mX5_readBehindOperand) (pc := 26) dX5_readBehindOperand_26 rfl rfl ?_
  refine r_if_ne (μ := mX5_readBehindOperand) (pc := 27) (tgt := 32) dX5_readBehindOperand_27 (by decide) (fun h_27 => ?_) (fun h_27 => absurd h_27 (nI_ne0 (by omega) (by omega)))
  refine r_aload_n (μ := mX5_readBehindOperand) (pc := 32) dX5_readBehindOperand_32 rfl rfl rfl ?_
  refine r_iload_n (μ := mX5_readBehindOperand) (pc := 33) dX5_readBehindOperand_33 rfl rfl ?_
  refine r_iconst (μ := mX5_readBehindOperand) (pc := 34) (v := 3) dX5_readBehindOperand_34 ic_3 ?_
  refine r_icmp_ne (μ := mX5_readBehindOperand) (pc := 35) (tgt := 44) dX5_readBehindOperand_35 (by decide) (fun h_35 => ?_) (fun h_35 => absurd h_35 n3)
  refine r_iload_n (μ := mX5_readBehindOperand) (pc := 44) dX5_readBehindOperand_44 rfl rfl ?_
  refine vV1 (μ := mX5_readBehindOperand) (pc := 45) (c0 := 5) (q0 := (RX5, TX5, 14)) (μ2 := mX5_putOutSigns) dX5_readBehindOperand_45 (hF _ _ rfl) rfl lkX5_123 imX5_putOutSigns seX5_X5_putOutSigns_X5_putOutSigns mwX5_putOutSigns (Nat.le_of_ble_eq_true rfl) (k_putOutSigns hF hB hR (th := rkS (mi 49 c)) (by omega) (by omega) (by omega)) (fun mi_45 h_45 => ?_)
  have hR2 := h_45
  obtain ⟨hA, ⟨e1, e2, e3, e4, e5, e6⟩, ⟨e8, e9, e11, e12, e13⟩, hL, hS⟩ := h_45
  have hpl := po_len (rkS (mi 49 c)) sg out
  refine r_iload_n (μ := mX5_readBehindOperand) (pc := 48) dX5_readBehindOperand_48 rfl rfl ?_
  refine r_iconst (μ := mX5_readBehindOperand) (pc := 49) (v := 3) dX5_readBehindOperand_49 ic_3 ?_
  refine r_icmp_ne (μ := mX5_readBehindOperand) (pc := 50) (tgt := 66) dX5_readBehindOperand_50 (by decide) (fun h_50 => ?_) (fun h_50 => absurd h_50 n3)
  refine r_aload_n (μ := mX5_readBehindOperand) (pc := 66) dX5_readBehindOperand_66 rfl rfl rfl ?_
  refine r_iload_n (μ := mX5_readBehindOperand) (pc := 67) dX5_readBehindOperand_67 rfl rfl ?_
  refine vV1 (μ := mX5_readBehindOperand) (pc := 68) (c0 := 5) (q0 := (RX5, TX5, 14)) (μ2 := mX5_pushSign) dX5_readBehindOperand_68 (hF _ _ rfl) rfl lkX5_133 imX5_pushSign seX5_X5_pushSign_X5_pushSign mwX5_pushSign (Nat.le_of_ble_eq_true rfl) (k_pushSign hF hB e11 (by omega) e2) (fun mi_68 h_68 => ?_)
  subst h_68
  refine r_aload_n (μ := mX5_readBehindOperand) (pc := 71) dX5_readBehindOperand_71 rfl rfl rfl ?_
  refine r_iconst (μ := mX5_readBehindOperand) (pc := 72) (v := 1) dX5_readBehindOperand_72 ic_1 ?_
  refine r_putZ (μ := mX5_readBehindOperand) (pc := 73) dX5_readBehindOperand_73 fwX5_31 (hF _ _ rfl) (by decide) rfl rfl rfl ?_
  refine r_iconst (μ := mX5_readBehindOperand) (pc := 76) (v := 1) dX5_readBehindOperand_76 ic_1 ?_
  exact r_iret (μ := mX5_readBehindOperand) (pc := 77) dX5_readBehindOperand_77 rfl rfl (PX_i ⟨rfl, (hR2.psh (a := cntL 40 (po (rkS (mi 49 c)) sg out).1) (b := cntL 33 (po (rkS (mi 49 c)) sg out).1) (mi 49 c) true hp40 hp33 (fun a x y => by simp [upI_ne x, upI_ne y]) (by simp [u5148, upI_row]) (by rintro j (rfl | rfl | rfl | rfl | rfl | rfl) <;> simp [upF, u4850, u4851, u5048, u5148, u5150]) (by simp [upF, u4850, u4851, u5048, u5148, u5150, *]) (by simp [upF, u4850, u4851, u5048, u5148, u5150, *]; rfl) (by simp [upF, u4850, u4851, u5048, u5148, u5150, *]) (by simp [upF, u4850, u4851, u5048, u5148, u5150, *]) (by simp [upF, u4850, u4851, u5048, u5148, u5150, *]))⟩)

theorem sg_41 {x : Int32} (h : inB x 48 57 = true ∨ inB x 97 122 = true) : ¬ x = 41 ∧ rkS x = 0 := by
  have n : ∀ v : Int32, inB v 48 57 = false → inB v 97 122 = false → ¬ x = v := fun v a b z => by
    subst z
    rcases h with z | z
    · rw [z] at a; cases a
    · rw [z] at b; cases b
  refine ⟨n 41 (by decide) (by decide), ?_⟩
  unfold rkS
  rw [if_neg (n 124 (by decide) (by decide)), if_neg (n 38 (by decide) (by decide)), if_neg (by rintro (z | z | z); (· exact n 60 (by decide) (by decide) z); (· exact n 61 (by decide) (by decide) z); (· exact n 62 (by decide) (by decide) z)), if_neg (by rintro (z | z); (· exact n 43 (by decide) (by decide) z); (· exact n 45 (by decide) (by decide) z)), if_neg (by rintro (z | z); (· exact n 42 (by decide) (by decide) z); (· exact n 47 (by decide) (by decide) z))]
theorem k_behind {d : Nat} {sh : List Sh} {mi : MI} {mr : MR} (hF : SHC sh) (hB : CB mr) {m0 : MI} {tp ke : Nat} {key : Int32} {c : Nat} {sg out : List Int32} {ops : Nat} (h : RdS m0 mi tp ke key false c sg out ops) (h96 : tp ≤ 96) {t : Tok} {e : Nat} {k : Int32} (ht : nxT tp (mi 49) e k = t) (htb : Tok.b t = c) (he : e ≤ tp) (hk0 : ¬ Tok.k t = 0) (hke : ke ≤ e) (hw : WfS sg) (hhd : ¬ sg.headD 0 = 33) (hlen : sg.length + out.length ≤ 95) : CP (d + 3) mX5_readBehindOperand [.ref 48] sh mi mr 0 0 (PX sh mr (fun r mi2 => StP m0 mi2 tp ke key c (Tok.e t) r (stp key false t sg out ops))) := by
  obtain ⟨s1, s2, s3⟩ := tk_see ht h96 he
  obtain ⟨hc, sl, sd, sn⟩ := s3 hk0
  rw [htb] at hc sl sd sn s1
  have hlow : ¬ Tok.k t = 3 → (¬ mi 49 c = 41 ∧ rkS (mi 49 c) = 0) → CP (d + 3) mX5_readBehindOperand [.ref 48] sh mi mr 0 0 (PX sh mr (fun r mi2 => StP m0 mi2 tp ke key c (Tok.e t) r (stp key false t sg out ops))) := by
    intro n3 hx
    have e1 : stp key false t sg out ops = none := by
      unfold stp
      rw [if_neg (by decide), if_neg (fun z => n3 z.1), if_neg (fun z => n3 z.1)]
    rw [e1]
    exact b_none hF hB h (by omega) hlen hx.1 hx.2
  cases hd : dgB tp (mi 49) c with
  | true =>
    refine hlow ?_ (sg_41 (Or.inl ?_))
    · rw [(sd hd).2.1]; split <;> decide
    · unfold dgB at hd; simp only [Bool.and_eq_true] at hd; exact hd.2
  | false =>
    cases hl : ltB tp (mi 49) c with
    | true =>
      refine hlow ?_ (sg_41 (Or.inr (lt_in hl)))
      rw [(sl hl).2.1]; split <;> decide
    | false =>
      obtain ⟨x1, x2, x3⟩ := sn hl hd
      by_cases h41 : mi 49 c = 41
      · by_cases h0 : cntL 40 sg = 0
        · have e1 : stp key false t sg out ops = none := by
            unfold stp
            rw [if_neg (by decide), if_pos ⟨x2, by rw [x3]; exact h41⟩, if_pos h0]
          rw [e1]
          exact b_cl_no hF hB h (by omega) hlen h41 h0
        · obtain ⟨l, hl2, hwl⟩ := po_40 (out := out) hw hhd h0
          have e1 : stp key false t sg out ops = some (false, (clS l (po 1 sg out).2).1, (clS l (po 1 sg out).2).2, ops) := by
            unfold stp
            rw [if_neg (by decide), if_pos ⟨x2, by rw [x3]; exact h41⟩, if_neg h0, hl2]
            rfl
          rw [e1, x1]
          exact b_cl hF hB h (by omega) hlen h41 h0 hl2
      · by_cases hr0 : rkS (mi 49 c) = 0
        · have e1 : stp key false t sg out ops = none := by
            unfold stp
            rw [if_neg (by decide), if_neg (fun z => h41 (by rw [← x3]; exact z.2)), if_neg (fun z => by rw [x3, hr0] at z; exact absurd z.2 (by decide))]
          rw [e1]
          exact b_none hF hB h (by omega) hlen h41 hr0
        · by_cases h3 : rkS (mi 49 c) = 3
          · by_cases hp : rkS ((po 4 sg out).1.headD 0) = 3
            · have e1 : stp key false t sg out ops = none := by
                unfold stp
                rw [if_neg (by decide), if_neg (fun z => h41 (by rw [← x3]; exact z.2)), x3, h3, if_pos ⟨x2, by decide⟩, if_pos ⟨rfl, hp⟩]
              rw [e1]
              exact b_cmp hF hB h (by omega) hlen h41 h3 hp
            · have e1 : stp key false t sg out ops = some (true, mi 49 c :: (po 4 sg out).1, (po 4 sg out).2, ops) := by
                unfold stp
                rw [if_neg (by decide), if_neg (fun z => h41 (by rw [← x3]; exact z.2)), x3, h3, if_pos ⟨x2, by decide⟩, if_neg (fun z => hp z.2)]
                rfl
              rw [e1, x1]
              exact b_psh3 hF hB h (by omega) hlen h41 h3 hp
          · have e1 : stp key false t sg out ops = some (true, mi 49 c :: (po (rkS (mi 49 c)) sg out).1, (po (rkS (mi 49 c)) sg out).2, ops) := by
              unfold stp
              rw [if_neg (by decide), if_neg (fun z => h41 (by rw [← x3]; exact z.2)), x3, if_pos ⟨x2, by omega⟩, if_neg (fun z => h3 z.1), show thS (rkS (mi 49 c)) = rkS (mi 49 c) from if_neg h3]
            rw [e1, x1]
            exact b_psh hF hB h (by omega) hlen h41 (by omega) h3

