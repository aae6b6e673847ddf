def LwP (m0 mi2 : MI) (tp ke : Nat) (key : Int32) (r : Int32) : RRes → Prop
  | .inl c => r = 0 ∧ RFl m0 mi2 c
  | .inr x => r = 1 ∧ (∃ c sg, RdS m0 mi2 tp ke key false c sg x.1 x.2) ∧ x.1.length ≤ 92

theorem lp_law {d : Nat} {sh : List Sh} {mr : MR} (hF : SHC sh) (hB : CB mr) {Q : QT} {m0 : MI} {tp ke : Nat} {key : Int32} (h96 : tp ≤ 96) {kt : Nat} (hkt : kt < 3) (hk : key = nI kt) {res : RRes} (hq : ∀ r mi2, LwP m0 mi2 tp ke key r res → Q (some (.int r)) sh mi2 mr) : ∀ (g : Nat) (due : Bool) (t : Tok) (sg out : List Int32) (ops : Nat) (mi : MI) (w e : Nat) (k : Int32), ru tp (m0 49) key g due t sg out ops = some res → RdS m0 mi tp ke key due (Tok.b t) sg out ops → nxT tp (m0 49) e k = t → e ≤ tp → ke ≤ e → (due = true → (k = 3 ∧ ke < e) ∨ (k = 1 ∧ e = ke ∧ 0 < ke ∧ ltB tp (m0 49) e = false)) → WfS sg → (due = false → ¬ sg.headD 0 = 33) → sg.length + out.length + 4 ≤ e → w + 4 ≤ Tok.b t → WP (d + 7) mX5_readLaw 6 [.ref 48, .int (nI w)] [] sh mi mr 0 0 Q := by
  intro g
  induction g with
  | zero => intro due t sg out ops mi w e k h; cases h
  | succ g ih =>
    intro due t sg out ops mi w e k hru h htk he hke hpv hw hhd hlen hwb
    have h49 : mi 49 = m0 49 := h.1 49 (by decide) (by decide) (by decide)
    obtain ⟨s1, s2, s3⟩ := tk_see htk h96 he
    have htok := nxT_ok (T := m0 49) (k := k) h96 he
    rw [htk] at htok
    have hR := h
    obtain ⟨hA, ⟨e1, e2, e3, e4, e5, e6⟩, ⟨e8, e9, e11, e12, e13⟩, hL, hS⟩ := h
    by_cases hk0 : Tok.k t = 0
    · have hbt := s2 hk0
      simp only [ru] at hru
      rw [if_pos hk0] at hru
      cases due with
      | true =>
        rw [if_pos (Or.inl rfl)] at hru
        obtain rfl := Option.some.inj hru
        refine r_iload_n (μ := mX5_readLaw) (pc := 6) dX5_readLaw_6 rfl rfl ?_
        refine r_bipush (μ := mX5_readLaw) (pc := 7) (v := 96) dX5_readLaw_7 bp_96 ?_
        refine r_icmp_ge (μ := mX5_readLaw) (pc := 9) (tgt := 59) dX5_readLaw_9 (by decide) (fun h_9 => absurd h_9 (nI_ge (b := 96) (by omega) (by decide))) (fun h_9 => ?_)
        refine r_aload_n (μ := mX5_readLaw) (pc := 12) dX5_readLaw_12 rfl rfl rfl ?_
        refine r_getI (μ := mX5_readLaw) (pc := 13) dX5_readLaw_13 fpX5_19 rfl (hF _ _ rfl) (by decide) ?_
        refine r_aload_n (μ := mX5_readLaw) (pc := 16) dX5_readLaw_16 rfl rfl rfl ?_
        refine r_getI (μ := mX5_readLaw) (pc := 17) dX5_readLaw_17 fpX5_22 rfl (hF _ _ rfl) (by decide) ?_
        refine r_icmp_ge (μ := mX5_readLaw) (pc := 20) (tgt := 59) dX5_readLaw_20 (by decide) (fun h_20 => ?_) (fun h_20 => absurd (by rw [e2, e3, hbt]; exact nI_le (Nat.le_refl _) (by omega)) h_20)
        refine r_aload_n (μ := mX5_readLaw) (pc := 59) dX5_readLaw_59 rfl rfl rfl ?_
        refine r_getI (μ := mX5_readLaw) (pc := 60) dX5_readLaw_60 fpX5_31 rfl (hF _ _ rfl) (by decide) ?_
        refine r_if_ne (μ := mX5_readLaw) (pc := 63) (tgt := 73) dX5_readLaw_63 (by decide) (fun h_63 => ?_) (fun h_63 => absurd h_63 (by rw [e6]; decide))
        refine r_iconst (μ := mX5_readLaw) (pc := 73) (v := 0) dX5_readLaw_73 ic_0 ?_
        exact r_iret (μ := mX5_readLaw) (pc := 74) dX5_readLaw_74 rfl rfl (hq _ _ ⟨rfl, hR.fl⟩)
      | false =>
        have hcl := cnt_len 40 sg
        have hpl := po_len 1 sg out
        by_cases hcn : 0 < cntL 40 sg
        · rw [if_pos (Or.inr hcn)] at hru
          obtain rfl := Option.some.inj hru
          refine r_iload_n (μ := mX5_readLaw) (pc := 6) dX5_readLaw_6 rfl rfl ?_
          refine r_bipush (μ := mX5_readLaw) (pc := 7) (v := 96) dX5_readLaw_7 bp_96 ?_
          refine r_icmp_ge (μ := mX5_readLaw) (pc := 9) (tgt := 59) dX5_readLaw_9 (by decide) (fun h_9 => absurd h_9 (nI_ge (b := 96) (by omega) (by decide))) (fun h_9 => ?_)
          refine r_aload_n (μ := mX5_readLaw) (pc := 12) dX5_readLaw_12 rfl rfl rfl ?_
          refine r_getI (μ := mX5_readLaw) (pc := 13) dX5_readLaw_13 fpX5_19 rfl (hF _ _ rfl) (by decide) ?_
          refine r_aload_n (μ := mX5_readLaw) (pc := 16) dX5_readLaw_16 rfl rfl rfl ?_
          refine r_getI (μ := mX5_readLaw) (pc := 17) dX5_readLaw_17 fpX5_22 rfl (hF _ _ rfl) (by decide) ?_
          refine r_icmp_ge (μ := mX5_readLaw) (pc := 20) (tgt := 59) dX5_readLaw_20 (by decide) (fun h_20 => ?_) (fun h_20 => absurd (by rw [e2, e3, hbt]; exact nI_le (Nat.le_refl _) (by omega)) h_20)
          refine r_aload_n (μ := mX5_readLaw) (pc := 59) dX5_readLaw_59 rfl rfl rfl ?_
          refine r_getI (μ := mX5_readLaw) (pc := 60) dX5_readLaw_60 fpX5_31 rfl (hF _ _ rfl) (by decide) ?_
          refine r_if_ne (μ := mX5_readLaw) (pc := 63) (tgt := 73) dX5_readLaw_63 (by decide) (fun h_63 => absurd (by rw [e6]; rfl) h_63) (fun h_63 => ?_)
          refine r_aload_n (μ := mX5_readLaw) (pc := 66) dX5_readLaw_66 rfl rfl rfl ?_
          refine r_getI (μ := mX5_readLaw) (pc := 67) dX5_readLaw_67 fpX5_50 rfl (hF _ _ rfl) (by decide) ?_
          refine r_if_le (μ := mX5_readLaw) (pc := 70) (tgt := 75) dX5_readLaw_70 (by decide) (fun h_70 => absurd h_70 (by rw [e12]; exact nI_ge (a := 0) hcn (by omega))) (fun h_70 => ?_)
          refine r_iconst (μ := mX5_readLaw) (pc := 73) (v := 0) dX5_readLaw_73 ic_0 ?_
          exact r_iret (μ := mX5_readLaw) (pc := 74) dX5_readLaw_74 rfl rfl (hq _ _ ⟨rfl, hR.fl⟩)
        · rw [if_neg (fun z => z.elim (fun y => by cases y) hcn)] at hru
          obtain rfl := Option.some.inj hru
          have hcz : cntL 40 sg = 0 := by omega
          refine r_iload_n (μ := mX5_readLaw) (pc := 6) dX5_readLaw_6 rfl rfl ?_
          refine r_bipush (μ := mX5_readLaw) (pc := 7) (v := 96) dX5_readLaw_7 bp_96 ?_
          refine r_icmp_ge (μ := mX5_readLaw) (pc := 9) (tgt := 59) dX5_readLaw_9 (by decide) (fun h_9 => absurd h_9 (nI_ge (b := 96) (by omega) (by decide))) (fun h_9 => ?_)
          refine r_aload_n (μ := mX5_readLaw) (pc := 12) dX5_readLaw_12 rfl rfl rfl ?_
          refine r_getI (μ := mX5_readLaw) (pc := 13) dX5_readLaw_13 fpX5_19 rfl (hF _ _ rfl) (by decide) ?_
          refine r_aload_n (μ := mX5_readLaw) (pc := 16) dX5_readLaw_16 rfl rfl rfl ?_
          refine r_getI (μ := mX5_readLaw) (pc := 17) dX5_readLaw_17 fpX5_22 rfl (hF _ _ rfl) (by decide) ?_
          refine r_icmp_ge (μ := mX5_readLaw) (pc := 20) (tgt := 59) dX5_readLaw_20 (by decide) (fun h_20 => ?_) (fun h_20 => absurd (by rw [e2, e3, hbt]; exact nI_le (Nat.le_refl _) (by omega)) h_20)
          refine r_aload_n (μ := mX5_readLaw) (pc := 59) dX5_readLaw_59 rfl rfl rfl ?_
          refine r_getI (μ := mX5_readLaw) (pc := 60) dX5_readLaw_60 fpX5_31 rfl (hF _ _ rfl) (by decide) ?_
          refine r_if_ne (μ := mX5_readLaw) (pc := 63) (tgt := 73) dX5_readLaw_63 (by decide) (fun h_63 => absurd (by rw [e6]; rfl) h_63) (fun h_63 => ?_)
          refine r_aload_n (μ := mX5_readLaw) (pc := 66) dX5_readLaw_66 rfl rfl rfl ?_
          refine r_getI (μ := mX5_readLaw) (pc := 67) dX5_readLaw_67 fpX5_50 rfl (hF _ _ rfl) (by decide) ?_
          refine r_if_le (μ := mX5_readLaw) (pc := 70) (tgt := 75) dX5_readLaw_70 (by decide) (fun h_70 => ?_) (fun h_70 => absurd (by rw [e12, hcz]; decide) h_70)
          refine r_aload_n (μ := mX5_readLaw) (pc := 75) dX5_readLaw_75 rfl rfl rfl ?_
          refine r_iconst (μ := mX5_readLaw) (pc := 76) (v := 1) dX5_readLaw_76 ic_1 ?_
          refine vV1 (μ := mX5_readLaw) (pc := 77) (c0 := 5) (q0 := (RX5, TX5, 14)) (μ2 := mX5_putOutSigns) dX5_readLaw_77 (hF _ _ rfl) rfl lkX5_123 imX5_putOutSigns seX5_X5_putOutSigns_X5_putOutSigns mwX5_putOutSigns (Nat.le_of_ble_eq_true rfl) (k_putOutSigns hF hB hR (th := 1) (by decide) (by decide) (by omega)) (fun mi_77 h_77 => ?_)
          refine r_iconst (μ := mX5_readLaw) (pc := 80) (v := 1) dX5_readLaw_80 ic_1 ?_
          exact r_iret (μ := mX5_readLaw) (pc := 81) dX5_readLaw_81 rfl rfl (hq _ _ ⟨rfl, ⟨_, _, h_77⟩, by show List.length (po 1 sg out).2 ≤ 92; omega⟩)
    · have hbt := (s3 hk0).1
      have hbe := htok.1.2.2 hk0
      have hte := htok.1.2.1
      have hb2 := (tk_see (tp := tp) (T := m0 49) (e := Tok.e t) (k := Tok.k t) rfl h96 hte).1
      have hb3 := (nxT_ok (T := m0 49) (k := Tok.k t) h96 hte).2
      have hec := htok.2
      rw [ru_s hk0] at hru
      cases hst : stp key due t sg out ops with
      | none =>
        rw [hst] at hru
        obtain rfl := Option.some.inj hru
        cases due with
        | true =>
          refine r_iload_n (μ := mX5_readLaw) (pc := 6) dX5_readLaw_6 rfl rfl ?_
          refine r_bipush (μ := mX5_readLaw) (pc := 7) (v := 96) dX5_readLaw_7 bp_96 ?_
          refine r_icmp_ge (μ := mX5_readLaw) (pc := 9) (tgt := 59) dX5_readLaw_9 (by decide) (fun h_9 => absurd h_9 (nI_ge (b := 96) (by omega) (by decide))) (fun h_9 => ?_)
          refine r_aload_n (μ := mX5_readLaw) (pc := 12) dX5_readLaw_12 rfl rfl rfl ?_
          refine r_getI (μ := mX5_readLaw) (pc := 13) dX5_readLaw_13 fpX5_19 rfl (hF _ _ rfl) (by decide) ?_
          refine r_aload_n (μ := mX5_readLaw) (pc := 16) dX5_readLaw_16 rfl rfl rfl ?_
          refine r_getI (μ := mX5_readLaw) (pc := 17) dX5_readLaw_17 fpX5_22 rfl (hF _ _ rfl) (by decide) ?_
          refine r_icmp_ge (μ := mX5_readLaw) (pc := 20) (tgt := 59) dX5_readLaw_20 (by decide) (fun h_20 => absurd h_20 (by rw [e2, e3]; exact nI_ge hbt (by omega))) (fun h_20 => ?_)
          refine r_aload_n (μ := mX5_readLaw) (pc := 23) dX5_readLaw_23 rfl rfl rfl ?_
          refine r_getI (μ := mX5_readLaw) (pc := 24) dX5_readLaw_24 fpX5_31 rfl (hF _ _ rfl) (by decide) ?_
          refine r_if_eq (μ := mX5_readLaw) (pc := 27) (tgt := 40) dX5_readLaw_27 (by decide) (fun h_27 => absurd h_27 (by rw [e6]; decide)) (fun h_27 => ?_)
          refine r_aload_n (μ := mX5_readLaw) (pc := 30) dX5_readLaw_30 rfl rfl rfl ?_
          refine vX0 (μ := mX5_readLaw) (pc := 31) (c0 := 5) (q0 := (RX5, TX5, 14)) (μ2 := mX5_readTowardsOperand) dX5_readLaw_31 (hF _ _ rfl) rfl lkX5_117 imX5_readTowardsOperand seX5_X5_readTowardsOperand_X5_readTowardsOperand mwX5_readTowardsOperand (Nat.le_of_ble_eq_true rfl) (k_towards (d := d) hF hB hR h96 (by rw [h49]; exact htk) rfl he hk0 hke (by rw [h49]; exact hpv rfl) hkt hk (by omega)) (fun r_31 mi_31 h_31 => ?_)
          rw [hst] at h_31
          obtain ⟨rfl, h9⟩ := h_31
          refine r_if_eq (μ := mX5_readLaw) (pc := 34) (tgt := 47) dX5_readLaw_34 (by decide) (fun h_34 => ?_) (fun h_34 => absurd rfl h_34)
          refine r_iconst (μ := mX5_readLaw) (pc := 47) (v := 0) dX5_readLaw_47 ic_0 ?_
          exact r_iret (μ := mX5_readLaw) (pc := 48) dX5_readLaw_48 rfl rfl (hq _ _ ⟨rfl, h9⟩)
        | false =>
          refine r_iload_n (μ := mX5_readLaw) (pc := 6) dX5_readLaw_6 rfl rfl ?_
          refine r_bipush (μ := mX5_readLaw) (pc := 7) (v := 96) dX5_readLaw_7 bp_96 ?_
          refine r_icmp_ge (μ := mX5_readLaw) (pc := 9) (tgt := 59) dX5_readLaw_9 (by decide) (fun h_9 => absurd h_9 (nI_ge (b := 96) (by omega) (by decide))) (fun h_9 => ?_)
          refine r_aload_n (μ := mX5_readLaw) (pc := 12) dX5_readLaw_12 rfl rfl rfl ?_
          refine r_getI (μ := mX5_readLaw) (pc := 13) dX5_readLaw_13 fpX5_19 rfl (hF _ _ rfl) (by decide) ?_
          refine r_aload_n (μ := mX5_readLaw) (pc := 16) dX5_readLaw_16 rfl rfl rfl ?_
          refine r_getI (μ := mX5_readLaw) (pc := 17) dX5_readLaw_17 fpX5_22 rfl (hF _ _ rfl) (by decide) ?_
          refine r_icmp_ge (μ := mX5_readLaw) (pc := 20) (tgt := 59) dX5_readLaw_20 (by decide) (fun h_20 => absurd h_20 (by rw [e2, e3]; exact nI_ge hbt (by omega))) (fun h_20 => ?_)
          refine r_aload_n (μ := mX5_readLaw) (pc := 23) dX5_readLaw_23 rfl rfl rfl ?_
          refine r_getI (μ := mX5_readLaw) (pc := 24) dX5_readLaw_24 fpX5_31 rfl (hF _ _ rfl) (by decide) ?_
          refine r_if_eq (μ := mX5_readLaw) (pc := 27) (tgt := 40) dX5_readLaw_27 (by decide) (fun h_27 => ?_) (fun h_27 => absurd (by rw [e6]; rfl) h_27)
          refine r_aload_n (μ := mX5_readLaw) (pc := 40) dX5_readLaw_40 rfl rfl rfl ?_
          refine vX0 (μ := mX5_readLaw) (pc := 41) (c0 := 5) (q0 := (RX5, TX5, 14)) (μ2 := mX5_readBehindOperand) dX5_readLaw_41 (hF _ _ rfl) rfl lkX5_120 imX5_readBehindOperand seX5_X5_readBehindOperand_X5_readBehindOperand mwX5_readBehindOperand (Nat.le_of_ble_eq_true rfl) (k_behind (d := d + 3) hF hB hR h96 (by rw [h49]; exact htk) rfl he hk0 hke hw (hhd rfl) (by omega)) (fun r_41 mi_41 h_41 => ?_)
          rw [hst] at h_41
          obtain ⟨rfl, h9⟩ := h_41
          refine r_if_ne (μ := mX5_readLaw) (pc := 44) (tgt := 49) dX5_readLaw_44 (by decide) (fun h_44 => absurd rfl h_44) (fun h_44 => ?_)
          refine r_iconst (μ := mX5_readLaw) (pc := 47) (v := 0) dX5_readLaw_47 ic_0 ?_
          exact r_iret (μ := mX5_readLaw) (pc := 48) dX5_readLaw_48 rfl rfl (hq _ _ ⟨rfl, h9⟩)
      | some x =>
        rw [hst] at hru
        have hkeep := stp_wf hw hhd hst
        cases due with
        | true =>
          refine r_iload_n (μ := mX5_readLaw) (pc := 6) dX5_readLaw_6 rfl rfl ?_
          refine r_bipush (μ := mX5_readLaw) (pc := 7) (v := 96) dX5_readLaw_7 bp_96 ?_
          refine r_icmp_ge (μ := mX5_readLaw) (pc := 9) (tgt := 59) dX5_readLaw_9 (by decide) (fun h_9 => absurd h_9 (nI_ge (b := 96) (by omega) (by decide))) (fun h_9 => ?_)
          refine r_aload_n (μ := mX5_readLaw) (pc := 12) dX5_readLaw_12 rfl rfl rfl ?_
          refine r_getI (μ := mX5_readLaw) (pc := 13) dX5_readLaw_13 fpX5_19 rfl (hF _ _ rfl) (by decide) ?_
          refine r_aload_n (μ := mX5_readLaw) (pc := 16) dX5_readLaw_16 rfl rfl rfl ?_
          refine r_getI (μ := mX5_readLaw) (pc := 17) dX5_readLaw_17 fpX5_22 rfl (hF _ _ rfl) (by decide) ?_
          refine r_icmp_ge (μ := mX5_readLaw) (pc := 20) (tgt := 59) dX5_readLaw_20 (by decide) (fun h_20 => absurd h_20 (by rw [e2, e3]; exact nI_ge hbt (by omega))) (fun h_20 => ?_)
          refine r_aload_n (μ := mX5_readLaw) (pc := 23) dX5_readLaw_23 rfl rfl rfl ?_
          refine r_getI (μ := mX5_readLaw) (pc := 24) dX5_readLaw_24 fpX5_31 rfl (hF _ _ rfl) (by decide) ?_
          refine r_if_eq (μ := mX5_readLaw) (pc := 27) (tgt := 40) dX5_readLaw_27 (by decide) (fun h_27 => absurd h_27 (by rw [e6]; decide)) (fun h_27 => ?_)
          refine r_aload_n (μ := mX5_readLaw) (pc := 30) dX5_readLaw_30 rfl rfl rfl ?_
          refine vX0 (μ := mX5_readLaw) (pc := 31) (c0 := 5) (q0 := (RX5, TX5, 14)) (μ2 := mX5_readTowardsOperand) dX5_readLaw_31 (hF _ _ rfl) rfl lkX5_117 imX5_readTowardsOperand seX5_X5_readTowardsOperand_X5_readTowardsOperand mwX5_readTowardsOperand (Nat.le_of_ble_eq_true rfl) (k_towards (d := d) hF hB hR h96 (by rw [h49]; exact htk) rfl he hk0 hke (by rw [h49]; exact hpv rfl) hkt hk (by omega)) (fun r_31 mi_31 h_31 => ?_)
          rw [hst] at h_31
          obtain ⟨rfl, h9⟩ := h_31
          refine r_if_eq (μ := mX5_readLaw) (pc := 34) (tgt := 47) dX5_readLaw_34 (by decide) (fun h_34 => absurd h_34 (by decide)) (fun h_34 => ?_)
          refine r_goto (μ := mX5_readLaw) (pc := 37) (tgt := 49) dX5_readLaw_37 (by decide) ?_
          refine r_aload_n (μ := mX5_readLaw) (pc := 49) dX5_readLaw_49 rfl rfl rfl ?_
          refine vV0 (μ := mX5_readLaw) (pc := 50) (c0 := 5) (q0 := (RX5, TX5, 14)) (μ2 := mX5_skipBlanks) dX5_readLaw_50 (hF _ _ rfl) rfl lkX5_103 imX5_skipBlanks seX5_X5_skipBlanks_X5_skipBlanks mwX5_skipBlanks (Nat.le_of_ble_eq_true rfl) (k_skip hF hB h9.2.1.2.2.1 h96 h9.2.1.2.1 hte) (fun mi_50 h_50 => ?_)
          subst h_50
          rw [show mi_31 49 = m0 49 from h9.1 49 (by decide) (by decide) (by decide), ← hb2]
          refine s_iinc (μ := mX5_readLaw) (pc := 53) (c := 1) (L2 := [_, _]) dX5_readLaw_53 rfl ic_1 (Nat.le_of_ble_eq_true rfl) rfl rfl ?_
          refine r_goto (μ := mX5_readLaw) (pc := 56) (tgt := 6) dX5_readLaw_56 (by decide) ?_
          exact WP.L (by rw [show nI (w + 1) = nI w + 1 from nI_succ w]) (ih _ _ _ _ _ _ (w + 1) (Tok.e t) (Tok.k t) hru (h9.at_ _) rfl hte (by omega) (fun z => Or.inl ⟨hkeep.2.2.2 z, by omega⟩) hkeep.1 hkeep.2.1 (by omega) (by omega))
        | false =>
          refine r_iload_n (μ := mX5_readLaw) (pc := 6) dX5_readLaw_6 rfl rfl ?_
          refine r_bipush (μ := mX5_readLaw) (pc := 7) (v := 96) dX5_readLaw_7 bp_96 ?_
          refine r_icmp_ge (μ := mX5_readLaw) (pc := 9) (tgt := 59) dX5_readLaw_9 (by decide) (fun h_9 => absurd h_9 (nI_ge (b := 96) (by omega) (by decide))) (fun h_9 => ?_)
          refine r_aload_n (μ := mX5_readLaw) (pc := 12) dX5_readLaw_12 rfl rfl rfl ?_
          refine r_getI (μ := mX5_readLaw) (pc := 13) dX5_readLaw_13 fpX5_19 rfl (hF _ _ rfl) (by decide) ?_
          refine r_aload_n (μ := mX5_readLaw) (pc := 16) dX5_readLaw_16 rfl rfl rfl ?_
          refine r_getI (μ := mX5_readLaw) (pc := 17) dX5_readLaw_17 fpX5_22 rfl (hF _ _ rfl) (by decide) ?_
          refine r_icmp_ge (μ := mX5_readLaw) (pc := 20) (tgt := 59) dX5_readLaw_20 (by decide) (fun h_20 => absurd h_20 (by rw [e2, e3]; exact nI_ge hbt (by omega))) (fun h_20 => ?_)
          refine r_aload_n (μ := mX5_readLaw) (pc := 23) dX5_readLaw_23 rfl rfl rfl ?_
          refine r_getI (μ := mX5_readLaw) (pc := 24) dX5_readLaw_24 fpX5_31 rfl (hF _ _ rfl) (by decide) ?_
          refine r_if_eq (μ := mX5_readLaw) (pc := 27) (tgt := 40) dX5_readLaw_27 (by decide) (fun h_27 => ?_) (fun h_27 => absurd (by rw [e6]; rfl) h_27)
          refine r_aload_n (μ := mX5_readLaw) (pc := 40) dX5_readLaw_40 rfl rfl rfl ?_
          refine vX0 (μ := mX5_readLaw) (pc := 41) (c0 := 5) (q0 := (RX5, TX5, 14)) (μ2 := mX5_readBehindOperand) dX5_readLaw_41 (hF _ _ rfl) rfl lkX5_120 imX5_readBehindOperand seX5_X5_readBehindOperand_X5_readBehindOperand mwX5_readBehindOperand (Nat.le_of_ble_eq_true rfl) (k_behind (d := d + 3) hF hB hR h96 (by rw [h49]; exact htk) rfl he hk0 hke hw (hhd rfl) (by omega)) (fun r_41 mi_41 h_41 => ?_)
          rw [hst] at h_41
          obtain ⟨rfl, h9⟩ := h_41
          refine r_if_ne (μ := mX5_readLaw) (pc := 44) (tgt := 49) dX5_readLaw_44 (by decide) (fun h_44 => ?_) (fun h_44 => absurd h_44 (by decide))
          refine r_aload_n (μ := mX5_readLaw) (pc := 49) dX5_readLaw_49 rfl rfl rfl ?_
          refine vV0 (μ := mX5_readLaw) (pc := 50) (c0 := 5) (q0 := (RX5, TX5, 14)) (μ2 := mX5_skipBlanks) dX5_readLaw_50 (hF _ _ rfl) rfl lkX5_103 imX5_skipBlanks seX5_X5_skipBlanks_X5_skipBlanks mwX5_skipBlanks (Nat.le_of_ble_eq_true rfl) (k_skip hF hB h9.2.1.2.2.1 h96 h9.2.1.2.1 hte) (fun mi_50 h_50 => ?_)
          subst h_50
          rw [show mi_41 49 = m0 49 from h9.1 49 (by decide) (by decide) (by decide), ← hb2]
          refine s_iinc (μ := mX5_readLaw) (pc := 53) (c := 1) (L2 := [_, _]) dX5_readLaw_53 rfl ic_1 (Nat.le_of_ble_eq_true rfl) rfl rfl ?_
          refine r_goto (μ := mX5_readLaw) (pc := 56) (tgt := 6) dX5_readLaw_56 (by decide) ?_
          exact WP.L (by rw [show nI (w + 1) = nI w + 1 from nI_succ w]) (ih _ _ _ _ _ _ (w + 1) (Tok.e t) (Tok.k t) hru (h9.at_ _) rfl hte (by omega) (fun z => Or.inl ⟨hkeep.2.2.2 z, by omega⟩) hkeep.1 hkeep.2.1 (by omega) (by omega))

theorem k_readLaw {d : Nat} {sh : List Sh} {mi : MI} {mr : MR} (hF : SHC sh) (hB : CB mr) {m0 : MI} {tp ke : Nat} {key : Int32} (h : RdS m0 mi tp ke key true ke [] [] 0) (h96 : tp ≤ 96) (hke : 4 ≤ ke) (hkt2 : ke ≤ tp) (hl : ltB tp (m0 49) ke = false) {kt : Nat} (hkt : kt < 3) (hk : key = nI kt) {res : RRes} (hru : Rn tp (m0 49) key true (nxT tp (m0 49) ke 1) [] [] 0 res) : CP (d + 7) mX5_readLaw [.ref 48] sh mi mr 0 0 (PX sh mr (fun r mi2 => LwP m0 mi2 tp ke key r res)) := by
  have h49 : mi 49 = m0 49 := h.1 49 (by decide) (by decide) (by decide)
  obtain ⟨g, hg⟩ := hru
  have hb2 := (tk_see (tp := tp) (T := m0 49) (e := ke) (k := 1) rfl h96 hkt2).1
  have hb3 := (nxT_ok (T := m0 49) (k := 1) h96 hkt2).2
  refine CP.of (L := [_, _]) (by decide) rfl rfl (Nat.le_of_ble_eq_true rfl) ?_
  refine r_aload_n (μ := mX5_readLaw) (pc := 0) dX5_readLaw_0 rfl rfl rfl ?_
  refine vV0 (μ := mX5_readLaw) (pc := 1) (c0 := 5) (q0 := (RX5, TX5, 14)) (μ2 := mX5_skipBlanks) dX5_readLaw_1 (hF _ _ rfl) rfl lkX5_103 imX5_skipBlanks seX5_X5_skipBlanks_X5_skipBlanks mwX5_skipBlanks (Nat.le_of_ble_eq_true rfl) (k_skip hF hB h.2.1.2.2.1 h96 h.2.1.2.1 hkt2) (fun mi_1 h_1 => ?_)
  subst h_1
  rw [h49, ← hb2]
  refine r_iconst (μ := mX5_readLaw) (pc := 4) (v := 0) dX5_readLaw_4 ic_0 ?_
  refine s_istore_n (μ := mX5_readLaw) (pc := 5) (L2 := [_, _]) dX5_readLaw_5 rfl (Nat.le_of_ble_eq_true rfl) (Nat.le_of_ble_eq_true rfl) rfl rfl ?_
  exact lp_law hF hB h96 hkt hk (fun r mi2 z => PX_i z) g true _ [] [] 0 _ 0 ke 1 hg (h.at_ _) rfl hkt2 (Nat.le_refl _) (fun _ => Or.inr ⟨rfl, rfl, by omega, hl⟩) trivial (fun z => by cases z) (by show 0 + 0 + 4 ≤ ke; omega) (by omega)

