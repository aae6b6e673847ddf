def lvC : Nat → Nat
  | 0 => 0 | 1 => 1 | 3 => 2 | 5 => 3 | 6 => 4 | _ => 5
theorem thn_some {r : Option (Bool × PS)} {g : PS → Option (Bool × PS)} (h : ∃ x, r = some x) (hg : ∀ p1, r = some (true, p1) → ∃ x, g p1 = some x) : ∃ x, thn r g = some x := by
  obtain ⟨⟨b, p⟩, rfl⟩ := h
  cases b
  · exact ⟨_, rfl⟩
  · exact hg p rfl
theorem pd_tot {tp : Nat} {T : Rw} {key : Int32} (h96 : tp ≤ 96) : ∀ (f code : Nat) (p : PS), code ≤ 9 → TOK tp (PS.t p) → TV (PS.t p) → 10 * (tp - Tok.b (PS.t p)) + lvC code < f → ∃ x, pd tp T key f code p = some x := by
  intro f
  induction f with
  | zero => intro code p _ _ _ h; exact absurd h (Nat.not_lt_zero _)
  | succ f ih =>
    intro code p hc ht hv hm
    have hnx : ∀ {p : PS}, TOK tp (PS.t p) → ¬ Tok.k (PS.t p) = 0 → (TOK tp (PS.t (nxP tp T p)) ∧ TV (PS.t (nxP tp T p))) ∧ Tok.b (PS.t p) < Tok.b (PS.t (nxP tp T p)) := fun {p} ht hk => by
      have h1 := nx_tok (T := T) h96 ht
      have h2 := ht.2.2 hk
      exact ⟨⟨h1.1, tv_nx⟩, by omega⟩
    have hbt : ∀ {p : PS}, TOK tp (PS.t p) → Tok.b (PS.t p) ≤ tp := fun ht => Nat.le_trans ht.1 ht.2.1
    have seq : ∀ {c ci cl : Nat}, lvC ci < lvC c → lpC ci = false → ci ≤ 9 → cl ≤ 9 → lvC cl = 5 → 10 * (tp - Tok.b (PS.t p)) + lvC c < f + 1 → ∃ x, thn (pd tp T key f ci p) (pd tp T key f cl) = some x := by
      intro c ci cl h1 hl h2 h3 h5 h4
      refine thn_some (ih ci p h2 ht hv (by omega)) (fun p1 e1 => ?_)
      have g1 := pd_good h96 f ci _ _ ht hv e1
      rw [hl] at g1
      have hb : Tok.b (PS.t p) < Tok.b (PS.t p1) := g1.2.1
      have := hbt g1.1.1
      exact ih cl p1 h3 g1.1.1 g1.1.2 (by omega)
    have lop : ∀ {ci cl : Nat} {c : Int32}, ci ≤ 9 → cl ≤ 9 → lpC ci = false → lvC ci ≤ 5 → lvC cl = 5 → ¬ Tok.k (PS.t p) = 0 → 10 * (tp - Tok.b (PS.t p)) + 5 < f + 1 → ∃ x, thn (pd tp T key f ci (nxP tp T p)) (fun p2 => pd tp T key f cl (emP 2 c p2)) = some x := by
      intro ci cl c h1 h2 hl h3 h4 hk h5
      obtain ⟨⟨n1, n2⟩, n3⟩ := hnx ht hk
      have := hbt n1
      refine thn_some (ih ci _ h1 n1 n2 (by omega)) (fun p1 e1 => ?_)
      have g1 := pd_good h96 f ci _ _ n1 n2 e1
      rw [hl] at g1
      have hb : Tok.b (PS.t (nxP tp T p)) < Tok.b (PS.t p1) := g1.2.1
      have := hbt g1.1.1
      exact ih cl (emP 2 c p1) h2 g1.1.1 g1.1.2 (by show 10 * (tp - Tok.b (PS.t p1)) + lvC cl < f; omega)
    match code, hc, hm with
    | 0, _, hm =>
      rw [pd_0]
      split
      · exact ⟨_, rfl⟩
      · split
        · exact ⟨_, rfl⟩
        · split
          · rename_i _ _ hk
            obtain ⟨⟨n1, n2⟩, n3⟩ := hnx ht (by rw [(sg_k3 hk.1).1]; decide)
            have := hbt n1
            have hm : 10 * (tp - Tok.b (PS.t p)) + 0 < f + 1 := hm
            exact thn_some (ih 0 _ (by decide) n1 n2 (by show 10 * (tp - Tok.b (PS.t (nxP tp T p))) + 0 < f; omega)) (fun p1 _ => ⟨_, rfl⟩)
          · split
            · rename_i _ _ _ hk
              obtain ⟨⟨n1, n2⟩, n3⟩ := hnx ht (by rw [(sg_k3 hk.1).1]; decide)
              have := hbt n1
              have hm : 10 * (tp - Tok.b (PS.t p)) + 0 < f + 1 := hm
              exact thn_some (ih 8 _ (by decide) n1 n2 (by show 10 * (tp - Tok.b (PS.t (nxP tp T p))) + 5 < f; omega)) (fun p1 _ => by split <;> exact ⟨_, rfl⟩)
            · exact ⟨_, rfl⟩
    | 1, _, hm => rw [pd_1]; exact seq (by decide) rfl (by decide) (by decide) rfl hm
    | 2, _, hm =>
      rw [pd_2]
      split
      · rename_i hs
        exact lop (by decide) (by decide) rfl (by decide) rfl (by rcases hs with z | z <;> (rw [(sg_k3 z).1]; decide)) hm
      · exact ⟨_, rfl⟩
    | 3, _, hm => rw [pd_3]; exact seq (by decide) rfl (by decide) (by decide) rfl hm
    | 4, _, hm =>
      rw [pd_4]
      split
      · rename_i hs
        exact lop (by decide) (by decide) rfl (by decide) rfl (by rcases hs with z | z <;> (rw [(sg_k3 z).1]; decide)) hm
      · exact ⟨_, rfl⟩
    | 5, _, hm =>
      rw [pd_5]
      have hm : 10 * (tp - Tok.b (PS.t p)) + 3 < f + 1 := hm
      refine thn_some (ih 3 p (by decide) ht hv (by show _ + 2 < f; omega)) (fun p1 e1 => ?_)
      have g1 : Gd tp key false p p1 := pd_good h96 f 3 _ _ ht hv e1
      split
      · rename_i hs
        obtain ⟨⟨n1, n2⟩, n3⟩ := hnx g1.1.1 (by rcases hs with z | z | z <;> (rw [(sg_k3 z).1]; decide))
        have hb : Tok.b (PS.t p) < Tok.b (PS.t p1) := g1.2.1
        have := hbt n1
        exact thn_some (ih 3 _ (by decide) n1 n2 (by show 10 * (tp - Tok.b (PS.t (nxP tp T p1))) + 2 < f; omega)) (fun _ _ => ⟨_, rfl⟩)
      · exact ⟨_, rfl⟩
    | 6, _, hm => rw [pd_6]; exact seq (by decide) rfl (by decide) (by decide) rfl hm
    | 7, _, hm =>
      rw [pd_7]
      split
      · rename_i hs
        exact lop (by decide) (by decide) rfl (by decide) rfl (by rw [(sg_k3 hs).1]; decide) hm
      · exact ⟨_, rfl⟩
    | 8, _, hm => rw [pd_8]; exact seq (by decide) rfl (by decide) (by decide) rfl hm
    | 9, _, hm =>
      rw [pd_9]
      split
      · rename_i hs
        exact lop (by decide) (by decide) rfl (by decide) rfl (by rw [(sg_k3 hs).1]; decide) hm
      · exact ⟨_, rfl⟩
    | n + 10, hc, _ => omega
def prAt (q : Nat) : Nat := if q < 14 then 80 + 200 * q + 4 else 2880
/-- the first token, the key, the descent -/
def tk1 (tp : Nat) (T : Rw) : Tok := nxT tp T 0 3
def kyP (tp : Nat) (T : Rw) : Int32 := keyB T (Tok.b (tk1 tp T)) (Tok.e (tk1 tp T)) (Tok.k (tk1 tp T))
def ps1 (tp : Nat) (T : Rw) : PS := (nxT tp T (Tok.e (tk1 tp T)) (Tok.k (tk1 tp T)), [], 0, 0, 0)
def pdF (tp : Nat) (T : Rw) : Bool × PS := (pd tp T (kyP tp T) 970 8 (ps1 tp T)).getD (false, ps1 tp T)
theorem pdF_e {tp : Nat} {T : Rw} (h96 : tp ≤ 96) : pd tp T (kyP tp T) 970 8 (ps1 tp T) = some (pdF tp T) := by
  have h1 := (nxT_ok (T := T) (k := 3) h96 (Nat.zero_le tp)).1
  have h2 := (nxT_ok (T := T) (k := Tok.k (tk1 tp T)) h96 h1.2.1).1
  obtain ⟨x, hx⟩ := pd_tot (T := T) (key := kyP tp T) h96 970 8 (ps1 tp T) (by decide) h2 tv_nx (by show 10 * (tp - Tok.b _) + 5 < 970; omega)
  unfold pdF
  rw [hx]
  rfl
theorem kyP_c (tp : Nat) (T : Rw) : kyP tp T = -1 ∨ kyP tp T = 0 ∨ kyP tp T = 1 ∨ kyP tp T = 2 := by
  unfold kyP keyB
  repeat' split
  all_goals simp
/-- the memory behind a parse -/
def PrM (mi mi2 : MI) : Prop := (∀ a, a ≠ 0 → a ≠ 1 → mi2 a = mi a) ∧ mi2 0 17 = 0 ∧ ∀ j, (j < 17 ∨ 27 < j) → mi2 0 j = mi 0 j

theorem pm_first {mi mi2 : MI} {tp q : Nat} (ht : mi 0 17 = nI tp) (h : TkP (upI (upI (upI (upI (upI (upI (upI mi 0 19 0) 0 20 3) 0 23 0) 0 24 0) 0 25 0) 0 27 0) 0 26 (nI (prAt q))) mi2 (nxT tp (upI (upI (upI (upI (upI (upI (upI mi 0 19 0) 0 20 3) 0 23 0) 0 24 0) 0 25 0) 0 27 0) 0 26 (nI (prAt q)) 13) 0 3)) : PM mi mi2 tp (prAt q) (tk1 tp (mi 13), [], 0, 0, 0) := by
  obtain ⟨c1, c2, c3, c4, c5, c6, c7⟩ := h
  have e13 : upI (upI (upI (upI (upI (upI (upI mi 0 19 0) 0 20 3) 0 23 0) 0 24 0) 0 25 0) 0 27 0) 0 26 (nI (prAt q)) 13 = mi 13 := by rw [upI_ne (by decide), upI_ne (by decide), upI_ne (by decide), upI_ne (by decide), upI_ne (by decide), upI_ne (by decide), upI_ne (by decide)]
  rw [e13] at c2 c3 c4 c5 c6
  refine ⟨fun a x y => by rw [c1 a x, upI_ne x, upI_ne x, upI_ne x, upI_ne x, upI_ne x, upI_ne x, upI_ne x], ?_, ⟨?_, ?_⟩, ⟨c2, c3, c4, c5, c6⟩, ⟨?_, ?_, ?_, ?_⟩, fun j hj => ?_⟩
  · rw [c1 1 (by decide), upI_ne (by decide), upI_ne (by decide), upI_ne (by decide), upI_ne (by decide), upI_ne (by decide), upI_ne (by decide), upI_ne (by decide)]
    exact (layR_0 _ _).symm
  · rw [c7 17 (by omega), up_ne (by decide), up_ne (by decide), up_ne (by decide), up_ne (by decide), up_ne (by decide), up_ne (by decide), up_ne (by decide)]; exact ht
  · rw [c7 26 (by omega), up_eq]
  · rw [c7 23 (by omega), up_ne (by decide), up_ne (by decide), up_ne (by decide), up_ne (by decide), up_eq]; rfl
  · rw [c7 24 (by omega), up_ne (by decide), up_ne (by decide), up_ne (by decide), up_eq]; rfl
  · rw [c7 25 (by omega), up_ne (by decide), up_ne (by decide), up_eq]; rfl
  · rw [c7 27 (by omega), up_ne (by decide), up_eq]; rfl
  · rw [c7 j (by omega), up_ne (by omega), up_ne (by omega), up_ne (by omega), up_ne (by omega), up_ne (by omega), up_ne (by omega), up_ne (by omega)]

theorem lp_parse0 {d : Nat} {mi : MI} {mr : MR} (hM : MB mr) {tp q : Nat} (ht : mi 0 17 = nI tp) (h96 : tp ≤ 96) (hq : mi 1 3 = nI q) (hq14 : q ≤ 14) {Q : QT} {L1 : List Value} (k : ∀ mi2, PM mi mi2 tp (prAt q) (tk1 tp (mi 13), [], 0, 0, 0) → WP (d + 2 + 1) mX12_parse 67 [.ref 0, hole, hole] [] shM mi2 mr 0 0 Q) : WP (d + 2 + 1) mX12_parse 0 [.ref 0, hole, hole] [] shM mi mr 0 0 Q := by
  refine r_aload_n (μ := mX12_parse) (pc := 0) dX12_parse_0 rfl rfl rfl ?_
  refine r_iconst (μ := mX12_parse) (pc := 1) (v := 0) dX12_parse_1 ic_0 ?_
  refine r_putI (μ := mX12_parse) (pc := 2) dX12_parse_2 fwX12_226 rfl (by decide) rfl ?_
  refine r_aload_n (μ := mX12_parse) (pc := 5) dX12_parse_5 rfl rfl rfl ?_
  refine r_iconst (μ := mX12_parse) (pc := 6) (v := 3) dX12_parse_6 ic_3 ?_
  refine r_putI (μ := mX12_parse) (pc := 7) dX12_parse_7 fwX12_229 rfl (by decide) rfl ?_
  refine r_aload_n (μ := mX12_parse) (pc := 10) dX12_parse_10 rfl rfl rfl ?_
  refine r_iconst (μ := mX12_parse) (pc := 11) (v := 0) dX12_parse_11 ic_0 ?_
  refine r_putI (μ := mX12_parse) (pc := 12) dX12_parse_12 fwX12_290 rfl (by decide) rfl ?_
  refine r_aload_n (μ := mX12_parse) (pc := 15) dX12_parse_15 rfl rfl rfl ?_
  refine r_iconst (μ := mX12_parse) (pc := 16) (v := 0) dX12_parse_16 ic_0 ?_
  refine r_putI (μ := mX12_parse) (pc := 17) dX12_parse_17 fwX12_287 rfl (by decide) rfl ?_
  refine r_aload_n (μ := mX12_parse) (pc := 20) dX12_parse_20 rfl rfl rfl ?_
  refine r_iconst (μ := mX12_parse) (pc := 21) (v := 0) dX12_parse_21 ic_0 ?_
  refine r_putI (μ := mX12_parse) (pc := 22) dX12_parse_22 fwX12_254 rfl (by decide) rfl ?_
  refine r_aload_n (μ := mX12_parse) (pc := 25) dX12_parse_25 rfl rfl rfl ?_
  refine r_iconst (μ := mX12_parse) (pc := 26) (v := 0) dX12_parse_26 ic_0 ?_
  refine r_putI (μ := mX12_parse) (pc := 27) dX12_parse_27 fwX12_281 rfl (by decide) rfl ?_
  refine r_aload_n (μ := mX12_parse) (pc := 30) dX12_parse_30 rfl rfl rfl ?_
  refine r_aload_n (μ := mX12_parse) (pc := 31) dX12_parse_31 rfl rfl rfl ?_
  refine r_getR (μ := mX12_parse) (pc := 32) dX12_parse_32 fpX12_7 rfl rfl (by decide) (hM _ _ rfl) ?_
  refine r_iconst (μ := mX12_parse) (pc := 35) (v := 3) dX12_parse_35 ic_3 ?_
  refine r_iaload (μ := mX12_parse) (pc := 36) (j := 3) dX12_parse_36 rfl rfl (by decide) (by decide) ?_
  rw [upI_ne (by decide), upI_ne (by decide), upI_ne (by decide), upI_ne (by decide), upI_ne (by decide), upI_ne (by decide), hq]
  refine r_bipush (μ := mX12_parse) (pc := 37) (v := 14) dX12_parse_37 bp_14 ?_
  refine r_icmp_ge (μ := mX12_parse) (pc := 39) (tgt := 57) dX12_parse_39 (by decide) (fun h_39 => ?_) (fun h_39 => ?_)
  · have h39 : ¬ q < 14 := fun z => absurd h_39 (nI_ge (b := 14) z (by decide))
    refine r_sipush (μ := mX12_parse) (pc := 57) (v := 2880) dX12_parse_57 sp_2880 ?_
    rw [show (2880 : Int32) = nI (prAt q) from by unfold prAt; rw [if_neg h39]; rfl]
    refine r_putI (μ := mX12_parse) (pc := 60) dX12_parse_60 fwX12_251 rfl (by decide) rfl ?_
    refine r_aload_n (μ := mX12_parse) (pc := 63) dX12_parse_63 rfl rfl rfl ?_
    refine vV0 (μ := mX12_parse) (pc := 64) (c0 := 12) (q0 := (RX12, TX12, 34)) (μ2 := mX12_nextToken) dX12_parse_64 rfl rfl lkX12_263 imX12_nextToken seX12_X12_nextToken_X12_nextToken mwX12_nextToken (Nat.le_of_ble_eq_true rfl) (c_nextToken (tp := tp) (e := 0) (k := 3) hM (by rw [up_ne (by decide), up_ne (by decide), up_ne (by decide), up_ne (by decide), up_ne (by decide), up_ne (by decide), up_ne (by decide)]; exact ht) h96 (by rw [up_ne (by decide), up_ne (by decide), up_ne (by decide), up_ne (by decide), up_ne (by decide), up_ne (by decide), up_eq]; rfl) (Nat.zero_le _) (by rw [up_ne (by decide), up_ne (by decide), up_ne (by decide), up_ne (by decide), up_ne (by decide), up_eq])) (fun mi_64 h_64 => ?_)
    refine k _ (pm_first (q := q) ht h_64)
  · have h39 : q < 14 := by rcases Nat.lt_or_ge q 14 with z | z; (· exact z); (· exact absurd (nI_le (a := 14) z (by omega)) h_39)
    refine r_aload_n (μ := mX12_parse) (pc := 42) dX12_parse_42 rfl rfl rfl ?_
    refine r_aload_n (μ := mX12_parse) (pc := 43) dX12_parse_43 rfl rfl rfl ?_
    refine r_getR (μ := mX12_parse) (pc := 44) dX12_parse_44 fpX12_7 rfl rfl (by decide) (hM _ _ rfl) ?_
    refine r_iconst (μ := mX12_parse) (pc := 47) (v := 3) dX12_parse_47 ic_3 ?_
    refine r_iaload (μ := mX12_parse) (pc := 48) (j := 3) dX12_parse_48 rfl rfl (by decide) (by decide) ?_
    rw [upI_ne (by decide), upI_ne (by decide), upI_ne (by decide), upI_ne (by decide), upI_ne (by decide), upI_ne (by decide), hq]
    refine vP1 (μ := mX12_parse) (pc := 49) (c0 := 12) (q0 := (RX12, TX12, 34)) (μ2 := mX12_textAt) dX12_parse_49 rfl rfl lkX12_296 imX12_textAt seX12_X12_textAt_X12_textAt mwX12_textAt (Nat.le_of_ble_eq_true rfl) c_textAt ?_
    refine r_iconst (μ := mX12_parse) (pc := 52) (v := 4) dX12_parse_52 ic_4 ?_
    refine r_iadd (μ := mX12_parse) (pc := 53) dX12_parse_53 ?_
    rw [show nI (80 + 200 * q) + 4 = nI (80 + 200 * q + 4) from nI_add _ 4]
    refine r_goto (μ := mX12_parse) (pc := 54) (tgt := 60) dX12_parse_54 (by decide) ?_
    rw [show nI (80 + 200 * q + 4) = nI (prAt q) from by unfold prAt; rw [if_pos h39]]
    refine r_putI (μ := mX12_parse) (pc := 60) dX12_parse_60 fwX12_251 rfl (by decide) rfl ?_
    refine r_aload_n (μ := mX12_parse) (pc := 63) dX12_parse_63 rfl rfl rfl ?_
    refine vV0 (μ := mX12_parse) (pc := 64) (c0 := 12) (q0 := (RX12, TX12, 34)) (μ2 := mX12_nextToken) dX12_parse_64 rfl rfl lkX12_263 imX12_nextToken seX12_X12_nextToken_X12_nextToken mwX12_nextToken (Nat.le_of_ble_eq_true rfl) (c_nextToken (tp := tp) (e := 0) (k := 3) hM (by rw [up_ne (by decide), up_ne (by decide), up_ne (by decide), up_ne (by decide), up_ne (by decide), up_ne (by decide), up_ne (by decide)]; exact ht) h96 (by rw [up_ne (by decide), up_ne (by decide), up_ne (by decide), up_ne (by decide), up_ne (by decide), up_ne (by decide), up_eq]; rfl) (Nat.zero_le _) (by rw [up_ne (by decide), up_ne (by decide), up_ne (by decide), up_ne (by decide), up_ne (by decide), up_eq])) (fun mi_64 h_64 => ?_)
    refine k _ (pm_first (q := q) ht h_64)

theorem c_parse_no {d : Nat} {mi : MI} {mr : MR} (hM : MB mr) {tp q : Nat} (ht : mi 0 17 = nI tp) (h96 : tp ≤ 96) (hq : mi 1 3 = nI q) (hq14 : q ≤ 14) (hk : kyP tp (mi 13) = -1) : CP (d + 3) mX12_parse [.ref 0] shM mi mr 0 0 (PX shM mr (fun r mi2 => r = -1 ∧ mi2 0 18 = nI (Tok.b (tk1 tp (mi 13))) ∧ mi2 1 = mi 1 ∧ PrM mi mi2)) := by
  have htk : TOK tp (tk1 tp (mi 13)) := (nxT_ok h96 (Nat.zero_le tp)).1
  refine CP.of (L := [_, _, _]) (by decide) rfl rfl (Nat.le_of_ble_eq_true rfl) ?_
  refine lp_parse0 (d := d) (L1 := []) hM ht h96 hq hq14 (fun mi_0 hp => ?_)
  refine r_aload_n (μ := mX12_parse) (pc := 67) dX12_parse_67 rfl rfl rfl ?_
  refine vP0 (μ := mX12_parse) (pc := 68) (c0 := 12) (q0 := (RX12, TX12, 34)) (μ2 := mX12_key) dX12_parse_68 rfl rfl lkX12_299 imX12_key seX12_X12_key_X12_key mwX12_key (Nat.le_of_ble_eq_true rfl) (c_key hM hp.2.2.2.1.1 hp.2.2.2.1.2.1 hp.2.2.2.1.2.2.1 htk.1 (Nat.le_trans htk.2.1 h96)) ?_
  rw [show keyB (mi_0 13) (Tok.b (PS.t (tk1 tp (mi 13), [], 0, 0, 0))) (Tok.e (PS.t (tk1 tp (mi 13), [], 0, 0, 0))) (Tok.k (PS.t (tk1 tp (mi 13), [], 0, 0, 0))) = kyP tp (mi 13) from by rw [hp.1 13 (by decide) (by decide)]; rfl]
  rw [hk]
  refine s_istore_n (μ := mX12_parse) (pc := 71) (L2 := [_, _, _]) dX12_parse_71 rfl (Nat.le_of_ble_eq_true rfl) (Nat.le_of_ble_eq_true rfl) rfl rfl ?_
  refine r_iload_n (μ := mX12_parse) (pc := 72) dX12_parse_72 rfl rfl ?_
  refine r_if_lt (μ := mX12_parse) (pc := 73) (tgt := 80) dX12_parse_73 (by decide) (fun h_73 => ?_) (fun h_73 => absurd (by decide) h_73)
  refine r_iconst (μ := mX12_parse) (pc := 80) (v := 0) dX12_parse_80 ic_0 ?_
  refine s_istore_n (μ := mX12_parse) (pc := 81) (L2 := [_, _, _]) dX12_parse_81 rfl (Nat.le_of_ble_eq_true rfl) (Nat.le_of_ble_eq_true rfl) rfl rfl ?_
  refine r_iload_n (μ := mX12_parse) (pc := 82) dX12_parse_82 rfl rfl ?_
  refine r_if_eq (μ := mX12_parse) (pc := 83) (tgt := 111) dX12_parse_83 (by decide) (fun h_83 => ?_) (fun h_83 => absurd rfl h_83)
  refine r_aload_n (μ := mX12_parse) (pc := 111) dX12_parse_111 rfl rfl rfl ?_
  refine r_iconst (μ := mX12_parse) (pc := 112) (v := 0) dX12_parse_112 ic_0 ?_
  refine r_putI (μ := mX12_parse) (pc := 113) dX12_parse_113 fwX12_215 rfl (by decide) rfl ?_
  refine r_iload_n (μ := mX12_parse) (pc := 116) dX12_parse_116 rfl rfl ?_
  refine r_if_eq (μ := mX12_parse) (pc := 117) (tgt := 124) dX12_parse_117 (by decide) (fun h_117 => ?_) (fun h_117 => absurd rfl h_117)
  refine r_iconst (μ := mX12_parse) (pc := 124) (v := -1) dX12_parse_124 ic_m1 ?_
  exact r_iret (μ := mX12_parse) (pc := 125) dX12_parse_125 rfl rfl (PX_i ⟨rfl, by rw [up_ne (by decide)]; exact hp.2.2.2.1.1, by rw [upI_ne (by decide), hp.2.1]; exact layR_0 _ _, fun a h0 h1 => by rw [upI_ne h0]; exact hp.1 a h0 h1, up_eq, fun j hj => by rw [up_ne (by omega)]; exact hp.2.2.2.2.2 j hj⟩)

theorem c_parse_ky {d : Nat} {mi : MI} {mr : MR} (hM : MB mr) {tp q : Nat} (ht : mi 0 17 = nI tp) (h96 : tp ≤ 96) (hq : mi 1 3 = nI q) (hq14 : q ≤ 14) (hk : ¬ kyP tp (mi 13) = -1) : CP (d + 974) mX12_parse [.ref 0] shM mi mr 0 0 (PX shM mr (fun r mi2 => r = (if (pdF tp (mi 13)).1 = true ∧ Tok.k (PS.t (pdF tp (mi 13)).2) = 0 then kyP tp (mi 13) else -1) ∧ mi2 0 18 = nI (Tok.b (PS.t (pdF tp (mi 13)).2)) ∧ mi2 1 = layR (mi 1) (prAt q) (PS.o (pdF tp (mi 13)).2) ∧ mi2 0 25 = nI (PS.o (pdF tp (mi 13)).2).length ∧ mi2 0 27 = nI (PS.sd (pdF tp (mi 13)).2) ∧ PrM mi mi2)) := by
  have htk : TOK tp (tk1 tp (mi 13)) := (nxT_ok h96 (Nat.zero_le tp)).1
  have htk2 := nxT_ok (T := mi 13) (k := Tok.k (tk1 tp (mi 13))) h96 htk.2.1
  have hk3 : kyP tp (mi 13) = 0 ∨ kyP tp (mi 13) = 1 ∨ kyP tp (mi 13) = 2 := (kyP_c tp (mi 13)).resolve_left hk
  have hk0 : 0 ≤ kyP tp (mi 13) := by rcases hk3 with z | z | z <;> rw [z] <;> decide
  have hpd := pdF_e (T := mi 13) h96
  have hat : prAt q ≤ 2880 := by unfold prAt; split <;> omega
  refine CP.of (L := [_, _, _]) (by decide) rfl rfl (Nat.le_of_ble_eq_true rfl) ?_
  refine lp_parse0 (d := d + 971) (L1 := []) hM ht h96 hq hq14 (fun mi_0 hp => ?_)
  refine r_aload_n (μ := mX12_parse) (pc := 67) dX12_parse_67 rfl rfl rfl ?_
  refine vP0 (μ := mX12_parse) (pc := 68) (c0 := 12) (q0 := (RX12, TX12, 34)) (μ2 := mX12_key) dX12_parse_68 rfl rfl lkX12_299 imX12_key seX12_X12_key_X12_key mwX12_key (Nat.le_of_ble_eq_true rfl) (c_key hM hp.2.2.2.1.1 hp.2.2.2.1.2.1 hp.2.2.2.1.2.2.1 htk.1 (Nat.le_trans htk.2.1 h96)) ?_
  rw [show keyB (mi_0 13) (Tok.b (PS.t (tk1 tp (mi 13), [], 0, 0, 0))) (Tok.e (PS.t (tk1 tp (mi 13), [], 0, 0, 0))) (Tok.k (PS.t (tk1 tp (mi 13), [], 0, 0, 0))) = kyP tp (mi 13) from by rw [hp.1 13 (by decide) (by decide)]; rfl]
  refine s_istore_n (μ := mX12_parse) (pc := 71) (L2 := [_, _, _]) dX12_parse_71 rfl (Nat.le_of_ble_eq_true rfl) (Nat.le_of_ble_eq_true rfl) rfl rfl ?_
  refine r_iload_n (μ := mX12_parse) (pc := 72) dX12_parse_72 rfl rfl ?_
  refine r_if_lt (μ := mX12_parse) (pc := 73) (tgt := 80) dX12_parse_73 (by decide) (fun h_73 => absurd h_73 (Int32.not_lt.mpr hk0)) (fun h_73 => ?_)
  refine r_iconst (μ := mX12_parse) (pc := 76) (v := 1) dX12_parse_76 ic_1 ?_
  refine r_goto (μ := mX12_parse) (pc := 77) (tgt := 81) dX12_parse_77 (by decide) ?_
  refine s_istore_n (μ := mX12_parse) (pc := 81) (L2 := [_, _, _]) dX12_parse_81 rfl (Nat.le_of_ble_eq_true rfl) (Nat.le_of_ble_eq_true rfl) rfl rfl ?_
  refine r_iload_n (μ := mX12_parse) (pc := 82) dX12_parse_82 rfl rfl ?_
  refine r_if_eq (μ := mX12_parse) (pc := 83) (tgt := 111) dX12_parse_83 (by decide) (fun h_83 => absurd h_83 (by decide)) (fun h_83 => ?_)
  refine r_aload_n (μ := mX12_parse) (pc := 86) dX12_parse_86 rfl rfl rfl ?_
  refine vV0 (μ := mX12_parse) (pc := 87) (c0 := 12) (q0 := (RX12, TX12, 34)) (μ2 := mX12_nextToken) dX12_parse_87 rfl rfl lkX12_263 imX12_nextToken seX12_X12_nextToken_X12_nextToken mwX12_nextToken (Nat.le_of_ble_eq_true rfl) (e_next (d := d + 971) hM hp h96 htk.2.1) (fun mi_87 h_87 => ?_)
  have hp2 : PM mi mi_87 tp (prAt q) (ps1 tp (mi 13)) := h_87
  refine r_aload_n (μ := mX12_parse) (pc := 90) dX12_parse_90 rfl rfl rfl ?_
  refine r_iload_n (μ := mX12_parse) (pc := 91) dX12_parse_91 rfl rfl ?_
  refine vX1 (μ := mX12_parse) (pc := 92) (c0 := 12) (q0 := (RX12, TX12, 34)) (μ2 := mX12_either) dX12_parse_92 rfl rfl lkX12_293 imX12_either seX12_X12_either_X12_either mwX12_either (Nat.le_of_ble_eq_true rfl) ((pd_all hM h96 hat hk3 970 970 (Nat.le_refl _)).2.2.2.2.2 (d + 973) (by omega) mi_87 (ps1 tp (mi 13)) (pdF tp (mi 13)).1 (pdF tp (mi 13)).2 0 hp2 htk2.1 ⟨Nat.zero_le _, Nat.zero_le _⟩ (Nat.zero_le _) hpd) (fun r_92 mi_92 h_92 => ?_)
  obtain ⟨rfl, hP, hP2, hP3⟩ := h_92
  refine r_if_eq (μ := mX12_parse) (pc := 95) (tgt := 109) dX12_parse_95 (by decide) (fun h_95 => ?_) (fun h_95 => ?_)
  · have h_95 := b2i_0 h_95
    refine r_iconst (μ := mX12_parse) (pc := 109) (v := 0) dX12_parse_109 ic_0 ?_
    refine s_istore_n (μ := mX12_parse) (pc := 110) (L2 := [_, _, _]) dX12_parse_110 rfl (Nat.le_of_ble_eq_true rfl) (Nat.le_of_ble_eq_true rfl) rfl rfl ?_
    refine r_aload_n (μ := mX12_parse) (pc := 111) dX12_parse_111 rfl rfl rfl ?_
    refine r_iconst (μ := mX12_parse) (pc := 112) (v := 0) dX12_parse_112 ic_0 ?_
    refine r_putI (μ := mX12_parse) (pc := 113) dX12_parse_113 fwX12_215 rfl (by decide) rfl ?_
    refine r_iload_n (μ := mX12_parse) (pc := 116) dX12_parse_116 rfl rfl ?_
    refine r_if_eq (μ := mX12_parse) (pc := 117) (tgt := 124) dX12_parse_117 (by decide) (fun h_117 => ?_) (fun h_117 => absurd rfl h_117)
    refine r_iconst (μ := mX12_parse) (pc := 124) (v := -1) dX12_parse_124 ic_m1 ?_
    exact r_iret (μ := mX12_parse) (pc := 125) dX12_parse_125 rfl rfl (PX_i ⟨by rw [if_neg (fun z => absurd (h_95.symm.trans z.1) (by decide))], by rw [up_ne (by decide)]; exact hP.2.2.2.1.1, by rw [upI_ne (by decide)]; exact hP.2.1, by rw [up_ne (by decide)]; exact hP.2.2.2.2.1.2.2.1, by rw [up_ne (by decide)]; exact hP.2.2.2.2.1.2.2.2, fun a h0 h1 => by rw [upI_ne h0]; exact hP.1 a h0 h1, up_eq, fun j hj => by rw [up_ne (by omega)]; exact hP.2.2.2.2.2 j hj⟩)
  · have h_95 := b2i_1 h_95
    refine r_aload_n (μ := mX12_parse) (pc := 98) dX12_parse_98 rfl rfl rfl ?_
    refine r_getI (μ := mX12_parse) (pc := 99) dX12_parse_99 fpX12_229 rfl rfl (by decide) ?_
    rw [hP.2.2.2.1.2.2.1]
    refine r_if_ne (μ := mX12_parse) (pc := 102) (tgt := 109) dX12_parse_102 (by decide) (fun h_102 => ?_) (fun h_102 => ?_)
    · refine r_iconst (μ := mX12_parse) (pc := 109) (v := 0) dX12_parse_109 ic_0 ?_
      refine s_istore_n (μ := mX12_parse) (pc := 110) (L2 := [_, _, _]) dX12_parse_110 rfl (Nat.le_of_ble_eq_true rfl) (Nat.le_of_ble_eq_true rfl) rfl rfl ?_
      refine r_aload_n (μ := mX12_parse) (pc := 111) dX12_parse_111 rfl rfl rfl ?_
      refine r_iconst (μ := mX12_parse) (pc := 112) (v := 0) dX12_parse_112 ic_0 ?_
      refine r_putI (μ := mX12_parse) (pc := 113) dX12_parse_113 fwX12_215 rfl (by decide) rfl ?_
      refine r_iload_n (μ := mX12_parse) (pc := 116) dX12_parse_116 rfl rfl ?_
      refine r_if_eq (μ := mX12_parse) (pc := 117) (tgt := 124) dX12_parse_117 (by decide) (fun h_117 => ?_) (fun h_117 => absurd rfl h_117)
      refine r_iconst (μ := mX12_parse) (pc := 124) (v := -1) dX12_parse_124 ic_m1 ?_
      exact r_iret (μ := mX12_parse) (pc := 125) dX12_parse_125 rfl rfl (PX_i ⟨by rw [if_neg (fun z => h_102 z.2)], by rw [up_ne (by decide)]; exact hP.2.2.2.1.1, by rw [upI_ne (by decide)]; exact hP.2.1, by rw [up_ne (by decide)]; exact hP.2.2.2.2.1.2.2.1, by rw [up_ne (by decide)]; exact hP.2.2.2.2.1.2.2.2, fun a h0 h1 => by rw [upI_ne h0]; exact hP.1 a h0 h1, up_eq, fun j hj => by rw [up_ne (by omega)]; exact hP.2.2.2.2.2 j hj⟩)
    · refine r_iconst (μ := mX12_parse) (pc := 105) (v := 1) dX12_parse_105 ic_1 ?_
      refine r_goto (μ := mX12_parse) (pc := 106) (tgt := 110) dX12_parse_106 (by decide) ?_
      refine s_istore_n (μ := mX12_parse) (pc := 110) (L2 := [_, _, _]) dX12_parse_110 rfl (Nat.le_of_ble_eq_true rfl) (Nat.le_of_ble_eq_true rfl) rfl rfl ?_
      refine r_aload_n (μ := mX12_parse) (pc := 111) dX12_parse_111 rfl rfl rfl ?_
      refine r_iconst (μ := mX12_parse) (pc := 112) (v := 0) dX12_parse_112 ic_0 ?_
      refine r_putI (μ := mX12_parse) (pc := 113) dX12_parse_113 fwX12_215 rfl (by decide) rfl ?_
      refine r_iload_n (μ := mX12_parse) (pc := 116) dX12_parse_116 rfl rfl ?_
      refine r_if_eq (μ := mX12_parse) (pc := 117) (tgt := 124) dX12_parse_117 (by decide) (fun h_117 => absurd h_117 (by decide)) (fun h_117 => ?_)
      refine r_iload_n (μ := mX12_parse) (pc := 120) dX12_parse_120 rfl rfl ?_
      refine r_goto (μ := mX12_parse) (pc := 121) (tgt := 125) dX12_parse_121 (by decide) ?_
      exact r_iret (μ := mX12_parse) (pc := 125) dX12_parse_125 rfl rfl (PX_i ⟨by rw [if_pos ⟨h_95, h_102⟩], by rw [up_ne (by decide)]; exact hP.2.2.2.1.1, by rw [upI_ne (by decide)]; exact hP.2.1, by rw [up_ne (by decide)]; exact hP.2.2.2.2.1.2.2.1, by rw [up_ne (by decide)]; exact hP.2.2.2.2.1.2.2.2, fun a h0 h1 => by rw [upI_ne h0]; exact hP.1 a h0 h1, up_eq, fun j hj => by rw [up_ne (by omega)]; exact hP.2.2.2.2.2 j hj⟩)

/-- one text more, in the model's row -/
def addT (s : Rw) (q : Nat) (key : Int32) (o : List Ste) (sd : Nat) : Rw := upd (upd (upd (upd (layR s (80 + 200 * q + 4) o) (80 + 200 * q + 0) key) (80 + 200 * q + 1) (nI sd)) (80 + 200 * q + 2) (nI o.length)) 3 (nI (q + 1))
def txOK (tp : Nat) (T : Rw) : Prop := ¬ kyP tp T = -1 ∧ (pdF tp T).1 = true ∧ Tok.k (PS.t (pdF tp T).2) = 0
def txAt (tp : Nat) (T : Rw) : Nat := if kyP tp T = -1 then Tok.b (tk1 tp T) else Tok.b (PS.t (pdF tp T).2)

theorem c_text_bad0 {d : Nat} {mi : MI} {mr : MR} (hM : MB mr) {tp q : Nat} (ht : mi 0 17 = nI tp) (h96 : tp ≤ 96) (hq : mi 1 3 = nI q) (hq14 : q ≤ 14) (hky : kyP tp (mi 13) = -1) : CP (d + 975) mX12_text [.ref 0] shM mi mr 0 0 (PX shM mr (fun r mi2 => r = -100 - nI (txAt tp (mi 13)) ∧ mi2 1 = mi 1 ∧ PrM mi mi2)) := by
  refine CP.of (L := [_, _, _]) (by decide) rfl rfl (Nat.le_of_ble_eq_true rfl) ?_
  refine r_aload_n (μ := mX12_text) (pc := 0) dX12_text_0 rfl rfl rfl ?_
  refine vX0 (μ := mX12_text) (pc := 1) (c0 := 12) (q0 := (RX12, TX12, 34)) (μ2 := mX12_parse) dX12_text_1 rfl rfl lkX12_302 imX12_parse seX12_X12_parse_X12_parse mwX12_parse (Nat.le_of_ble_eq_true rfl) (c_parse_no (d := d + 971) hM ht h96 hq hq14 hky) (fun r_1 mi_1 h_1 => ?_)
  obtain ⟨rfl, h18, h1, hPr⟩ := h_1
  refine s_istore_n (μ := mX12_text) (pc := 4) (L2 := [_, _, _]) dX12_text_4 rfl (Nat.le_of_ble_eq_true rfl) (Nat.le_of_ble_eq_true rfl) rfl rfl ?_
  refine r_iload_n (μ := mX12_text) (pc := 5) dX12_text_5 rfl rfl ?_
  refine r_if_ge (μ := mX12_text) (pc := 6) (tgt := 17) dX12_text_6 (by decide) (fun h_6 => absurd h_6 (by decide)) (fun h_6 => ?_)
  refine r_bipush (μ := mX12_text) (pc := 9) (v := -100) dX12_text_9 bp_m100 ?_
  refine r_aload_n (μ := mX12_text) (pc := 11) dX12_text_11 rfl rfl rfl ?_
  refine r_getI (μ := mX12_text) (pc := 12) dX12_text_12 fpX12_232 rfl rfl (by decide) ?_
  rw [h18]
  refine r_isub (μ := mX12_text) (pc := 15) dX12_text_15 ?_
  exact r_iret (μ := mX12_text) (pc := 16) dX12_text_16 rfl rfl (PX_i ⟨by unfold txAt; rw [if_pos hky], h1, hPr⟩)

theorem c_text_bad1 {d : Nat} {mi : MI} {mr : MR} (hM : MB mr) {tp q : Nat} (ht : mi 0 17 = nI tp) (h96 : tp ≤ 96) (hq : mi 1 3 = nI q) (hq14 : q ≤ 14) (hky : ¬ kyP tp (mi 13) = -1) (hno : ¬ ((pdF tp (mi 13)).1 = true ∧ Tok.k (PS.t (pdF tp (mi 13)).2) = 0)) : CP (d + 975) mX12_text [.ref 0] shM mi mr 0 0 (PX shM mr (fun r mi2 => r = -100 - nI (txAt tp (mi 13)) ∧ mi2 1 = layR (mi 1) (prAt q) (PS.o (pdF tp (mi 13)).2) ∧ PrM mi mi2)) := by
  refine CP.of (L := [_, _, _]) (by decide) rfl rfl (Nat.le_of_ble_eq_true rfl) ?_
  refine r_aload_n (μ := mX12_text) (pc := 0) dX12_text_0 rfl rfl rfl ?_
  refine vX0 (μ := mX12_text) (pc := 1) (c0 := 12) (q0 := (RX12, TX12, 34)) (μ2 := mX12_parse) dX12_text_1 rfl rfl lkX12_302 imX12_parse seX12_X12_parse_X12_parse mwX12_parse (Nat.le_of_ble_eq_true rfl) (c_parse_ky (d := d) hM ht h96 hq hq14 hky) (fun r_1 mi_1 h_1 => ?_)
  obtain ⟨rfl, h18, h1, h25, h27, hPr⟩ := h_1
  rw [if_neg hno]
  refine s_istore_n (μ := mX12_text) (pc := 4) (L2 := [_, _, _]) dX12_text_4 rfl (Nat.le_of_ble_eq_true rfl) (Nat.le_of_ble_eq_true rfl) rfl rfl ?_
  refine r_iload_n (μ := mX12_text) (pc := 5) dX12_text_5 rfl rfl ?_
  refine r_if_ge (μ := mX12_text) (pc := 6) (tgt := 17) dX12_text_6 (by decide) (fun h_6 => absurd h_6 (by decide)) (fun h_6 => ?_)
  refine r_bipush (μ := mX12_text) (pc := 9) (v := -100) dX12_text_9 bp_m100 ?_
  refine r_aload_n (μ := mX12_text) (pc := 11) dX12_text_11 rfl rfl rfl ?_
  refine r_getI (μ := mX12_text) (pc := 12) dX12_text_12 fpX12_232 rfl rfl (by decide) ?_
  rw [h18]
  refine r_isub (μ := mX12_text) (pc := 15) dX12_text_15 ?_
  exact r_iret (μ := mX12_text) (pc := 16) dX12_text_16 rfl rfl (PX_i ⟨by unfold txAt; rw [if_neg hky], h1, hPr⟩)

theorem c_text_full {d : Nat} {mi : MI} {mr : MR} (hM : MB mr) {tp q : Nat} (ht : mi 0 17 = nI tp) (h96 : tp ≤ 96) (hq : mi 1 3 = nI q) (hq14 : q ≤ 14) (hky : ¬ kyP tp (mi 13) = -1) (hok : (pdF tp (mi 13)).1 = true ∧ Tok.k (PS.t (pdF tp (mi 13)).2) = 0) (hq4 : q = 14) : CP (d + 975) mX12_text [.ref 0] shM mi mr 0 0 (PX shM mr (fun r mi2 => r = FULLc ∧ mi2 1 = layR (mi 1) (prAt q) (PS.o (pdF tp (mi 13)).2) ∧ PrM mi mi2)) := by
  have hk3 : kyP tp (mi 13) = 0 ∨ kyP tp (mi 13) = 1 ∨ kyP tp (mi 13) = 2 := (kyP_c tp (mi 13)).resolve_left hky
  have hk0 : 0 ≤ kyP tp (mi 13) := by rcases hk3 with z | z | z <;> rw [z] <;> decide
  have hl3 : ∀ o, layR (mi 1) (prAt q) o 3 = nI q := fun o => by unfold layR; rw [if_neg (by unfold prAt; split <;> omega)]; exact hq
  refine CP.of (L := [_, _, _]) (by decide) rfl rfl (Nat.le_of_ble_eq_true rfl) ?_
  refine r_aload_n (μ := mX12_text) (pc := 0) dX12_text_0 rfl rfl rfl ?_
  refine vX0 (μ := mX12_text) (pc := 1) (c0 := 12) (q0 := (RX12, TX12, 34)) (μ2 := mX12_parse) dX12_text_1 rfl rfl lkX12_302 imX12_parse seX12_X12_parse_X12_parse mwX12_parse (Nat.le_of_ble_eq_true rfl) (c_parse_ky (d := d) hM ht h96 hq hq14 hky) (fun r_1 mi_1 h_1 => ?_)
  obtain ⟨rfl, h18, h1, h25, h27, hPr⟩ := h_1
  rw [if_pos hok]
  refine s_istore_n (μ := mX12_text) (pc := 4) (L2 := [_, _, _]) dX12_text_4 rfl (Nat.le_of_ble_eq_true rfl) (Nat.le_of_ble_eq_true rfl) rfl rfl ?_
  refine r_iload_n (μ := mX12_text) (pc := 5) dX12_text_5 rfl rfl ?_
  refine r_if_ge (μ := mX12_text) (pc := 6) (tgt := 17) dX12_text_6 (by decide) (fun h_6 => ?_) (fun h_6 => absurd hk0 h_6)
  refine r_aload_n (μ := mX12_text) (pc := 17) dX12_text_17 rfl rfl rfl ?_
  refine r_getR (μ := mX12_text) (pc := 18) dX12_text_18 fpX12_7 rfl rfl (by decide) (hM _ _ rfl) ?_
  refine r_iconst (μ := mX12_text) (pc := 21) (v := 3) dX12_text_21 ic_3 ?_
  refine r_iaload (μ := mX12_text) (pc := 22) (j := 3) dX12_text_22 rfl rfl (by decide) (by decide) ?_
  rw [h1, hl3]
  refine r_bipush (μ := mX12_text) (pc := 23) (v := 14) dX12_text_23 bp_14 ?_
  refine r_icmp_ne (μ := mX12_text) (pc := 25) (tgt := 31) dX12_text_25 (by decide) (fun h_25 => absurd (by rw [hq4]; rfl) h_25) (fun h_25 => ?_)
  refine r_ldc (μ := mX12_text) (pc := 28) dX12_text_28 ctX12_79 ?_
  exact r_iret (μ := mX12_text) (pc := 30) dX12_text_30 rfl rfl (PX_i ⟨rfl, h1, hPr⟩)

theorem c_text {d : Nat} {mi : MI} {mr : MR} (hM : MB mr) {tp q : Nat} (ht : mi 0 17 = nI tp) (h96 : tp ≤ 96) (hq : mi 1 3 = nI q) (hq14 : q ≤ 14) (hky : ¬ kyP tp (mi 13) = -1) (hok : (pdF tp (mi 13)).1 = true ∧ Tok.k (PS.t (pdF tp (mi 13)).2) = 0) (hq4 : q < 14) : CP (d + 975) mX12_text [.ref 0] shM mi mr 0 0 (PX shM mr (fun r mi2 => r = nI q ∧ mi2 1 = addT (mi 1) q (kyP tp (mi 13)) (PS.o (pdF tp (mi 13)).2) (PS.sd (pdF tp (mi 13)).2) ∧ PrM mi mi2)) := by
  have hk3 : kyP tp (mi 13) = 0 ∨ kyP tp (mi 13) = 1 ∨ kyP tp (mi 13) = 2 := (kyP_c tp (mi 13)).resolve_left hky
  have hk0 : 0 ≤ kyP tp (mi 13) := by rcases hk3 with z | z | z <;> rw [z] <;> decide
  have hl3 : ∀ o, layR (mi 1) (prAt q) o 3 = nI q := fun o => by unfold layR; rw [if_neg (by unfold prAt; split <;> omega)]; exact hq
  have epa : prAt q = 80 + 200 * q + 4 := by unfold prAt; rw [if_pos hq4]
  refine CP.of (L := [_, _, _]) (by decide) rfl rfl (Nat.le_of_ble_eq_true rfl) ?_
  refine r_aload_n (μ := mX12_text) (pc := 0) dX12_text_0 rfl rfl rfl ?_
  refine vX0 (μ := mX12_text) (pc := 1) (c0 := 12) (q0 := (RX12, TX12, 34)) (μ2 := mX12_parse) dX12_text_1 rfl rfl lkX12_302 imX12_parse seX12_X12_parse_X12_parse mwX12_parse (Nat.le_of_ble_eq_true rfl) (c_parse_ky (d := d) hM ht h96 hq hq14 hky) (fun r_1 mi_1 h_1 => ?_)
  obtain ⟨rfl, h18, h1, h25, h27, hPr⟩ := h_1
  rw [if_pos hok]
  refine s_istore_n (μ := mX12_text) (pc := 4) (L2 := [_, _, _]) dX12_text_4 rfl (Nat.le_of_ble_eq_true rfl) (Nat.le_of_ble_eq_true rfl) rfl rfl ?_
  refine r_iload_n (μ := mX12_text) (pc := 5) dX12_text_5 rfl rfl ?_
  refine r_if_ge (μ := mX12_text) (pc := 6) (tgt := 17) dX12_text_6 (by decide) (fun h_6 => ?_) (fun h_6 => absurd hk0 h_6)
  refine r_aload_n (μ := mX12_text) (pc := 17) dX12_text_17 rfl rfl rfl ?_
  refine r_getR (μ := mX12_text) (pc := 18) dX12_text_18 fpX12_7 rfl rfl (by decide) (hM _ _ rfl) ?_
  refine r_iconst (μ := mX12_text) (pc := 21) (v := 3) dX12_text_21 ic_3 ?_
  refine r_iaload (μ := mX12_text) (pc := 22) (j := 3) dX12_text_22 rfl rfl (by decide) (by decide) ?_
  rw [h1, hl3]
  refine r_bipush (μ := mX12_text) (pc := 23) (v := 14) dX12_text_23 bp_14 ?_
  refine r_icmp_ne (μ := mX12_text) (pc := 25) (tgt := 31) dX12_text_25 (by decide) (fun h_25 => ?_) (fun h_25 => absurd h_25 (fun z => absurd ((nI_eq (a := q) (b := 14) (by omega) (by decide)).mp z) (by omega)))
  refine r_aload_n (μ := mX12_text) (pc := 31) dX12_text_31 rfl rfl rfl ?_
  refine r_aload_n (μ := mX12_text) (pc := 32) dX12_text_32 rfl rfl rfl ?_
  refine r_getR (μ := mX12_text) (pc := 33) dX12_text_33 fpX12_7 rfl rfl (by decide) (hM _ _ rfl) ?_
  refine r_iconst (μ := mX12_text) (pc := 36) (v := 3) dX12_text_36 ic_3 ?_
  refine r_iaload (μ := mX12_text) (pc := 37) (j := 3) dX12_text_37 rfl rfl (by decide) (by decide) ?_
  rw [h1, hl3]
  refine vP1 (μ := mX12_text) (pc := 38) (c0 := 12) (q0 := (RX12, TX12, 34)) (μ2 := mX12_textAt) dX12_text_38 rfl rfl lkX12_296 imX12_textAt seX12_X12_textAt_X12_textAt mwX12_textAt (Nat.le_of_ble_eq_true rfl) c_textAt ?_
  refine s_istore_n (μ := mX12_text) (pc := 41) (L2 := [_, _, _]) dX12_text_41 rfl (Nat.le_of_ble_eq_true rfl) (Nat.le_of_ble_eq_true rfl) rfl rfl ?_
  refine r_aload_n (μ := mX12_text) (pc := 42) dX12_text_42 rfl rfl rfl ?_
  refine r_getR (μ := mX12_text) (pc := 43) dX12_text_43 fpX12_7 rfl rfl (by decide) (hM _ _ rfl) ?_
  refine r_iload_n (μ := mX12_text) (pc := 46) dX12_text_46 rfl rfl ?_
  refine r_iconst (μ := mX12_text) (pc := 47) (v := 0) dX12_text_47 ic_0 ?_
  refine r_iadd (μ := mX12_text) (pc := 48) dX12_text_48 ?_
  refine r_iload_n (μ := mX12_text) (pc := 49) dX12_text_49 rfl rfl ?_
  refine r_iastore (μ := mX12_text) (pc := 50) (j := 80 + 200 * q + 0) dX12_text_50 rfl (nI_add (80 + 200 * q) 0) (by omega) (by decide) ?_
  refine r_aload_n (μ := mX12_text) (pc := 51) dX12_text_51 rfl rfl rfl ?_
  refine r_getR (μ := mX12_text) (pc := 52) dX12_text_52 fpX12_7 rfl rfl (by decide) (hM _ _ rfl) ?_
  refine r_iload_n (μ := mX12_text) (pc := 55) dX12_text_55 rfl rfl ?_
  refine r_iconst (μ := mX12_text) (pc := 56) (v := 1) dX12_text_56 ic_1 ?_
  refine r_iadd (μ := mX12_text) (pc := 57) dX12_text_57 ?_
  refine r_aload_n (μ := mX12_text) (pc := 58) dX12_text_58 rfl rfl rfl ?_
  refine r_getI (μ := mX12_text) (pc := 59) dX12_text_59 fpX12_281 rfl rfl (by decide) ?_
  rw [upI_ne (by decide), h27]
  refine r_iastore (μ := mX12_text) (pc := 62) (j := 80 + 200 * q + 1) dX12_text_62 rfl (nI_add (80 + 200 * q) 1) (by omega) (by decide) ?_
  refine r_aload_n (μ := mX12_text) (pc := 63) dX12_text_63 rfl rfl rfl ?_
  refine r_getR (μ := mX12_text) (pc := 64) dX12_text_64 fpX12_7 rfl rfl (by decide) (hM _ _ rfl) ?_
  refine r_iload_n (μ := mX12_text) (pc := 67) dX12_text_67 rfl rfl ?_
  refine r_iconst (μ := mX12_text) (pc := 68) (v := 2) dX12_text_68 ic_2 ?_
  refine r_iadd (μ := mX12_text) (pc := 69) dX12_text_69 ?_
  refine r_aload_n (μ := mX12_text) (pc := 70) dX12_text_70 rfl rfl rfl ?_
  refine r_getI (μ := mX12_text) (pc := 71) dX12_text_71 fpX12_254 rfl rfl (by decide) ?_
  rw [upI_ne (by decide), upI_ne (by decide), h25]
  refine r_iastore (μ := mX12_text) (pc := 74) (j := 80 + 200 * q + 2) dX12_text_74 rfl (nI_add (80 + 200 * q) 2) (by omega) (by decide) ?_
  refine r_aload_n (μ := mX12_text) (pc := 75) dX12_text_75 rfl rfl rfl ?_
  refine r_getR (μ := mX12_text) (pc := 76) dX12_text_76 fpX12_7 rfl rfl (by decide) (hM _ _ rfl) ?_
  refine r_iconst (μ := mX12_text) (pc := 79) (v := 3) dX12_text_79 ic_3 ?_
  refine r_dup2 (μ := mX12_text) (pc := 80) dX12_text_80 rfl rfl ?_
  refine r_iaload (μ := mX12_text) (pc := 81) (j := 3) dX12_text_81 rfl rfl (by decide) (by decide) ?_
  rw [up_ne (by omega), up_ne (by omega), up_ne (by omega), h1, hl3]
  refine r_iconst (μ := mX12_text) (pc := 82) (v := 1) dX12_text_82 ic_1 ?_
  refine r_iadd (μ := mX12_text) (pc := 83) dX12_text_83 ?_
  rw [show nI q + 1 = nI (q + 1) from (nI_succ q).symm]
  refine r_iastore (μ := mX12_text) (pc := 84) (j := 3) dX12_text_84 rfl rfl (by decide) (by decide) ?_
  refine r_aload_n (μ := mX12_text) (pc := 85) dX12_text_85 rfl rfl rfl ?_
  refine r_getR (μ := mX12_text) (pc := 86) dX12_text_86 fpX12_7 rfl rfl (by decide) (hM _ _ rfl) ?_
  refine r_iconst (μ := mX12_text) (pc := 89) (v := 3) dX12_text_89 ic_3 ?_
  refine r_iaload (μ := mX12_text) (pc := 90) (j := 3) dX12_text_90 rfl rfl (by decide) (by decide) ?_
  rw [up_eq]
  refine r_iconst (μ := mX12_text) (pc := 91) (v := 1) dX12_text_91 ic_1 ?_
  refine r_isub (μ := mX12_text) (pc := 92) dX12_text_92 ?_
  rw [nI_pred]
  exact r_iret (μ := mX12_text) (pc := 93) dX12_text_93 rfl rfl (PX_i ⟨rfl, by rw [upI_self, upI_self, upI_self, upI_self, h1, epa]; rfl, fun a h0 h1 => by rw [upI_ne h1, upI_ne h1, upI_ne h1, upI_ne h1]; exact hPr.1 a h0 h1, by rw [upI_ne (by decide), upI_ne (by decide), upI_ne (by decide), upI_ne (by decide)]; exact hPr.2.1, fun j hj => by rw [upI_ne (by decide), upI_ne (by decide), upI_ne (by decide), upI_ne (by decide)]; exact hPr.2.2 j hj⟩)

