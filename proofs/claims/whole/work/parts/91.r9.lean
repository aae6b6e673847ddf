theorem WP.sb {d : Nat} {μ : Mt} {pc : Nat} {L S : List Value} {sh : List Sh} {mi : MI} {mr : MR} {cb sb sb2 : Nat} {Q : QT} (h : sb = sb2) (k : WP d μ pc L S sh mi mr cb sb2 Q) : WP d μ pc L S sh mi mr cb sb Q := h ▸ k
theorem sA2 {d : Nat} {μ μ2 : Mt} {pc : Nat} {L S : List Value} {sh : List Sh} {mi : MI} {mr : MR} {cb sb idx mc2 ms2 : Nat} {Q : QT} {x v1 v2 : Value} {sh2 : List Sh} {mi2 : MI} {mr2 : MR} (hd : decode μ.2.1 pc = .ok (.invokestatic idx, 3)) (hl2 : Cond.methodLink μ.1.cls idx μ2.1 ∈ lw_tbl) (hst : Cond.static μ2.1 ∈ lw_tbl) (hmw : MW μ2 2) (hS8 : (S.map c12).sum ≤ 8) (hcp : CP d μ2 [v1, v2] sh mi mr mc2 ms2 (PR x sh2 mi2 mr2)) (k : WP (d + 1) μ (pc + 3) L (x :: S) sh2 mi2 mr2 cb sb Q) : WP (d + 1) μ pc L (v2 :: v1 :: S) sh mi mr (cb + mc2) (sb + ms2) Q :=
  r_static (as := [v1, v2]) hd rfl hl2 hst hcp hmw hS8 (by rintro v sh2 mi2 mr2 ⟨rfl, rfl, rfl, rfl⟩; exact k)
theorem iA3 {d : Nat} {μ μ2 : Mt} {pc : Nat} {L S : List Value} {sh : List Sh} {mi : MI} {mr : MR} {cb sb idx mc2 ms2 : Nat} {Q : QT} {a : Nat} {v1 v2 v3 : Value} {f : List Sh → MI → MR → Prop} (hd : decode μ.2.1 pc = .ok (.invokespecial idx, 3)) (hnm2 : μ2.1.name = "<init>") (hrt : μ2.2.2.2 = none) (hl2 : Cond.methodLink μ.1.cls idx μ2.1 ∈ lw_tbl) (hi2 : Cond.instanceMethod μ2.1 ∈ lw_tbl) (hmw : MW μ2 3) (hS8 : (S.map c12).sum ≤ 8) (hcp : CP d μ2 [.ref a, v1, v2, v3] sh mi mr mc2 ms2 (PW f)) (k : ∀ (sh2 : List Sh) (mi2 : MI) (mr2 : MR), f sh2 mi2 mr2 → WP (d + 1) μ (pc + 3) L S sh2 mi2 mr2 cb sb Q) : WP (d + 1) μ pc L (v3 :: v2 :: v1 :: .ref a :: S) sh mi mr (cb + mc2) (sb + ms2) Q :=
  r_init (as := [v1, v2, v3]) hd rfl hnm2 hrt hl2 hi2 hcp hmw hS8 (by rintro v sh2 mi2 mr2 ⟨rfl, h9⟩; exact k sh2 mi2 mr2 h9)
theorem sh_l {sh : List Sh} {a : Nat} {x y : Sh} (h : sh[a]? = some x) : (sh ++ [y])[a]? = some x := by
  rw [List.getElem?_append_left (List.getElem?_eq_some_iff.mp h).1]; exact h
theorem sh_n {sh : List Sh} {y : Sh} : (sh ++ [y])[sh.length]? = some y := List.getElem?_concat_length
theorem SHC.l {sh : List Sh} (h : SHC sh) (y : Sh) : SHC (sh ++ [y]) := fun k x hx => sh_l (h k x hx)
theorem SHC.n {sh : List Sh} (h : SHC sh) : 76 ≤ sh.length := (List.getElem?_eq_some_iff.mp (h 75 _ rfl)).1
theorem ctab_lt {a k b : Nat} (h : ctab a k = some b) : a < 76 := by
  rcases Nat.lt_or_ge a 76 with z | z
  · exact z
  · obtain ⟨j, rfl⟩ : ∃ j, a = j + 76 := ⟨a - 76, by omega⟩
    cases h
theorem CB.z {mr : MR} (h : CB mr) {n : Nat} (hn : 76 ≤ n) : CB (zR mr n) := fun a k b hx => by
  have := ctab_lt hx
  rw [zR_ne (by omega)]; exact h a k b hx

theorem k_copyOf {d : Nat} {sh : List Sh} {mi : MI} {mr : MR} {a n : Nat} (h : sh[a]? = some (0, 96)) (hn : n < 96) : CP d mJ7_copyOf_59c91 [.ref a, .int (nI n)] sh mi mr (0 + 1) (0 + n) (PR (.ref sh.length) (sh ++ [(0, n)]) (cpI (zI mi sh.length) a sh.length 0 0 n) (zR mr sh.length)) := by
  refine CP.of (L := [_, _, _]) (by decide) rfl rfl (Nat.le_of_ble_eq_true rfl) ?_
  refine r_iload_n (μ := mJ7_copyOf_59c91) (pc := 0) dJ7_copyOf_59c91_0 rfl rfl ?_
  refine r_aload_n (μ := mJ7_copyOf_59c91) (pc := 1) dJ7_copyOf_59c91_1 rfl rfl rfl ?_
  refine r_alen (μ := mJ7_copyOf_59c91) (pc := 2) dJ7_copyOf_59c91_2 (by decide) h ?_
  refine r_icmp_ne (μ := mJ7_copyOf_59c91) (pc := 3) (tgt := 14) dJ7_copyOf_59c91_3 (by decide) (fun h_3 => ?_) (fun h_3 => absurd h_3 (fun z => absurd ((nI_eq (b := 96) (by omega) (by decide)).mp z) (by omega)))
  refine r_iload_n (μ := mJ7_copyOf_59c91) (pc := 14) dJ7_copyOf_59c91_14 rfl rfl ?_
  refine r_newi (μ := mJ7_copyOf_59c91) (pc := 15) (N := n) dJ7_copyOf_59c91_15 ac_int rfl (by omega) ?_
  refine s_astore_n (μ := mJ7_copyOf_59c91) (pc := 17) (L2 := [_, _, _]) dJ7_copyOf_59c91_17 rfl (Nat.le_of_ble_eq_true rfl) (Nat.le_of_ble_eq_true rfl) rfl rfl ?_
  refine r_aload_n (μ := mJ7_copyOf_59c91) (pc := 18) dJ7_copyOf_59c91_18 rfl rfl rfl ?_
  refine r_iconst (μ := mJ7_copyOf_59c91) (pc := 19) (v := 0) dJ7_copyOf_59c91_19 ic_0 ?_
  refine r_aload_n (μ := mJ7_copyOf_59c91) (pc := 20) dJ7_copyOf_59c91_20 rfl rfl rfl ?_
  refine r_iconst (μ := mJ7_copyOf_59c91) (pc := 21) (v := 0) dJ7_copyOf_59c91_21 ic_0 ?_
  refine r_aload_n (μ := mJ7_copyOf_59c91) (pc := 22) dJ7_copyOf_59c91_22 rfl rfl rfl ?_
  refine r_alen (μ := mJ7_copyOf_59c91) (pc := 23) dJ7_copyOf_59c91_23 (by decide) (sh_l h) ?_
  refine r_iload_n (μ := mJ7_copyOf_59c91) (pc := 24) dJ7_copyOf_59c91_24 rfl rfl ?_
  refine r_mmin (μ := mJ7_copyOf_59c91) (pc := 25) dJ7_copyOf_59c91_25 lkJ7_304 (Nat.le_of_ble_eq_true rfl) ?_
  rw [show mnI (nI 96) (nI n) = nI n from if_pos (nI_lt (b := 96) hn (by decide))]
  refine r_copy (μ := mJ7_copyOf_59c91) (pc := 28) (sp := 0) (dp := 0) (n := n) dJ7_copyOf_59c91_28 lkJ7_150 (sh_l h) sh_n rfl rfl rfl (by omega) (by omega) (by omega) (by omega) (Nat.le_of_ble_eq_true rfl) ?_
  refine r_aload_n (μ := mJ7_copyOf_59c91) (pc := 31) dJ7_copyOf_59c91_31 rfl rfl rfl ?_
  exact r_aret (μ := mJ7_copyOf_59c91) (pc := 32) dJ7_copyOf_59c91_32 rfl (Or.inr ⟨_, rfl⟩) rfl (PR_i rfl)

theorem k_txInit {d : Nat} {sh : List Sh} {mi : MI} {mr : MR} {a c : Nat} {x y : Int32} (h : sh[a]? = some (12, 3)) : CP d mX8_init [.ref a, .int x, .int y, .ref c] sh mi mr 0 0 (PW (fun sh2 mi2 mr2 => sh2 = sh ∧ mi2 = upI (upI mi a 0 x) a 1 y ∧ mr2 = upR mr a 2 (some c))) := by
  refine CP.of (L := [_, _, _, _]) (by decide) rfl rfl (Nat.le_of_ble_eq_true rfl) ?_
  refine r_aload_n (μ := mX8_init) (pc := 0) dX8_init_0 rfl rfl rfl ?_
  refine r_obj (μ := mX8_init) (pc := 1) dX8_init_1 lkX8_1 im_obj cd_obj (Nat.le_of_ble_eq_true rfl) ?_
  refine r_aload_n (μ := mX8_init) (pc := 4) dX8_init_4 rfl rfl rfl ?_
  refine r_iload_n (μ := mX8_init) (pc := 5) dX8_init_5 rfl rfl ?_
  refine r_putI (μ := mX8_init) (pc := 6) dX8_init_6 fwX8_7 h (by decide) rfl ?_
  refine r_aload_n (μ := mX8_init) (pc := 9) dX8_init_9 rfl rfl rfl ?_
  refine r_iload_n (μ := mX8_init) (pc := 10) dX8_init_10 rfl rfl ?_
  refine r_putI (μ := mX8_init) (pc := 11) dX8_init_11 fwX8_13 h (by decide) rfl ?_
  refine r_aload_n (μ := mX8_init) (pc := 14) dX8_init_14 rfl rfl rfl ?_
  refine r_aload_n (μ := mX8_init) (pc := 15) dX8_init_15 rfl rfl rfl ?_
  refine r_putR (μ := mX8_init) (pc := 16) dX8_init_16 fwX8_16 h (by decide) rfl ?_
  exact r_vret (μ := mX8_init) (pc := 19) dX8_init_19 rfl ⟨rfl, rfl, rfl, rfl⟩

theorem runE_stop {P : Nat → Bool} (hP : ∀ x, P x = true → x < 96) : ∀ f b, 96 ≤ b + f → P (runE P f b) = false
  | 0, b, h => by
    cases hp : P b with
    | true => have := hP b hp; omega
    | false => exact hp
  | f + 1, b, h => by
    unfold runE
    split
    · exact runE_stop hP f (b + 1) (by omega)
    · rename_i hp
      simpa using hp
theorem rnE_stop {P : Nat → Bool} (hP : ∀ x, P x = true → x < 96) (b : Nat) : P (rnE P b) = false := runE_stop hP (96 - b) b (by omega)
theorem ky_e {tp : Nat} {T : Rw} (h96 : tp ≤ 96) (hk : ¬ kyP tp T = -1) : Tok.k (tk1 tp T) = 1 ∧ 4 ≤ Tok.e (tk1 tp T) ∧ Tok.e (tk1 tp T) ≤ tp ∧ ltB tp T (Tok.e (tk1 tp T)) = false ∧ ∃ kt, kt < 3 ∧ kyP tp T = nI kt := by
  obtain ⟨c, hct⟩ : ∃ c, rnE (blB tp T) 0 = c := ⟨_, rfl⟩
  have hctp := (rnE_le blB_lt (Nat.zero_le tp) : _ ∧ rnE (blB tp T) 0 ≤ tp)
  rw [hct] at hctp
  have hc : c < tp := by
    rcases Nat.lt_or_ge c tp with z | z
    · exact z
    · exact absurd (ky_end hct (by omega)) hk
  obtain ⟨e1, e2, e3⟩ := ky_lt hc hct hk
  have hwd : wdE tp T c = rnE (ltB tp T) c := by unfold wdE; rw [e2]; rfl
  have hte := (nxT_ok (T := T) (k := 3) h96 (Nat.zero_le tp)).1.2.1
  have hte : Tok.e (tk1 tp T) ≤ tp := hte
  refine ⟨by rw [e1]; rfl, ?_, hte, ?_, ?_⟩
  · rw [e1]; show 4 ≤ wdE tp T c; omega
  · rw [e1]; show ltB tp T (wdE tp T c) = false; rw [hwd]; exact rnE_stop (fun x hx => by have := ltB_lt x hx; omega) c
  · rcases (kyP_c tp T).resolve_left hk with z | z | z
    · exact ⟨0, by decide, z⟩
    · exact ⟨1, by decide, z⟩
    · exact ⟨2, by decide, z⟩
theorem rd_go {tp : Nat} {T : Rw} (h96 : tp ≤ 96) (hk : ¬ kyP tp T = -1) : Rn tp T (kyP tp T) true (nxT tp T (Tok.e (tk1 tp T)) 1) [] [] 0 (if (pdF tp T).1 = true ∧ Tok.k (PS.t (pdF tp T).2) = 0 then .inr (outP (kyP tp T) (pdF tp T).2, PS.sd (pdF tp T).2) else .inl (Tok.b (PS.t (pdF tp T).2))) := by
  have h := rd_top (f := 970) (p := ps1 tp T) (ok := (pdF tp T).1) (p2 := (pdF tp T).2) (key := kyP tp T) (T := T) (tp := tp) (pdF_e h96) rfl rfl rfl rfl
  rw [show PS.t (ps1 tp T) = nxT tp T (Tok.e (tk1 tp T)) 1 from by show nxT tp T (Tok.e (tk1 tp T)) (Tok.k (tk1 tp T)) = _; rw [(ky_e h96 hk).1]] at h
  exact h

theorem k_readText_no0 {d : Nat} {sh : List Sh} {mi : MI} {mr : MR} (hF : SHC sh) (hB : CB mr) {tp : Nat} (h1 : mi 48 1 = nI tp) (h96 : tp ≤ 96) (hky : kyP tp (mi 49) = -1) : CP (d + 8) mX5_readText [.ref 48] sh mi mr 2 99 (fun v sh2 mi2 mr2 => v = some .null ∧ sh2 = sh ∧ mr2 = mr ∧ RFl mi mi2 (txAt tp (mi 49))) := by
  have h49 : (upI (upI (upI (upI (upI (upI (upI (upI (upI mi 48 3 (nI tp)) 48 1 0) 48 2 0) 48 6 1) 48 8 0) 48 9 0) 48 11 0) 48 12 0) 48 13 0) 49 = mi 49 := by rw [u4948, u4948, u4948, u4948, u4948, u4948, u4948, u4948, u4948]
  refine CP.of (L := [_]) (by decide) rfl rfl (Nat.le_of_ble_eq_true rfl) ?_
  refine r_aload_n (μ := mX5_readText) (pc := 0) dX5_readText_0 rfl rfl rfl ?_
  refine r_aload_n (μ := mX5_readText) (pc := 1) dX5_readText_1 rfl rfl rfl ?_
  refine r_getI (μ := mX5_readText) (pc := 2) dX5_readText_2 fpX5_15 rfl (hF _ _ rfl) (by decide) ?_
  rw [h1]
  refine r_putI (μ := mX5_readText) (pc := 5) dX5_readText_5 fwX5_22 (hF _ _ rfl) (by decide) rfl ?_
  refine r_aload_n (μ := mX5_readText) (pc := 8) dX5_readText_8 rfl rfl rfl ?_
  refine r_iconst (μ := mX5_readText) (pc := 9) (v := 0) dX5_readText_9 ic_0 ?_
  refine r_putI (μ := mX5_readText) (pc := 10) dX5_readText_10 fwX5_15 (hF _ _ rfl) (by decide) rfl ?_
  refine r_aload_n (μ := mX5_readText) (pc := 13) dX5_readText_13 rfl rfl rfl ?_
  refine r_iconst (μ := mX5_readText) (pc := 14) (v := 0) dX5_readText_14 ic_0 ?_
  refine r_putI (μ := mX5_readText) (pc := 15) dX5_readText_15 fwX5_19 (hF _ _ rfl) (by decide) rfl ?_
  refine r_aload_n (μ := mX5_readText) (pc := 18) dX5_readText_18 rfl rfl rfl ?_
  refine r_iconst (μ := mX5_readText) (pc := 19) (v := 1) dX5_readText_19 ic_1 ?_
  refine r_putZ (μ := mX5_readText) (pc := 20) dX5_readText_20 fwX5_31 (hF _ _ rfl) (by decide) rfl rfl rfl ?_
  refine r_aload_n (μ := mX5_readText) (pc := 23) dX5_readText_23 rfl rfl rfl ?_
  refine r_iconst (μ := mX5_readText) (pc := 24) (v := 0) dX5_readText_24 ic_0 ?_
  refine r_putI (μ := mX5_readText) (pc := 25) dX5_readText_25 fwX5_38 (hF _ _ rfl) (by decide) rfl ?_
  refine r_aload_n (μ := mX5_readText) (pc := 28) dX5_readText_28 rfl rfl rfl ?_
  refine r_iconst (μ := mX5_readText) (pc := 29) (v := 0) dX5_readText_29 ic_0 ?_
  refine r_putI (μ := mX5_readText) (pc := 30) dX5_readText_30 fwX5_41 (hF _ _ rfl) (by decide) rfl ?_
  refine r_aload_n (μ := mX5_readText) (pc := 33) dX5_readText_33 rfl rfl rfl ?_
  refine r_iconst (μ := mX5_readText) (pc := 34) (v := 0) dX5_readText_34 ic_0 ?_
  refine r_putI (μ := mX5_readText) (pc := 35) dX5_readText_35 fwX5_47 (hF _ _ rfl) (by decide) rfl ?_
  refine r_aload_n (μ := mX5_readText) (pc := 38) dX5_readText_38 rfl rfl rfl ?_
  refine r_iconst (μ := mX5_readText) (pc := 39) (v := 0) dX5_readText_39 ic_0 ?_
  refine r_putI (μ := mX5_readText) (pc := 40) dX5_readText_40 fwX5_50 (hF _ _ rfl) (by decide) rfl ?_
  refine r_aload_n (μ := mX5_readText) (pc := 43) dX5_readText_43 rfl rfl rfl ?_
  refine r_iconst (μ := mX5_readText) (pc := 44) (v := 0) dX5_readText_44 ic_0 ?_
  refine r_putI (μ := mX5_readText) (pc := 45) dX5_readText_45 fwX5_53 (hF _ _ rfl) (by decide) rfl ?_
  refine r_aload_n (μ := mX5_readText) (pc := 48) dX5_readText_48 rfl rfl rfl ?_
  refine vX0 (μ := mX5_readText) (pc := 49) (c0 := 5) (q0 := (RX5, TX5, 14)) (μ2 := mX5_readKey) dX5_readText_49 (hF _ _ rfl) rfl lkX5_56 imX5_readKey seX5_X5_readKey_X5_readKey mwX5_readKey (Nat.le_of_ble_eq_true rfl) (k_readKey (d := d + 2) hF hB (tp := tp) (by simp [upF]) h96 (by simp [upF]; rfl)) (fun r_49 mi_49 h_49 => ?_)
  rw [h49] at h_49
  obtain ⟨k1, k2, k3, k4⟩ := h_49
  refine r_if_eq (μ := mX5_readText) (pc := 52) (tgt := 62) dX5_readText_52 (by decide) (fun h_52 => ?_) (fun h_52 => absurd (k3 hky).1 h_52)
  refine r_null (μ := mX5_readText) (pc := 62) dX5_readText_62 ?_
  exact r_aret (μ := mX5_readText) (pc := 63) dX5_readText_63 rfl (Or.inl ⟨_, rfl⟩) rfl ⟨rfl, rfl, rfl, fun a x _ _ => by rw [k1 a x]; simp only [upI_ne x], by rw [k2 1 (by decide) (by decide) (by decide)]; simp [upF], by rw [(k3 hky).2]; unfold txAt; rw [if_pos hky]⟩

theorem k_readText_no1 {d : Nat} {sh : List Sh} {mi : MI} {mr : MR} (hF : SHC sh) (hB : CB mr) {tp : Nat} (h1 : mi 48 1 = nI tp) (h96 : tp ≤ 96) (hky : ¬ kyP tp (mi 49) = -1) (hno : ¬ ((pdF tp (mi 49)).1 = true ∧ Tok.k (PS.t (pdF tp (mi 49)).2) = 0)) : CP (d + 8) mX5_readText [.ref 48] sh mi mr 2 99 (fun v sh2 mi2 mr2 => v = some .null ∧ sh2 = sh ∧ mr2 = mr ∧ RFl mi mi2 (txAt tp (mi 49))) := by
  have h49 : (upI (upI (upI (upI (upI (upI (upI (upI (upI mi 48 3 (nI tp)) 48 1 0) 48 2 0) 48 6 1) 48 8 0) 48 9 0) 48 11 0) 48 12 0) 48 13 0) 49 = mi 49 := by rw [u4948, u4948, u4948, u4948, u4948, u4948, u4948, u4948, u4948]
  refine CP.of (L := [_]) (by decide) rfl rfl (Nat.le_of_ble_eq_true rfl) ?_
  refine r_aload_n (μ := mX5_readText) (pc := 0) dX5_readText_0 rfl rfl rfl ?_
  refine r_aload_n (μ := mX5_readText) (pc := 1) dX5_readText_1 rfl rfl rfl ?_
  refine r_getI (μ := mX5_readText) (pc := 2) dX5_readText_2 fpX5_15 rfl (hF _ _ rfl) (by decide) ?_
  rw [h1]
  refine r_putI (μ := mX5_readText) (pc := 5) dX5_readText_5 fwX5_22 (hF _ _ rfl) (by decide) rfl ?_
  refine r_aload_n (μ := mX5_readText) (pc := 8) dX5_readText_8 rfl rfl rfl ?_
  refine r_iconst (μ := mX5_readText) (pc := 9) (v := 0) dX5_readText_9 ic_0 ?_
  refine r_putI (μ := mX5_readText) (pc := 10) dX5_readText_10 fwX5_15 (hF _ _ rfl) (by decide) rfl ?_
  refine r_aload_n (μ := mX5_readText) (pc := 13) dX5_readText_13 rfl rfl rfl ?_
  refine r_iconst (μ := mX5_readText) (pc := 14) (v := 0) dX5_readText_14 ic_0 ?_
  refine r_putI (μ := mX5_readText) (pc := 15) dX5_readText_15 fwX5_19 (hF _ _ rfl) (by decide) rfl ?_
  refine r_aload_n (μ := mX5_readText) (pc := 18) dX5_readText_18 rfl rfl rfl ?_
  refine r_iconst (μ := mX5_readText) (pc := 19) (v := 1) dX5_readText_19 ic_1 ?_
  refine r_putZ (μ := mX5_readText) (pc := 20) dX5_readText_20 fwX5_31 (hF _ _ rfl) (by decide) rfl rfl rfl ?_
  refine r_aload_n (μ := mX5_readText) (pc := 23) dX5_readText_23 rfl rfl rfl ?_
  refine r_iconst (μ := mX5_readText) (pc := 24) (v := 0) dX5_readText_24 ic_0 ?_
  refine r_putI (μ := mX5_readText) (pc := 25) dX5_readText_25 fwX5_38 (hF _ _ rfl) (by decide) rfl ?_
  refine r_aload_n (μ := mX5_readText) (pc := 28) dX5_readText_28 rfl rfl rfl ?_
  refine r_iconst (μ := mX5_readText) (pc := 29) (v := 0) dX5_readText_29 ic_0 ?_
  refine r_putI (μ := mX5_readText) (pc := 30) dX5_readText_30 fwX5_41 (hF _ _ rfl) (by decide) rfl ?_
  refine r_aload_n (μ := mX5_readText) (pc := 33) dX5_readText_33 rfl rfl rfl ?_
  refine r_iconst (μ := mX5_readText) (pc := 34) (v := 0) dX5_readText_34 ic_0 ?_
  refine r_putI (μ := mX5_readText) (pc := 35) dX5_readText_35 fwX5_47 (hF _ _ rfl) (by decide) rfl ?_
  refine r_aload_n (μ := mX5_readText) (pc := 38) dX5_readText_38 rfl rfl rfl ?_
  refine r_iconst (μ := mX5_readText) (pc := 39) (v := 0) dX5_readText_39 ic_0 ?_
  refine r_putI (μ := mX5_readText) (pc := 40) dX5_readText_40 fwX5_50 (hF _ _ rfl) (by decide) rfl ?_
  refine r_aload_n (μ := mX5_readText) (pc := 43) dX5_readText_43 rfl rfl rfl ?_
  refine r_iconst (μ := mX5_readText) (pc := 44) (v := 0) dX5_readText_44 ic_0 ?_
  refine r_putI (μ := mX5_readText) (pc := 45) dX5_readText_45 fwX5_53 (hF _ _ rfl) (by decide) rfl ?_
  refine r_aload_n (μ := mX5_readText) (pc := 48) dX5_readText_48 rfl rfl rfl ?_
  refine vX0 (μ := mX5_readText) (pc := 49) (c0 := 5) (q0 := (RX5, TX5, 14)) (μ2 := mX5_readKey) dX5_readText_49 (hF _ _ rfl) rfl lkX5_56 imX5_readKey seX5_X5_readKey_X5_readKey mwX5_readKey (Nat.le_of_ble_eq_true rfl) (k_readKey (d := d + 2) hF hB (tp := tp) (by simp [upF]) h96 (by simp [upF]; rfl)) (fun r_49 mi_49 h_49 => ?_)
  rw [h49] at h_49
  obtain ⟨k1, k2, k3, k4⟩ := h_49
  obtain ⟨k5, k6, k7, k8⟩ := k4 hky
  subst k5
  obtain ⟨w1, w2, w3, w4, kt, hkt, hkk⟩ := ky_e h96 hky
  have hRd : RdS mi mi_49 tp (Tok.e (tk1 tp (mi 49))) (kyP tp (mi 49)) true (Tok.e (tk1 tp (mi 49))) [] [] 0 := ⟨fun a x _ _ => by rw [k1 a x]; simp only [upI_ne x], ⟨by rw [k2 1 (by decide) (by decide) (by decide)]; simp [upF], k6, by rw [k2 3 (by decide) (by decide) (by decide)]; simp [upF], k7, k8, by rw [k2 6 (by decide) (by decide) (by decide)]; simp [upF]; rfl⟩, ⟨by rw [k2 8 (by decide) (by decide) (by decide)]; simp [upF]; rfl, by rw [k2 9 (by decide) (by decide) (by decide)]; simp [upF]; rfl, by rw [k2 11 (by decide) (by decide) (by decide)]; simp [upF]; rfl, by rw [k2 12 (by decide) (by decide) (by decide)]; simp [upF]; rfl, by rw [k2 13 (by decide) (by decide) (by decide)]; simp [upF]; rfl⟩, fun i x hx => by simp at hx, trivial⟩
  have hgo := rd_go h96 hky
  rw [if_neg hno] at hgo
  refine r_if_eq (μ := mX5_readText) (pc := 52) (tgt := 62) dX5_readText_52 (by decide) (fun h_52 => absurd h_52 (by decide)) (fun h_52 => ?_)
  refine r_aload_n (μ := mX5_readText) (pc := 55) dX5_readText_55 rfl rfl rfl ?_
  refine vX0 (μ := mX5_readText) (pc := 56) (c0 := 5) (q0 := (RX5, TX5, 14)) (μ2 := mX5_readLaw) dX5_readText_56 (hF _ _ rfl) rfl lkX5_60 imX5_readLaw seX5_X5_readLaw_X5_readLaw mwX5_readLaw (Nat.le_of_ble_eq_true rfl) (k_readLaw (d := d) hF hB hRd h96 w2 w3 w4 hkt hkk hgo) (fun r_56 mi_56 h_56 => ?_)
  obtain ⟨rfl, h9⟩ := h_56
  refine r_if_ne (μ := mX5_readText) (pc := 59) (tgt := 64) dX5_readText_59 (by decide) (fun h_59 => absurd rfl h_59) (fun h_59 => ?_)
  refine r_null (μ := mX5_readText) (pc := 62) dX5_readText_62 ?_
  exact r_aret (μ := mX5_readText) (pc := 63) dX5_readText_63 rfl (Or.inl ⟨_, rfl⟩) rfl ⟨rfl, rfl, rfl, h9.1, h9.2.1, by rw [h9.2.2]; unfold txAt; rw [if_neg hky]⟩

theorem rt_ok {sh : List Sh} {mi m5 : MI} {mr : MR} {tp ke c9 n9 : Nat} {key : Int32} {sg9 O : List Int32} (hF : SHC sh) (h9 : RdS mi m5 tp ke key false c9 sg9 O n9) (hl9 : O.length ≤ 92) : (some (.ref sh.length) : Option Value) = some (.ref sh.length) ∧ (sh ++ [((12, 3) : Sh)] ++ [((0, O.length) : Sh)]) = sh ++ [(12, 3)] ++ [(0, O.length)] ∧ ((∀ a, a < sh.length → a ≠ 48 → a ≠ 50 → a ≠ 51 → upI (upI (cpI (zI (zI m5 sh.length) (sh ++ [((12, 3) : Sh)]).length) 50 (sh ++ [((12, 3) : Sh)]).length 0 0 O.length) sh.length 0 key) sh.length 1 (nI n9) a = mi a) ∧ upI (upI (cpI (zI (zI m5 sh.length) (sh ++ [((12, 3) : Sh)]).length) 50 (sh ++ [((12, 3) : Sh)]).length 0 0 O.length) sh.length 0 key) sh.length 1 (nI n9) 48 1 = 0) ∧
    (upI (upI (cpI (zI (zI m5 sh.length) (sh ++ [((12, 3) : Sh)]).length) 50 (sh ++ [((12, 3) : Sh)]).length 0 0 O.length) sh.length 0 key) sh.length 1 (nI n9) sh.length 0 = key ∧ upI (upI (cpI (zI (zI m5 sh.length) (sh ++ [((12, 3) : Sh)]).length) 50 (sh ++ [((12, 3) : Sh)]).length 0 0 O.length) sh.length 0 key) sh.length 1 (nI n9) sh.length 1 = nI n9) ∧
    LR (upI (upI (cpI (zI (zI m5 sh.length) (sh ++ [((12, 3) : Sh)]).length) 50 (sh ++ [((12, 3) : Sh)]).length 0 0 O.length) sh.length 0 key) sh.length 1 (nI n9) (sh.length + 1)) O ∧ (∀ a, a < sh.length → upR (zR (zR mr sh.length) (sh ++ [((12, 3) : Sh)]).length) sh.length 2 (some (sh ++ [((12, 3) : Sh)]).length) a = mr a) ∧ upR (zR (zR mr sh.length) (sh ++ [((12, 3) : Sh)]).length) sh.length 2 (some (sh ++ [((12, 3) : Sh)]).length) sh.length 2 = some (sh.length + 1) ∧ O.length ≤ 92 := by
  have hn := hF.n
  have hL : (sh ++ [((12, 3) : Sh)]).length = sh.length + 1 := by rw [List.length_append]; rfl
  rw [hL]
  refine ⟨rfl, rfl, ⟨fun a h1 x y z => ?_, ?_⟩, ⟨?_, ?_⟩, ?_, fun a h1 => ?_, ?_, hl9⟩
  · rw [upI_ne (by omega), upI_ne (by omega), cpI_ne (by omega), zI_ne (by omega), zI_ne (by omega)]
    exact h9.1 a x y z
  · rw [upI_ne (by omega), upI_ne (by omega), cpI_ne (by omega), zI_ne (by omega), zI_ne (by omega)]
    exact h9.2.1.1
  · rw [up_ne (by decide), up_eq]
  · rw [up_eq]
  · rw [upI_ne (by omega), upI_ne (by omega), cpI_self]
    intro i x hx
    have hi : i < O.length := (List.getElem?_eq_some_iff.mp hx).1
    rw [va_cpy_in ⟨Nat.zero_le _, by omega⟩, zI_ne (by omega), zI_ne (by omega), show 0 + (i - 0) = i by omega]
    exact h9.2.2.2.1 i x hx
  · rw [upR_ne (by omega), zR_ne (by omega), zR_ne (by omega)]
  · unfold upR
    rw [if_pos rfl]
    simp [va_up]

theorem k_readText {d : Nat} {sh : List Sh} {mi : MI} {mr : MR} (hF : SHC sh) (hB : CB mr) {tp : Nat} (h1 : mi 48 1 = nI tp) (h96 : tp ≤ 96) (hky : ¬ kyP tp (mi 49) = -1) (hok : (pdF tp (mi 49)).1 = true ∧ Tok.k (PS.t (pdF tp (mi 49)).2) = 0) : CP (d + 8) mX5_readText [.ref 48] sh mi mr 2 99 (fun v sh2 mi2 mr2 => v = some (.ref sh.length) ∧ sh2 = sh ++ [(12, 3)] ++ [(0, (outP (kyP tp (mi 49)) (pdF tp (mi 49)).2).length)] ∧ ((∀ a, a < sh.length → a ≠ 48 → a ≠ 50 → a ≠ 51 → mi2 a = mi a) ∧ mi2 48 1 = 0) ∧ (mi2 sh.length 0 = kyP tp (mi 49) ∧ mi2 sh.length 1 = nI (PS.sd (pdF tp (mi 49)).2)) ∧ LR (mi2 (sh.length + 1)) (outP (kyP tp (mi 49)) (pdF tp (mi 49)).2) ∧ (∀ a, a < sh.length → mr2 a = mr a) ∧ mr2 sh.length 2 = some (sh.length + 1) ∧ (outP (kyP tp (mi 49)) (pdF tp (mi 49)).2).length ≤ 92) := by
  have h49 : (upI (upI (upI (upI (upI (upI (upI (upI (upI mi 48 3 (nI tp)) 48 1 0) 48 2 0) 48 6 1) 48 8 0) 48 9 0) 48 11 0) 48 12 0) 48 13 0) 49 = mi 49 := by rw [u4948, u4948, u4948, u4948, u4948, u4948, u4948, u4948, u4948]
  refine CP.of (L := [_]) (by decide) rfl rfl (Nat.le_of_ble_eq_true rfl) ?_
  refine r_aload_n (μ := mX5_readText) (pc := 0) dX5_readText_0 rfl rfl rfl ?_
  refine r_aload_n (μ := mX5_readText) (pc := 1) dX5_readText_1 rfl rfl rfl ?_
  refine r_getI (μ := mX5_readText) (pc := 2) dX5_readText_2 fpX5_15 rfl (hF _ _ rfl) (by decide) ?_
  rw [h1]
  refine r_putI (μ := mX5_readText) (pc := 5) dX5_readText_5 fwX5_22 (hF _ _ rfl) (by decide) rfl ?_
  refine r_aload_n (μ := mX5_readText) (pc := 8) dX5_readText_8 rfl rfl rfl ?_
  refine r_iconst (μ := mX5_readText) (pc := 9) (v := 0) dX5_readText_9 ic_0 ?_
  refine r_putI (μ := mX5_readText) (pc := 10) dX5_readText_10 fwX5_15 (hF _ _ rfl) (by decide) rfl ?_
  refine r_aload_n (μ := mX5_readText) (pc := 13) dX5_readText_13 rfl rfl rfl ?_
  refine r_iconst (μ := mX5_readText) (pc := 14) (v := 0) dX5_readText_14 ic_0 ?_
  refine r_putI (μ := mX5_readText) (pc := 15) dX5_readText_15 fwX5_19 (hF _ _ rfl) (by decide) rfl ?_
  refine r_aload_n (μ := mX5_readText) (pc := 18) dX5_readText_18 rfl rfl rfl ?_
  refine r_iconst (μ := mX5_readText) (pc := 19) (v := 1) dX5_readText_19 ic_1 ?_
  refine r_putZ (μ := mX5_readText) (pc := 20) dX5_readText_20 fwX5_31 (hF _ _ rfl) (by decide) rfl rfl rfl ?_
  refine r_aload_n (μ := mX5_readText) (pc := 23) dX5_readText_23 rfl rfl rfl ?_
  refine r_iconst (μ := mX5_readText) (pc := 24) (v := 0) dX5_readText_24 ic_0 ?_
  refine r_putI (μ := mX5_readText) (pc := 25) dX5_readText_25 fwX5_38 (hF _ _ rfl) (by decide) rfl ?_
  refine r_aload_n (μ := mX5_readText) (pc := 28) dX5_readText_28 rfl rfl rfl ?_
  refine r_iconst (μ := mX5_readText) (pc := 29) (v := 0) dX5_readText_29 ic_0 ?_
  refine r_putI (μ := mX5_readText) (pc := 30) dX5_readText_30 fwX5_41 (hF _ _ rfl) (by decide) rfl ?_
  refine r_aload_n (μ := mX5_readText) (pc := 33) dX5_readText_33 rfl rfl rfl ?_
  refine r_iconst (μ := mX5_readText) (pc := 34) (v := 0) dX5_readText_34 ic_0 ?_
  refine r_putI (μ := mX5_readText) (pc := 35) dX5_readText_35 fwX5_47 (hF _ _ rfl) (by decide) rfl ?_
  refine r_aload_n (μ := mX5_readText) (pc := 38) dX5_readText_38 rfl rfl rfl ?_
  refine r_iconst (μ := mX5_readText) (pc := 39) (v := 0) dX5_readText_39 ic_0 ?_
  refine r_putI (μ := mX5_readText) (pc := 40) dX5_readText_40 fwX5_50 (hF _ _ rfl) (by decide) rfl ?_
  refine r_aload_n (μ := mX5_readText) (pc := 43) dX5_readText_43 rfl rfl rfl ?_
  refine r_iconst (μ := mX5_readText) (pc := 44) (v := 0) dX5_readText_44 ic_0 ?_
  refine r_putI (μ := mX5_readText) (pc := 45) dX5_readText_45 fwX5_53 (hF _ _ rfl) (by decide) rfl ?_
  refine r_aload_n (μ := mX5_readText) (pc := 48) dX5_readText_48 rfl rfl rfl ?_
  refine vX0 (μ := mX5_readText) (pc := 49) (c0 := 5) (q0 := (RX5, TX5, 14)) (μ2 := mX5_readKey) dX5_readText_49 (hF _ _ rfl) rfl lkX5_56 imX5_readKey seX5_X5_readKey_X5_readKey mwX5_readKey (Nat.le_of_ble_eq_true rfl) (k_readKey (d := d + 2) hF hB (tp := tp) (by simp [upF]) h96 (by simp [upF]; rfl)) (fun r_49 mi_49 h_49 => ?_)
  rw [h49] at h_49
  obtain ⟨k1, k2, k3, k4⟩ := h_49
  obtain ⟨k5, k6, k7, k8⟩ := k4 hky
  subst k5
  obtain ⟨w1, w2, w3, w4, kt, hkt, hkk⟩ := ky_e h96 hky
  have hRd : RdS mi mi_49 tp (Tok.e (tk1 tp (mi 49))) (kyP tp (mi 49)) true (Tok.e (tk1 tp (mi 49))) [] [] 0 := ⟨fun a x _ _ => by rw [k1 a x]; simp only [upI_ne x], ⟨by rw [k2 1 (by decide) (by decide) (by decide)]; simp [upF], k6, by rw [k2 3 (by decide) (by decide) (by decide)]; simp [upF], k7, k8, by rw [k2 6 (by decide) (by decide) (by decide)]; simp [upF]; rfl⟩, ⟨by rw [k2 8 (by decide) (by decide) (by decide)]; simp [upF]; rfl, by rw [k2 9 (by decide) (by decide) (by decide)]; simp [upF]; rfl, by rw [k2 11 (by decide) (by decide) (by decide)]; simp [upF]; rfl, by rw [k2 12 (by decide) (by decide) (by decide)]; simp [upF]; rfl, by rw [k2 13 (by decide) (by decide) (by decide)]; simp [upF]; rfl⟩, fun i x hx => by simp at hx, trivial⟩
  have hgo := rd_go h96 hky
  rw [if_pos hok] at hgo
  refine r_if_eq (μ := mX5_readText) (pc := 52) (tgt := 62) dX5_readText_52 (by decide) (fun h_52 => absurd h_52 (by decide)) (fun h_52 => ?_)
  refine r_aload_n (μ := mX5_readText) (pc := 55) dX5_readText_55 rfl rfl rfl ?_
  refine vX0 (μ := mX5_readText) (pc := 56) (c0 := 5) (q0 := (RX5, TX5, 14)) (μ2 := mX5_readLaw) dX5_readText_56 (hF _ _ rfl) rfl lkX5_60 imX5_readLaw seX5_X5_readLaw_X5_readLaw mwX5_readLaw (Nat.le_of_ble_eq_true rfl) (k_readLaw (d := d) hF hB hRd h96 w2 w3 w4 hkt hkk hgo) (fun r_56 mi_56 h_56 => ?_)
  obtain ⟨rfl, ⟨c9, sg9, h9⟩, hl9⟩ := h_56
  have hl9 : (outP (kyP tp (mi 49)) (pdF tp (mi 49)).2).length ≤ 92 := hl9
  have h9 : RdS mi mi_56 tp (Tok.e (tk1 tp (mi 49))) (kyP tp (mi 49)) false c9 sg9 (outP (kyP tp (mi 49)) (pdF tp (mi 49)).2) (PS.sd (pdF tp (mi 49)).2) := h9
  refine r_if_ne (μ := mX5_readText) (pc := 59) (tgt := 64) dX5_readText_59 (by decide) (fun h_59 => ?_) (fun h_59 => absurd h_59 (by decide))
  refine r_new (μ := mX5_readText) (pc := 64) (c0 := 8) (q0 := (RX8, TX8, 3)) (cb := 1) (sb := 96) dX5_readText_64 rfl klX5_63 iaX8 inX8 ?_
  have hF2 := hF.l (12, 3)
  have hB2 := hB.z hF.n
  have hn := hF.n
  have ez : zI mi_56 sh.length 48 = mi_56 48 := zI_ne (by omega)
  refine r_dup (μ := mX5_readText) (pc := 67) dX5_readText_67 rfl ?_
  refine r_aload_n (μ := mX5_readText) (pc := 68) dX5_readText_68 rfl rfl rfl ?_
  refine r_getI (μ := mX5_readText) (pc := 69) dX5_readText_69 fpX5_25 rfl (hF2 _ _ rfl) (by decide) ?_
  rw [ez, h9.2.1.2.2.2.1]
  refine r_aload_n (μ := mX5_readText) (pc := 72) dX5_readText_72 rfl rfl rfl ?_
  refine r_getI (μ := mX5_readText) (pc := 73) dX5_readText_73 fpX5_41 rfl (hF2 _ _ rfl) (by decide) ?_
  rw [ez, h9.2.2.1.2.1]
  refine r_aload_n (μ := mX5_readText) (pc := 76) dX5_readText_76 rfl rfl rfl ?_
  refine r_getR (μ := mX5_readText) (pc := 77) dX5_readText_77 fpX5_35 rfl (hF2 _ _ rfl) (by decide) (hB2 _ _ _ rfl) ?_
  refine r_aload_n (μ := mX5_readText) (pc := 80) dX5_readText_80 rfl rfl rfl ?_
  refine r_getI (μ := mX5_readText) (pc := 81) dX5_readText_81 fpX5_38 rfl (hF2 _ _ rfl) (by decide) ?_
  rw [ez, h9.2.2.1.1]
  refine WP.sb (show 96 = (96 - (outP (kyP tp (mi 49)) (pdF tp (mi 49)).2).length) + (0 + (outP (kyP tp (mi 49)) (pdF tp (mi 49)).2).length) by omega) ?_
  refine sA2 (μ := mX5_readText) (pc := 84) (μ2 := mJ7_copyOf_59c91) (cb := 0) (mc2 := 0 + 1) dX5_readText_84 lkX5_65 stJ7_copyOf_59c91 mwJ7_copyOf_59c91 (Nat.le_of_ble_eq_true rfl) (k_copyOf (n := (outP (kyP tp (mi 49)) (pdF tp (mi 49)).2).length) (hF2 50 _ rfl) (by omega)) ?_
  refine iA3 (μ := mX5_readText) (pc := 87) (μ2 := mX8_init) dX5_readText_87 rfl rfl lkX5_71 imX8_init mwX8_init (Nat.le_of_ble_eq_true rfl) (k_txInit (sh_l sh_n)) (fun sh_87 mi_87 mr_87 h_87 => ?_)
  obtain ⟨rfl, rfl, rfl⟩ := h_87
  exact r_aret (μ := mX5_readText) (pc := 90) dX5_readText_90 rfl (Or.inl ⟨_, rfl⟩) rfl (rt_ok hF h9 hl9)

