def PZ (x : Value) (f : List Sh → MI → MR → Prop) : QT := fun v sh2 mi2 mr2 => v = some x ∧ f sh2 mi2 mr2
theorem vZ0 {d : Nat} {μ μ2 : Mt} {pc : Nat} {L S : List Value} {sh : List Sh} {mi : MI} {mr : MR} {cb sb mc2 ms2 idx : Nat} {Q : QT} {x : Value} {f : List Sh → MI → MR → Prop} (hd : decode μ.2.1 pc = .ok (.invokevirtual idx, 3)) {a c0 n0 : Nat} {q0 : vw_C} (h : sh[a]? = some (c0 + 4, n0)) (hq : cls[c0]? = some q0) (hl2 : Cond.methodLink μ.1.cls idx μ2.1 ∈ lw_tbl) (hi2 : Cond.instanceMethod μ2.1 ∈ lw_tbl) (hse : Cond.selects q0.1 μ2.1 μ2.1 ∈ lw_tbl) (hmw : MW μ2 0) (hS8 : (S.map c12).sum ≤ 8) (hcp : CP d μ2 [.ref a] sh mi mr mc2 ms2 (PZ x f)) (k : ∀ (sh2 : List Sh) (mi2 : MI) (mr2 : MR), f sh2 mi2 mr2 → WP (d + 1) μ (pc + 3) L (x :: S) sh2 mi2 mr2 cb sb Q) : WP (d + 1) μ pc L (.ref a :: S) sh mi mr (cb + mc2) (sb + ms2) Q :=
  r_virt (as := []) hd rfl h hq hl2 hi2 hse hcp hmw hS8 (by rintro v sh2 mi2 mr2 ⟨rfl, h9⟩; exact k sh2 mi2 mr2 h9)
theorem vZN0 {d : Nat} {μ μ2 : Mt} {pc : Nat} {L S : List Value} {sh : List Sh} {mi : MI} {mr : MR} {cb sb mc2 ms2 idx : Nat} {Q : QT} {x : Value} {f : List Sh → MI → MR → Prop} (hd : decode μ.2.1 pc = .ok (.invokevirtual idx, 3)) {a c0 n0 : Nat} {q0 : vw_C} (h : sh[a]? = some (c0 + 4, n0)) (hq : cls[c0]? = some q0) (hl2 : Cond.methodLink μ.1.cls idx μ2.1 ∈ lw_tbl) (hi2 : Cond.instanceMethod μ2.1 ∈ lw_tbl) (hse : Cond.selects q0.1 μ2.1 μ2.1 ∈ lw_tbl) (hmw : MW μ2 0) (hS8 : (S.map c12).sum ≤ 8) (hcp : CP d μ2 [.ref a] sh mi mr mc2 ms2 (PZ x f)) (k : ∀ (sh2 : List Sh) (mi2 : MI) (mr2 : MR), f sh2 mi2 mr2 → WP (d + 1) μ (pc + 3) L (x :: S) sh2 mi2 mr2 cb sb Q) : WP (d + 1) μ pc L (.ref a :: S) sh mi mr (cb + mc2) (sb + ms2) Q :=
  r_virt (as := []) hd rfl h hq hl2 hi2 hse hcp hmw hS8 (by rintro v sh2 mi2 mr2 ⟨rfl, h9⟩; exact k sh2 mi2 mr2 h9)
theorem s_astore_nN {d : Nat} {μ : Mt} {pc : Nat} {L S L2 : List Value} {sh : List Sh} {mi : MI} {mr : MR} {cb sb : Nat} {Q : QT} {j : Fin 4} {i : Nat} (hd : decode μ.2.1 pc = .ok (.astore_n j, 1)) (hi : (j : Nat) = i) (hn : i < L.length) (hq : L.length ≤ μ.2.2.1) (hcat : L.all catL = true) (hL : L.set i .null = L2) (k : WP d μ (pc + 1) L2 S sh mi mr cb sb Q) : WP d μ pc L (.null :: S) sh mi mr cb sb Q := by
  subst hL
  exact r_astore_nN hd hi hn hq hcat k
/-- a new text behind all cells -/
def TxN (sh : List Sh) (mi : MI) (mr : MR) (key : Int32) (sd : Nat) (O : List Int32) (sh2 : List Sh) (mi2 : MI) (mr2 : MR) : Prop :=
  sh2 = sh ++ [(12, 3)] ++ [(0, O.length)] ∧ ((∀ a, a < sh.length → a ≠ 48 → a ≠ 50 → a ≠ 51 → mi2 a = mi a) ∧ mi2 48 1 = 0) ∧ (mi2 sh.length 0 = key ∧ mi2 sh.length 1 = nI sd) ∧ LR (mi2 (sh.length + 1)) O ∧ (∀ a, a < sh.length → mr2 a = mr a) ∧ mr2 sh.length 2 = some (sh.length + 1) ∧ O.length ≤ 92
theorem TxN.F {sh : List Sh} {mi : MI} {mr : MR} {key : Int32} {sd : Nat} {O : List Int32} {sh2 : List Sh} {mi2 : MI} {mr2 : MR} (h : TxN sh mi mr key sd O sh2 mi2 mr2) (hF : SHC sh) : SHC sh2 := by
  rw [h.1]; exact (hF.l _).l _
theorem TxN.B {sh : List Sh} {mi : MI} {mr : MR} {key : Int32} {sd : Nat} {O : List Int32} {sh2 : List Sh} {mi2 : MI} {mr2 : MR} (h : TxN sh mi mr key sd O sh2 mi2 mr2) (hF : SHC sh) (hB : CB mr) : CB mr2 := fun a k b hx => by
  have h1 := ctab_lt hx
  have h2 := hF.n
  rw [h.2.2.2.2.1 a (by omega)]; exact hB a k b hx

theorem k_text_bad0 {d : Nat} {sh : List Sh} {mi : MI} {mr : MR} (hF : SHC sh) (hB : CB mr) {tp : Nat} (h1 : mi 48 1 = nI tp) (h96 : tp ≤ 96) (hky : kyP tp (mi 49) = -1) : CP (d + 9) mX11_text [.ref 0] sh mi mr 2 99 (PY (fun r sh2 mi2 mr2 => r = -100 - nI (txAt tp (mi 49)) ∧ sh2 = sh ∧ mr2 = mr ∧ RFl mi mi2 (txAt tp (mi 49)))) := by
  refine CP.of (L := [_, _]) (by decide) rfl rfl (Nat.le_of_ble_eq_true rfl) ?_
  refine r_aload_n (μ := mX11_text) (pc := 0) dX11_text_0 rfl rfl rfl ?_
  refine r_getR (μ := mX11_text) (pc := 1) dX11_text_1 fpX11_62 rfl (hF _ _ rfl) (by decide) (hB _ _ _ rfl) ?_
  refine vZ0 (μ := mX11_text) (pc := 4) (μ2 := mX5_readText) (c0 := 5) (q0 := (RX5, TX5, 14)) (cb := 0) (sb := 0) (mc2 := 2) (ms2 := 99) dX11_text_4 (hF _ _ rfl) rfl lkX11_265 imX5_readText seX5_X5_readText_X5_readText mwX5_readText (Nat.le_of_ble_eq_true rfl) (k_readText_no0 (d := d) hF hB h1 h96 hky) (fun sh_4 mi_4 mr_4 h_4 => ?_)
  obtain ⟨rfl, rfl, hfl⟩ := h_4
  refine s_astore_nN (μ := mX11_text) (pc := 7) (L2 := [_, _]) dX11_text_7 rfl (Nat.le_of_ble_eq_true rfl) (Nat.le_of_ble_eq_true rfl) rfl rfl ?_
  refine r_aload_n (μ := mX11_text) (pc := 8) dX11_text_8 rfl rfl rfl ?_
  refine r_nonnullN (μ := mX11_text) (pc := 9) dX11_text_9 ?_
  refine r_bipush (μ := mX11_text) (pc := 12) (v := -100) dX11_text_12 bp_m100 ?_
  refine r_aload_n (μ := mX11_text) (pc := 14) dX11_text_14 rfl rfl rfl ?_
  refine r_getR (μ := mX11_text) (pc := 15) dX11_text_15 fpX11_62 rfl (hF _ _ rfl) (by decide) (hB _ _ _ rfl) ?_
  refine r_getI (μ := mX11_text) (pc := 18) dX11_text_18 fpX11_269 rfl (hF _ _ rfl) (by decide) ?_
  rw [hfl.2.2]
  refine r_isub (μ := mX11_text) (pc := 21) dX11_text_21 ?_
  exact r_iret (μ := mX11_text) (pc := 22) dX11_text_22 rfl rfl ⟨_, rfl, rfl, rfl, rfl, hfl⟩

theorem k_text_bad1 {d : Nat} {sh : List Sh} {mi : MI} {mr : MR} (hF : SHC sh) (hB : CB mr) {tp : Nat} (h1 : mi 48 1 = nI tp) (h96 : tp ≤ 96) (hky : ¬ kyP tp (mi 49) = -1) (hno : ¬ ((pdF tp (mi 49)).1 = true ∧ Tok.k (PS.t (pdF tp (mi 49)).2) = 0)) : CP (d + 9) mX11_text [.ref 0] sh mi mr 2 99 (PY (fun r sh2 mi2 mr2 => r = -100 - nI (txAt tp (mi 49)) ∧ sh2 = sh ∧ mr2 = mr ∧ RFl mi mi2 (txAt tp (mi 49)))) := by
  refine CP.of (L := [_, _]) (by decide) rfl rfl (Nat.le_of_ble_eq_true rfl) ?_
  refine r_aload_n (μ := mX11_text) (pc := 0) dX11_text_0 rfl rfl rfl ?_
  refine r_getR (μ := mX11_text) (pc := 1) dX11_text_1 fpX11_62 rfl (hF _ _ rfl) (by decide) (hB _ _ _ rfl) ?_
  refine vZ0 (μ := mX11_text) (pc := 4) (μ2 := mX5_readText) (c0 := 5) (q0 := (RX5, TX5, 14)) (cb := 0) (sb := 0) (mc2 := 2) (ms2 := 99) dX11_text_4 (hF _ _ rfl) rfl lkX11_265 imX5_readText seX5_X5_readText_X5_readText mwX5_readText (Nat.le_of_ble_eq_true rfl) (k_readText_no1 (d := d) hF hB h1 h96 hky hno) (fun sh_4 mi_4 mr_4 h_4 => ?_)
  obtain ⟨rfl, rfl, hfl⟩ := h_4
  refine s_astore_nN (μ := mX11_text) (pc := 7) (L2 := [_, _]) dX11_text_7 rfl (Nat.le_of_ble_eq_true rfl) (Nat.le_of_ble_eq_true rfl) rfl rfl ?_
  refine r_aload_n (μ := mX11_text) (pc := 8) dX11_text_8 rfl rfl rfl ?_
  refine r_nonnullN (μ := mX11_text) (pc := 9) dX11_text_9 ?_
  refine r_bipush (μ := mX11_text) (pc := 12) (v := -100) dX11_text_12 bp_m100 ?_
  refine r_aload_n (μ := mX11_text) (pc := 14) dX11_text_14 rfl rfl rfl ?_
  refine r_getR (μ := mX11_text) (pc := 15) dX11_text_15 fpX11_62 rfl (hF _ _ rfl) (by decide) (hB _ _ _ rfl) ?_
  refine r_getI (μ := mX11_text) (pc := 18) dX11_text_18 fpX11_269 rfl (hF _ _ rfl) (by decide) ?_
  rw [hfl.2.2]
  refine r_isub (μ := mX11_text) (pc := 21) dX11_text_21 ?_
  exact r_iret (μ := mX11_text) (pc := 22) dX11_text_22 rfl rfl ⟨_, rfl, rfl, rfl, rfl, hfl⟩

theorem k_text_full {d : Nat} {sh : List Sh} {mi : MI} {mr : MR} (hF : SHC sh) (hB : CB mr) {tp : Nat} (h1 : mi 48 1 = nI tp) (h96 : tp ≤ 96) (hky : ¬ kyP tp (mi 49) = -1) (hok : (pdF tp (mi 49)).1 = true ∧ Tok.k (PS.t (pdF tp (mi 49)).2) = 0) {q : Nat} (hq : mi 8 16 = nI q) (hq4 : q = 14) : CP (d + 9) mX11_text [.ref 0] sh mi mr 2 99 (PY (fun r sh2 mi2 mr2 => r = FULLc ∧ TxN sh mi mr (kyP tp (mi 49)) (PS.sd (pdF tp (mi 49)).2) (outP (kyP tp (mi 49)) (pdF tp (mi 49)).2) sh2 mi2 mr2)) := by
  refine CP.of (L := [_, _]) (by decide) rfl rfl (Nat.le_of_ble_eq_true rfl) ?_
  refine r_aload_n (μ := mX11_text) (pc := 0) dX11_text_0 rfl rfl rfl ?_
  refine r_getR (μ := mX11_text) (pc := 1) dX11_text_1 fpX11_62 rfl (hF _ _ rfl) (by decide) (hB _ _ _ rfl) ?_
  refine vZ0 (μ := mX11_text) (pc := 4) (μ2 := mX5_readText) (c0 := 5) (q0 := (RX5, TX5, 14)) (cb := 0) (sb := 0) (mc2 := 2) (ms2 := 99) dX11_text_4 (hF _ _ rfl) rfl lkX11_265 imX5_readText seX5_X5_readText_X5_readText mwX5_readText (Nat.le_of_ble_eq_true rfl) (k_readText (d := d) hF hB h1 h96 hky hok) (fun sh_4 mi_4 mr_4 h_4 => ?_)
  have hN : TxN sh mi mr (kyP tp (mi 49)) (PS.sd (pdF tp (mi 49)).2) (outP (kyP tp (mi 49)) (pdF tp (mi 49)).2) sh_4 mi_4 mr_4 := h_4
  have hF2 := hN.F hF
  have hB2 := hN.B hF hB
  have hn := hF.n
  have hq2 : mi_4 8 16 = nI q := by rw [hN.2.1.1 8 (by omega) (by decide) (by decide) (by decide)]; exact hq
  refine s_astore_n (μ := mX11_text) (pc := 7) (L2 := [_, _]) dX11_text_7 rfl (Nat.le_of_ble_eq_true rfl) (Nat.le_of_ble_eq_true rfl) rfl rfl ?_
  refine r_aload_n (μ := mX11_text) (pc := 8) dX11_text_8 rfl rfl rfl ?_
  refine r_nonnull (μ := mX11_text) (pc := 9) (tgt := 23) dX11_text_9 (by decide) ?_
  refine r_aload_n (μ := mX11_text) (pc := 23) dX11_text_23 rfl rfl rfl ?_
  refine r_getR (μ := mX11_text) (pc := 24) dX11_text_24 fpX11_36 rfl (hF2 _ _ rfl) (by decide) (hB2 _ _ _ rfl) ?_
  refine r_getI (μ := mX11_text) (pc := 27) dX11_text_27 fpX11_272 rfl (hF2 _ _ rfl) (by decide) ?_
  refine r_bipush (μ := mX11_text) (pc := 30) (v := 14) dX11_text_30 bp_14 ?_
  refine r_icmp_lt (μ := mX11_text) (pc := 32) (tgt := 38) dX11_text_32 (by decide) (fun h_32 => absurd h_32 (by rw [hq2, hq4]; decide)) (fun h_32 => ?_)
  refine r_ldc (μ := mX11_text) (pc := 35) dX11_text_35 ctX11_101 ?_
  exact r_iret (μ := mX11_text) (pc := 37) dX11_text_37 rfl rfl ⟨_, rfl, rfl, hN⟩

theorem k_text {d : Nat} {sh : List Sh} {mi : MI} {mr : MR} (hF : SHC sh) (hB : CB mr) {tp : Nat} (h1 : mi 48 1 = nI tp) (h96 : tp ≤ 96) (hky : ¬ kyP tp (mi 49) = -1) (hok : (pdF tp (mi 49)).1 = true ∧ Tok.k (PS.t (pdF tp (mi 49)).2) = 0) {q : Nat} (hq : mi 8 16 = nI q) (hq4 : q < 14) {kt : Nat} (hkt : kt < 3) (hkk : kyP tp (mi 49) = nI kt) : CP (d + 9) mX11_text [.ref 0] sh mi mr 2 99 (PY (fun r sh2 mi2 mr2 => r = nI q ∧ ∃ mi5 mr5, TxN sh mi mr (kyP tp (mi 49)) (PS.sd (pdF tp (mi 49)).2) (outP (kyP tp (mi 49)) (pdF tp (mi 49)).2) sh2 mi5 mr5 ∧ mi2 = upI (upI mi5 18 kt (nI q)) 8 16 (nI (q + 1)) ∧ mr2 = upR mr5 17 q (some sh.length))) := by
  refine CP.of (L := [_, _]) (by decide) rfl rfl (Nat.le_of_ble_eq_true rfl) ?_
  refine r_aload_n (μ := mX11_text) (pc := 0) dX11_text_0 rfl rfl rfl ?_
  refine r_getR (μ := mX11_text) (pc := 1) dX11_text_1 fpX11_62 rfl (hF _ _ rfl) (by decide) (hB _ _ _ rfl) ?_
  refine vZ0 (μ := mX11_text) (pc := 4) (μ2 := mX5_readText) (c0 := 5) (q0 := (RX5, TX5, 14)) (cb := 0) (sb := 0) (mc2 := 2) (ms2 := 99) dX11_text_4 (hF _ _ rfl) rfl lkX11_265 imX5_readText seX5_X5_readText_X5_readText mwX5_readText (Nat.le_of_ble_eq_true rfl) (k_readText (d := d) hF hB h1 h96 hky hok) (fun sh_4 mi_4 mr_4 h_4 => ?_)
  have hN : TxN sh mi mr (kyP tp (mi 49)) (PS.sd (pdF tp (mi 49)).2) (outP (kyP tp (mi 49)) (pdF tp (mi 49)).2) sh_4 mi_4 mr_4 := h_4
  have hF2 := hN.F hF
  have hB2 := hN.B hF hB
  have hn := hF.n
  have hq2 : mi_4 8 16 = nI q := by rw [hN.2.1.1 8 (by omega) (by decide) (by decide) (by decide)]; exact hq
  refine s_astore_n (μ := mX11_text) (pc := 7) (L2 := [_, _]) dX11_text_7 rfl (Nat.le_of_ble_eq_true rfl) (Nat.le_of_ble_eq_true rfl) rfl rfl ?_
  refine r_aload_n (μ := mX11_text) (pc := 8) dX11_text_8 rfl rfl rfl ?_
  refine r_nonnull (μ := mX11_text) (pc := 9) (tgt := 23) dX11_text_9 (by decide) ?_
  refine r_aload_n (μ := mX11_text) (pc := 23) dX11_text_23 rfl rfl rfl ?_
  refine r_getR (μ := mX11_text) (pc := 24) dX11_text_24 fpX11_36 rfl (hF2 _ _ rfl) (by decide) (hB2 _ _ _ rfl) ?_
  refine r_getI (μ := mX11_text) (pc := 27) dX11_text_27 fpX11_272 rfl (hF2 _ _ rfl) (by decide) ?_
  refine r_bipush (μ := mX11_text) (pc := 30) (v := 14) dX11_text_30 bp_14 ?_
  refine r_icmp_lt (μ := mX11_text) (pc := 32) (tgt := 38) dX11_text_32 (by decide) (fun h_32 => ?_) (fun h_32 => absurd (by rw [hq2]; exact nI_lt (b := 14) hq4 (by decide)) h_32)
  refine r_aload_n (μ := mX11_text) (pc := 38) dX11_text_38 rfl rfl rfl ?_
  refine r_getR (μ := mX11_text) (pc := 39) dX11_text_39 fpX11_36 rfl (hF2 _ _ rfl) (by decide) (hB2 _ _ _ rfl) ?_
  refine r_aload_n (μ := mX11_text) (pc := 42) dX11_text_42 rfl rfl rfl ?_
  refine vY1 (μ := mX11_text) (pc := 43) (c0 := 9) (q0 := (RX9, TX9, 20)) (μ2 := mX9_addText) dX11_text_43 (hF2 _ _ rfl) rfl lkX11_275 imX9_addText seX9_X9_addText_X9_addText mwX9_addText (Nat.le_of_ble_eq_true rfl) (k_addText (TB.of hF2 hB2 (Or.inl rfl)) (show sh_4[sh.length]? = some (12, 3) from by rw [hN.1]; exact sh_l sh_n) ⟨by omega, by omega⟩ (by rw [hN.2.2.1.1, hkk]) hkt hq2 hq4) (fun r_43 sh_43 mi_43 mr_43 h_43 => ?_)
  obtain ⟨rfl, rfl, rfl, rfl⟩ := h_43
  exact r_iret (μ := mX11_text) (pc := 46) dX11_text_46 rfl rfl ⟨_, rfl, rfl, _, _, hN, rfl, rfl⟩

