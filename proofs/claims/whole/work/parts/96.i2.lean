theorem iN0 {d : Nat} {μ μ2 : Mt} {pc : Nat} {L S : List Value} {sh : List Sh} {mi : MI} {mr : MR} {cb sb idx mc2 ms2 : Nat} {Q : QT} {a : Nat} {host : String} {f : List Sh → MI → MR → Prop} (hd : decode μ.2.1 pc = .ok (.invokespecial idx, 3)) (hnm2 : μ2.1.name = "<init>") (hrt : μ2.2.2.2 = none) (hl2 : Cond.methodLinkNest μ.1.cls idx μ2.1 host ∈ lw_tbl) (hi2 : Cond.instanceMethod μ2.1 ∈ lw_tbl) (hmw : MW μ2 0) (hS8 : (S.map c12).sum ≤ 8) (hcp : CP d μ2 [.ref a] sh mi mr mc2 ms2 (PW f)) (k : ∀ (sh2 : List Sh) (mi2 : MI) (mr2 : MR), f sh2 mi2 mr2 → WP (d + 1) μ (pc + 3) L S sh2 mi2 mr2 cb sb Q) : WP (d + 1) μ pc L (.ref a :: S) sh mi mr (cb + mc2) (sb + ms2) Q :=
  r_initN (as := []) hd rfl hnm2 hrt hl2 hi2 hcp hmw hS8 (by rintro v sh2 mi2 mr2 ⟨rfl, h9⟩; exact k sh2 mi2 mr2 h9)
theorem iA1 {d : Nat} {μ μ2 : Mt} {pc : Nat} {L S : List Value} {sh : List Sh} {mi : MI} {mr : MR} {cb sb idx mc2 ms2 : Nat} {Q : QT} {a : Nat} {v1 : Value} {f : List Sh → MI → MR → Prop} (hd : decode μ.2.1 pc = .ok (.invokespecial idx, 3)) (hnm2 : μ2.1.name = "<init>") (hrt : μ2.2.2.2 = none) (hl2 : Cond.methodLink μ.1.cls idx μ2.1 ∈ lw_tbl) (hi2 : Cond.instanceMethod μ2.1 ∈ lw_tbl) (hmw : MW μ2 1) (hS8 : (S.map c12).sum ≤ 8) (hcp : CP d μ2 [.ref a, v1] sh mi mr mc2 ms2 (PW f)) (k : ∀ (sh2 : List Sh) (mi2 : MI) (mr2 : MR), f sh2 mi2 mr2 → WP (d + 1) μ (pc + 3) L S sh2 mi2 mr2 cb sb Q) : WP (d + 1) μ pc L (v1 :: .ref a :: S) sh mi mr (cb + mc2) (sb + ms2) Q :=
  r_init (as := [v1]) hd rfl hnm2 hrt hl2 hi2 hcp hmw hS8 (by rintro v sh2 mi2 mr2 ⟨rfl, h9⟩; exact k sh2 mi2 mr2 h9)

theorem r_newqZ {d : Nat} {μ : Mt} {pc : Nat} {L S : List Value} {sh sh2 : List Sh} {mi : MI} {mr : MR} {cb sb : Nat} {Q : QT} {t N idx a : Nat} {n : Int32} (hd : decode μ.2.1 pc = .ok (.anewarray idx, 3)) (ht : t < 3) (hw : Cond.classLink μ.1.cls idx ([RX4, RX7, RX8].getD t "") ∈ lw_tbl) (hn : n = nI N) (hN : N < 100000) (hL : sh.length = a) (hz : mi a = Z0) (hr : mr a = N0) (hs : sh ++ [(t + 1, N)] = sh2) (k : WP d μ (pc + 3) L (.ref a :: S) sh2 mi mr cb sb Q) : WP d μ pc L (.int n :: S) sh mi mr (cb + 1) (sb + N) Q := by
  refine r_newq hd ht hw hn hN ?_
  subst hL hs
  rw [zI_id hz, zR_id hr]
  exact k

theorem k_X4_init {d : Nat} {sh : List Sh} {mi : MI} {mr : MR} {a : Nat} : CP (d) mX4_init [.ref a] sh mi mr 0 0 (PW (fun sh2 mi2 mr2 => sh2 = sh ∧ mi2 = mi ∧ mr2 = mr)) := by
  refine CP.of (L := [_]) (by decide) rfl rfl (Nat.le_of_ble_eq_true rfl) ?_
  refine r_aload_n (μ := mX4_init) (pc := 0) dX4_init_0 rfl rfl rfl ?_
  refine r_obj (μ := mX4_init) (pc := 1) dX4_init_1 lkX4_1 im_obj cd_obj (Nat.le_of_ble_eq_true rfl) ?_
  exact r_vret (μ := mX4_init) (pc := 4) dX4_init_4 rfl ⟨rfl, rfl, rfl, rfl⟩

theorem k_X6_init {d : Nat} {sh : List Sh} {mi : MI} {mr : MR} {a : Nat} : CP (d + 1) mX6_init [.ref a] sh mi mr 0 0 (PW (fun sh2 mi2 mr2 => sh2 = sh ∧ mi2 = mi ∧ mr2 = mr)) := by
  refine CP.of (L := [_]) (by decide) rfl rfl (Nat.le_of_ble_eq_true rfl) ?_
  refine r_aload_n (μ := mX6_init) (pc := 0) dX6_init_0 rfl rfl rfl ?_
  refine iN0 (μ := mX6_init) (pc := 1) (μ2 := mX4_init) (cb := 0) (sb := 0) (mc2 := 0) (ms2 := 0) dX6_init_1 rfl rfl lkX6_1 imX4_init mwX4_init (Nat.le_of_ble_eq_true rfl) k_X4_init (fun sh_1 mi_1 mr_1 h_1 => ?_)
  obtain ⟨rfl, rfl, rfl⟩ := h_1
  exact r_vret (μ := mX6_init) (pc := 4) dX6_init_4 rfl ⟨rfl, rfl, rfl, rfl⟩

theorem k_X2_init {d : Nat} {sh : List Sh} {mi : MI} {mr : MR} {a : Nat} : CP (d + 1) mX2_init [.ref a] sh mi mr 0 0 (PW (fun sh2 mi2 mr2 => sh2 = sh ∧ mi2 = mi ∧ mr2 = mr)) := by
  refine CP.of (L := [_]) (by decide) rfl rfl (Nat.le_of_ble_eq_true rfl) ?_
  refine r_aload_n (μ := mX2_init) (pc := 0) dX2_init_0 rfl rfl rfl ?_
  refine iN0 (μ := mX2_init) (pc := 1) (μ2 := mX4_init) (cb := 0) (sb := 0) (mc2 := 0) (ms2 := 0) dX2_init_1 rfl rfl lkX2_1 imX4_init mwX4_init (Nat.le_of_ble_eq_true rfl) k_X4_init (fun sh_1 mi_1 mr_1 h_1 => ?_)
  obtain ⟨rfl, rfl, rfl⟩ := h_1
  exact r_vret (μ := mX2_init) (pc := 4) dX2_init_4 rfl ⟨rfl, rfl, rfl, rfl⟩

theorem k_X1_init {d : Nat} {sh : List Sh} {mi : MI} {mr : MR} {a : Nat} : CP (d + 1) mX1_init [.ref a] sh mi mr 0 0 (PW (fun sh2 mi2 mr2 => sh2 = sh ∧ mi2 = mi ∧ mr2 = mr)) := by
  refine CP.of (L := [_]) (by decide) rfl rfl (Nat.le_of_ble_eq_true rfl) ?_
  refine r_aload_n (μ := mX1_init) (pc := 0) dX1_init_0 rfl rfl rfl ?_
  refine iN0 (μ := mX1_init) (pc := 1) (μ2 := mX4_init) (cb := 0) (sb := 0) (mc2 := 0) (ms2 := 0) dX1_init_1 rfl rfl lkX1_1 imX4_init mwX4_init (Nat.le_of_ble_eq_true rfl) k_X4_init (fun sh_1 mi_1 mr_1 h_1 => ?_)
  obtain ⟨rfl, rfl, rfl⟩ := h_1
  exact r_vret (μ := mX1_init) (pc := 4) dX1_init_4 rfl ⟨rfl, rfl, rfl, rfl⟩

theorem k_X0_init {d : Nat} {sh : List Sh} {mi : MI} {mr : MR} {a : Nat} : CP (d + 2) mX0_init [.ref a] sh mi mr 0 0 (PW (fun sh2 mi2 mr2 => sh2 = sh ∧ mi2 = mi ∧ mr2 = mr)) := by
  refine CP.of (L := [_]) (by decide) rfl rfl (Nat.le_of_ble_eq_true rfl) ?_
  refine r_aload_n (μ := mX0_init) (pc := 0) dX0_init_0 rfl rfl rfl ?_
  refine iN0 (μ := mX0_init) (pc := 1) (μ2 := mX6_init) (cb := 0) (sb := 0) (mc2 := 0) (ms2 := 0) dX0_init_1 rfl rfl lkX0_1 imX6_init mwX6_init (Nat.le_of_ble_eq_true rfl) k_X6_init (fun sh_1 mi_1 mr_1 h_1 => ?_)
  obtain ⟨rfl, rfl, rfl⟩ := h_1
  exact r_vret (μ := mX0_init) (pc := 4) dX0_init_4 rfl ⟨rfl, rfl, rfl, rfl⟩

theorem k_X3_init {d : Nat} {sh : List Sh} {mi : MI} {mr : MR} {a : Nat} : CP (d + 2) mX3_init [.ref a] sh mi mr 0 0 (PW (fun sh2 mi2 mr2 => sh2 = sh ∧ mi2 = mi ∧ mr2 = mr)) := by
  refine CP.of (L := [_]) (by decide) rfl rfl (Nat.le_of_ble_eq_true rfl) ?_
  refine r_aload_n (μ := mX3_init) (pc := 0) dX3_init_0 rfl rfl rfl ?_
  refine iN0 (μ := mX3_init) (pc := 1) (μ2 := mX2_init) (cb := 0) (sb := 0) (mc2 := 0) (ms2 := 0) dX3_init_1 rfl rfl lkX3_1 imX2_init mwX2_init (Nat.le_of_ble_eq_true rfl) k_X2_init (fun sh_1 mi_1 mr_1 h_1 => ?_)
  obtain ⟨rfl, rfl, rfl⟩ := h_1
  exact r_vret (μ := mX3_init) (pc := 4) dX3_init_4 rfl ⟨rfl, rfl, rfl, rfl⟩

def shI (mi : MI) (b : Nat) : MI := upI mi b 0 (-1)
def shR (mr : MR) (b : Nat) : MR := upR mr b 2 (some (b + 1))

theorem k_X7_init {d : Nat} {sh : List Sh} {mi : MI} {mr : MR} {b : Nat} (hL : sh.length = b + 1) (hO : sh[b]? = some (11, 3)) (hz : ∀ a, b ≤ a → mi a = Z0) (hr : ∀ a, b ≤ a → mr a = N0) : CP d mX7_init [.ref b] sh mi mr 1 24 (PW (fun sh2 mi2 mr2 => sh2 = sh ++ [(0, 24)] ∧ mi2 = shI mi b ∧ mr2 = shR mr b)) := by
  refine CP.of (L := [_]) (by decide) rfl rfl (Nat.le_of_ble_eq_true rfl) ?_
  refine r_aload_n (μ := mX7_init) (pc := 0) dX7_init_0 rfl rfl rfl ?_
  refine r_obj (μ := mX7_init) (pc := 1) dX7_init_1 lkX7_3 im_obj cd_obj (Nat.le_of_ble_eq_true rfl) ?_
  refine r_aload_n (μ := mX7_init) (pc := 4) dX7_init_4 rfl rfl rfl ?_
  refine r_iconst (μ := mX7_init) (pc := 5) (v := -1) dX7_init_5 ic_m1 ?_
  refine r_putI (μ := mX7_init) (pc := 6) dX7_init_6 fwX7_9 hO (by decide) rfl ?_
  refine r_aload_n (μ := mX7_init) (pc := 9) dX7_init_9 rfl rfl rfl ?_
  refine r_iconst (μ := mX7_init) (pc := 10) (v := 0) dX7_init_10 ic_0 ?_
  refine r_putI (μ := mX7_init) (pc := 11) dX7_init_11 fwX7_15 hO (by decide) rfl ?_
  rw [us (show _ = (0 : Int32) from by (repeat rw [up_ne (by decide)]); (repeat rw [upI_ne (by omega)]); rw [hz b (Nat.le_refl _)])]
  refine r_aload_n (μ := mX7_init) (pc := 14) dX7_init_14 rfl rfl rfl ?_
  refine r_bipush (μ := mX7_init) (pc := 15) (v := 24) dX7_init_15 bp_24 ?_
  refine r_newiZ (μ := mX7_init) (pc := 17) (N := 24) (a := b + 1) (cb := 0) (sb := 0) dX7_init_17 rfl (by decide) (by simp [hL]) (by (repeat rw [upI_ne (by omega)]); exact hz _ (by omega)) (by (repeat rw [upR_ne (by omega)]); exact hr _ (by omega)) rfl ?_
  refine r_putR (μ := mX7_init) (pc := 19) dX7_init_19 fwX7_18 (sh_l hO) (by decide) rfl ?_
  exact r_vret (μ := mX7_init) (pc := 22) dX7_init_22 rfl ⟨rfl, rfl, rfl, rfl⟩

def wyR (mr : MR) (b c : Nat) : MR := upR (upR (upR (upR mr b 1 (some (b + 1))) b 2 (some (b + 2))) b 3 (some (b + 3))) b 0 (some c)

theorem k_X10_init {d : Nat} {sh : List Sh} {mi : MI} {mr : MR} {b : Nat} (hL : sh.length = b + 1) (hO : sh[b]? = some (14, 4)) (hz : ∀ a, b ≤ a → mi a = Z0) (hr : ∀ a, b ≤ a → mr a = N0) {c : Nat} : CP d mX10_init [.ref b, .ref c] sh mi mr 3 26 (PW (fun sh2 mi2 mr2 => sh2 = sh ++ [(0, 8)] ++ [(0, 8)] ++ [(0, 10)] ∧ mi2 = mi ∧ mr2 = wyR mr b c)) := by
  refine CP.of (L := [_, _]) (by decide) rfl rfl (Nat.le_of_ble_eq_true rfl) ?_
  refine r_aload_n (μ := mX10_init) (pc := 0) dX10_init_0 rfl rfl rfl ?_
  refine r_obj (μ := mX10_init) (pc := 1) dX10_init_1 lkX10_3 im_obj cd_obj (Nat.le_of_ble_eq_true rfl) ?_
  refine r_aload_n (μ := mX10_init) (pc := 4) dX10_init_4 rfl rfl rfl ?_
  refine r_bipush (μ := mX10_init) (pc := 5) (v := 8) dX10_init_5 bp_8 ?_
  refine r_newiZ (μ := mX10_init) (pc := 7) (N := 8) (a := b + 1) (cb := 2) (sb := 18) dX10_init_7 rfl (by decide) (by simp [hL]) (by (repeat rw [upI_ne (by omega)]); exact hz _ (by omega)) (by (repeat rw [upR_ne (by omega)]); exact hr _ (by omega)) rfl ?_
  refine r_putR (μ := mX10_init) (pc := 9) dX10_init_9 fwX10_9 (sh_l hO) (by decide) rfl ?_
  refine r_aload_n (μ := mX10_init) (pc := 12) dX10_init_12 rfl rfl rfl ?_
  refine r_bipush (μ := mX10_init) (pc := 13) (v := 8) dX10_init_13 bp_8 ?_
  refine r_newiZ (μ := mX10_init) (pc := 15) (N := 8) (a := b + 2) (cb := 1) (sb := 10) dX10_init_15 rfl (by decide) (by simp [hL]) (by (repeat rw [upI_ne (by omega)]); exact hz _ (by omega)) (by (repeat rw [upR_ne (by omega)]); exact hr _ (by omega)) rfl ?_
  refine r_putR (μ := mX10_init) (pc := 17) dX10_init_17 fwX10_15 (sh_l (sh_l hO)) (by decide) rfl ?_
  refine r_aload_n (μ := mX10_init) (pc := 20) dX10_init_20 rfl rfl rfl ?_
  refine r_bipush (μ := mX10_init) (pc := 21) (v := 10) dX10_init_21 bp_10 ?_
  refine r_newiZ (μ := mX10_init) (pc := 23) (N := 10) (a := b + 3) (cb := 0) (sb := 0) dX10_init_23 rfl (by decide) (by simp [hL]) (by (repeat rw [upI_ne (by omega)]); exact hz _ (by omega)) (by (repeat rw [upR_ne (by omega)]); exact hr _ (by omega)) rfl ?_
  refine r_putR (μ := mX10_init) (pc := 25) dX10_init_25 fwX10_18 (sh_l (sh_l (sh_l hO))) (by decide) rfl ?_
  refine r_aload_n (μ := mX10_init) (pc := 28) dX10_init_28 rfl rfl rfl ?_
  refine r_aload_n (μ := mX10_init) (pc := 29) dX10_init_29 rfl rfl rfl ?_
  refine r_putR (μ := mX10_init) (pc := 30) dX10_init_30 fwX10_21 (sh_l (sh_l (sh_l hO))) (by decide) rfl ?_
  exact r_vret (μ := mX10_init) (pc := 33) dX10_init_33 rfl ⟨rfl, rfl, rfl, rfl⟩

def rdI (mi : MI) (b : Nat) : MI := upI (upI (upI mi b 4 (-1)) b 5 (-1)) b 6 1
def rdR (mr : MR) (b : Nat) : MR := upR (upR (upR mr b 0 (some (b + 1))) b 7 (some (b + 2))) b 10 (some (b + 3))

theorem k_X5_init {d : Nat} {sh : List Sh} {mi : MI} {mr : MR} {b : Nat} (hL : sh.length = b + 1) (hO : sh[b]? = some (9, 14)) (hz : ∀ a, b ≤ a → mi a = Z0) (hr : ∀ a, b ≤ a → mr a = N0) : CP d mX5_init [.ref b] sh mi mr 3 288 (PW (fun sh2 mi2 mr2 => sh2 = sh ++ [(0, 96)] ++ [(0, 96)] ++ [(0, 96)] ∧ mi2 = rdI mi b ∧ mr2 = rdR mr b)) := by
  refine CP.of (L := [_]) (by decide) rfl rfl (Nat.le_of_ble_eq_true rfl) ?_
  refine r_aload_n (μ := mX5_init) (pc := 0) dX5_init_0 rfl rfl rfl ?_
  refine r_obj (μ := mX5_init) (pc := 1) dX5_init_1 lkX5_3 im_obj cd_obj (Nat.le_of_ble_eq_true rfl) ?_
  refine r_aload_n (μ := mX5_init) (pc := 4) dX5_init_4 rfl rfl rfl ?_
  refine r_bipush (μ := mX5_init) (pc := 5) (v := 96) dX5_init_5 bp_96 ?_
  refine r_newiZ (μ := mX5_init) (pc := 7) (N := 96) (a := b + 1) (cb := 2) (sb := 192) dX5_init_7 rfl (by decide) (by simp [hL]) (by (repeat rw [upI_ne (by omega)]); exact hz _ (by omega)) (by (repeat rw [upR_ne (by omega)]); exact hr _ (by omega)) rfl ?_
  refine r_putR (μ := mX5_init) (pc := 9) dX5_init_9 fwX5_9 (sh_l hO) (by decide) rfl ?_
  refine r_aload_n (μ := mX5_init) (pc := 12) dX5_init_12 rfl rfl rfl ?_
  refine r_iconst (μ := mX5_init) (pc := 13) (v := 0) dX5_init_13 ic_0 ?_
  refine r_putI (μ := mX5_init) (pc := 14) dX5_init_14 fwX5_15 (sh_l hO) (by decide) rfl ?_
  rw [us (show _ = (0 : Int32) from by (repeat rw [up_ne (by decide)]); (repeat rw [upI_ne (by omega)]); rw [hz b (Nat.le_refl _)])]
  refine r_aload_n (μ := mX5_init) (pc := 17) dX5_init_17 rfl rfl rfl ?_
  refine r_iconst (μ := mX5_init) (pc := 18) (v := 0) dX5_init_18 ic_0 ?_
  refine r_putI (μ := mX5_init) (pc := 19) dX5_init_19 fwX5_19 (sh_l hO) (by decide) rfl ?_
  rw [us (show _ = (0 : Int32) from by (repeat rw [up_ne (by decide)]); (repeat rw [upI_ne (by omega)]); rw [hz b (Nat.le_refl _)])]
  refine r_aload_n (μ := mX5_init) (pc := 22) dX5_init_22 rfl rfl rfl ?_
  refine r_iconst (μ := mX5_init) (pc := 23) (v := 0) dX5_init_23 ic_0 ?_
  refine r_putI (μ := mX5_init) (pc := 24) dX5_init_24 fwX5_22 (sh_l hO) (by decide) rfl ?_
  rw [us (show _ = (0 : Int32) from by (repeat rw [up_ne (by decide)]); (repeat rw [upI_ne (by omega)]); rw [hz b (Nat.le_refl _)])]
  refine r_aload_n (μ := mX5_init) (pc := 27) dX5_init_27 rfl rfl rfl ?_
  refine r_iconst (μ := mX5_init) (pc := 28) (v := -1) dX5_init_28 ic_m1 ?_
  refine r_putI (μ := mX5_init) (pc := 29) dX5_init_29 fwX5_25 (sh_l hO) (by decide) rfl ?_
  refine r_aload_n (μ := mX5_init) (pc := 32) dX5_init_32 rfl rfl rfl ?_
  refine r_iconst (μ := mX5_init) (pc := 33) (v := -1) dX5_init_33 ic_m1 ?_
  refine r_putI (μ := mX5_init) (pc := 34) dX5_init_34 fwX5_28 (sh_l hO) (by decide) rfl ?_
  refine r_aload_n (μ := mX5_init) (pc := 37) dX5_init_37 rfl rfl rfl ?_
  refine r_iconst (μ := mX5_init) (pc := 38) (v := 1) dX5_init_38 ic_1 ?_
  refine r_putZ (μ := mX5_init) (pc := 39) dX5_init_39 fwX5_31 (sh_l hO) (by decide) rfl rfl rfl ?_
  refine r_aload_n (μ := mX5_init) (pc := 42) dX5_init_42 rfl rfl rfl ?_
  refine r_bipush (μ := mX5_init) (pc := 43) (v := 96) dX5_init_43 bp_96 ?_
  refine r_newiZ (μ := mX5_init) (pc := 45) (N := 96) (a := b + 2) (cb := 1) (sb := 96) dX5_init_45 rfl (by decide) (by simp [hL]) (by (repeat rw [upI_ne (by omega)]); exact hz _ (by omega)) (by (repeat rw [upR_ne (by omega)]); exact hr _ (by omega)) rfl ?_
  refine r_putR (μ := mX5_init) (pc := 47) dX5_init_47 fwX5_35 (sh_l (sh_l hO)) (by decide) rfl ?_
  refine r_aload_n (μ := mX5_init) (pc := 50) dX5_init_50 rfl rfl rfl ?_
  refine r_iconst (μ := mX5_init) (pc := 51) (v := 0) dX5_init_51 ic_0 ?_
  refine r_putI (μ := mX5_init) (pc := 52) dX5_init_52 fwX5_38 (sh_l (sh_l hO)) (by decide) rfl ?_
  rw [us (show _ = (0 : Int32) from by (repeat rw [up_ne (by decide)]); (repeat rw [upI_ne (by omega)]); rw [hz b (Nat.le_refl _)])]
  refine r_aload_n (μ := mX5_init) (pc := 55) dX5_init_55 rfl rfl rfl ?_
  refine r_iconst (μ := mX5_init) (pc := 56) (v := 0) dX5_init_56 ic_0 ?_
  refine r_putI (μ := mX5_init) (pc := 57) dX5_init_57 fwX5_41 (sh_l (sh_l hO)) (by decide) rfl ?_
  rw [us (show _ = (0 : Int32) from by (repeat rw [up_ne (by decide)]); (repeat rw [upI_ne (by omega)]); rw [hz b (Nat.le_refl _)])]
  refine r_aload_n (μ := mX5_init) (pc := 60) dX5_init_60 rfl rfl rfl ?_
  refine r_bipush (μ := mX5_init) (pc := 61) (v := 96) dX5_init_61 bp_96 ?_
  refine r_newiZ (μ := mX5_init) (pc := 63) (N := 96) (a := b + 3) (cb := 0) (sb := 0) dX5_init_63 rfl (by decide) (by simp [hL]) (by (repeat rw [upI_ne (by omega)]); exact hz _ (by omega)) (by (repeat rw [upR_ne (by omega)]); exact hr _ (by omega)) rfl ?_
  refine r_putR (μ := mX5_init) (pc := 65) dX5_init_65 fwX5_44 (sh_l (sh_l (sh_l hO))) (by decide) rfl ?_
  refine r_aload_n (μ := mX5_init) (pc := 68) dX5_init_68 rfl rfl rfl ?_
  refine r_iconst (μ := mX5_init) (pc := 69) (v := 0) dX5_init_69 ic_0 ?_
  refine r_putI (μ := mX5_init) (pc := 70) dX5_init_70 fwX5_47 (sh_l (sh_l (sh_l hO))) (by decide) rfl ?_
  rw [us (show _ = (0 : Int32) from by (repeat rw [up_ne (by decide)]); (repeat rw [upI_ne (by omega)]); rw [hz b (Nat.le_refl _)])]
  refine r_aload_n (μ := mX5_init) (pc := 73) dX5_init_73 rfl rfl rfl ?_
  refine r_iconst (μ := mX5_init) (pc := 74) (v := 0) dX5_init_74 ic_0 ?_
  refine r_putI (μ := mX5_init) (pc := 75) dX5_init_75 fwX5_50 (sh_l (sh_l (sh_l hO))) (by decide) rfl ?_
  rw [us (show _ = (0 : Int32) from by (repeat rw [up_ne (by decide)]); (repeat rw [upI_ne (by omega)]); rw [hz b (Nat.le_refl _)])]
  refine r_aload_n (μ := mX5_init) (pc := 78) dX5_init_78 rfl rfl rfl ?_
  refine r_iconst (μ := mX5_init) (pc := 79) (v := 0) dX5_init_79 ic_0 ?_
  refine r_putI (μ := mX5_init) (pc := 80) dX5_init_80 fwX5_53 (sh_l (sh_l (sh_l hO))) (by decide) rfl ?_
  rw [us (show _ = (0 : Int32) from by (repeat rw [up_ne (by decide)]); (repeat rw [upI_ne (by omega)]); rw [hz b (Nat.le_refl _)])]
  exact r_vret (μ := mX5_init) (pc := 83) dX5_init_83 rfl ⟨rfl, rfl, rfl, rfl⟩

def tnI (mi : MI) (b : Nat) : MI := upI (upI (upI (upI (upI mi b 14 20) b 15 1) (b + 10) 0 (-1)) (b + 10) 1 (-1)) (b + 10) 2 (-1)
def tnR (mr : MR) (b c : Nat) : MR := upR (upR (upR (upR (upR (upR (upR (upR (upR (upR (upR (upR mr b 2 (some (b + 1))) b 3 (some (b + 2))) b 5 (some (b + 3))) b 6 (some (b + 4))) b 7 (some (b + 5))) b 8 (some (b + 6))) b 11 (some (b + 7))) b 12 (some (b + 8))) b 17 (some (b + 9))) b 18 (some (b + 10))) b 19 (some (b + 11))) b 0 (some c)

theorem k_X9_init {d : Nat} {sh : List Sh} {mi : MI} {mr : MR} {b : Nat} (hL : sh.length = b + 1) (hO : sh[b]? = some (13, 20)) (hz : ∀ a, b ≤ a → mi a = Z0) (hr : ∀ a, b ≤ a → mr a = N0) {c : Nat} : CP d mX9_init [.ref b, .ref c] sh mi mr 11 177 (PW (fun sh2 mi2 mr2 => sh2 = sh ++ shT.tail ∧ mi2 = tnI mi b ∧ mr2 = tnR mr b c)) := by
  refine CP.of (L := [_, _]) (by decide) rfl rfl (Nat.le_of_ble_eq_true rfl) ?_
  refine r_aload_n (μ := mX9_init) (pc := 0) dX9_init_0 rfl rfl rfl ?_
  refine r_obj (μ := mX9_init) (pc := 1) dX9_init_1 lkX9_3 im_obj cd_obj (Nat.le_of_ble_eq_true rfl) ?_
  refine r_aload_n (μ := mX9_init) (pc := 4) dX9_init_4 rfl rfl rfl ?_
  refine r_iconst (μ := mX9_init) (pc := 5) (v := 0) dX9_init_5 ic_0 ?_
  refine r_putI (μ := mX9_init) (pc := 6) dX9_init_6 fwX9_9 hO (by decide) rfl ?_
  rw [us (show _ = (0 : Int32) from by (repeat rw [up_ne (by decide)]); (repeat rw [upI_ne (by omega)]); rw [hz b (Nat.le_refl _)])]
  refine r_aload_n (μ := mX9_init) (pc := 9) dX9_init_9 rfl rfl rfl ?_
  refine r_bipush (μ := mX9_init) (pc := 10) (v := 10) dX9_init_10 bp_10 ?_
  refine r_newiZ (μ := mX9_init) (pc := 12) (N := 10) (a := b + 1) (cb := 10) (sb := 167) dX9_init_12 rfl (by decide) (by simp [hL]) (by (repeat rw [upI_ne (by omega)]); exact hz _ (by omega)) (by (repeat rw [upR_ne (by omega)]); exact hr _ (by omega)) rfl ?_
  refine r_putR (μ := mX9_init) (pc := 14) dX9_init_14 fwX9_15 (sh_l hO) (by decide) rfl ?_
  refine r_aload_n (μ := mX9_init) (pc := 17) dX9_init_17 rfl rfl rfl ?_
  refine r_bipush (μ := mX9_init) (pc := 18) (v := 10) dX9_init_18 bp_10 ?_
  refine r_newiZ (μ := mX9_init) (pc := 20) (N := 10) (a := b + 2) (cb := 9) (sb := 157) dX9_init_20 rfl (by decide) (by simp [hL]) (by (repeat rw [upI_ne (by omega)]); exact hz _ (by omega)) (by (repeat rw [upR_ne (by omega)]); exact hr _ (by omega)) rfl ?_
  refine r_putR (μ := mX9_init) (pc := 22) dX9_init_22 fwX9_19 (sh_l (sh_l hO)) (by decide) rfl ?_
  refine r_aload_n (μ := mX9_init) (pc := 25) dX9_init_25 rfl rfl rfl ?_
  refine r_iconst (μ := mX9_init) (pc := 26) (v := 0) dX9_init_26 ic_0 ?_
  refine r_putI (μ := mX9_init) (pc := 27) dX9_init_27 fwX9_22 (sh_l (sh_l hO)) (by decide) rfl ?_
  rw [us (show _ = (0 : Int32) from by (repeat rw [up_ne (by decide)]); (repeat rw [upI_ne (by omega)]); rw [hz b (Nat.le_refl _)])]
  refine r_aload_n (μ := mX9_init) (pc := 30) dX9_init_30 rfl rfl rfl ?_
  refine r_bipush (μ := mX9_init) (pc := 31) (v := 8) dX9_init_31 bp_8 ?_
  refine r_newiZ (μ := mX9_init) (pc := 33) (N := 8) (a := b + 3) (cb := 8) (sb := 149) dX9_init_33 rfl (by decide) (by simp [hL]) (by (repeat rw [upI_ne (by omega)]); exact hz _ (by omega)) (by (repeat rw [upR_ne (by omega)]); exact hr _ (by omega)) rfl ?_
  refine r_putR (μ := mX9_init) (pc := 35) dX9_init_35 fwX9_25 (sh_l (sh_l (sh_l hO))) (by decide) rfl ?_
  refine r_aload_n (μ := mX9_init) (pc := 38) dX9_init_38 rfl rfl rfl ?_
  refine r_bipush (μ := mX9_init) (pc := 39) (v := 8) dX9_init_39 bp_8 ?_
  refine r_newiZ (μ := mX9_init) (pc := 41) (N := 8) (a := b + 4) (cb := 7) (sb := 141) dX9_init_41 rfl (by decide) (by simp [hL]) (by (repeat rw [upI_ne (by omega)]); exact hz _ (by omega)) (by (repeat rw [upR_ne (by omega)]); exact hr _ (by omega)) rfl ?_
  refine r_putR (μ := mX9_init) (pc := 43) dX9_init_43 fwX9_28 (sh_l (sh_l (sh_l (sh_l hO)))) (by decide) rfl ?_
  refine r_aload_n (μ := mX9_init) (pc := 46) dX9_init_46 rfl rfl rfl ?_
  refine r_bipush (μ := mX9_init) (pc := 47) (v := 8) dX9_init_47 bp_8 ?_
  refine r_newiZ (μ := mX9_init) (pc := 49) (N := 8) (a := b + 5) (cb := 6) (sb := 133) dX9_init_49 rfl (by decide) (by simp [hL]) (by (repeat rw [upI_ne (by omega)]); exact hz _ (by omega)) (by (repeat rw [upR_ne (by omega)]); exact hr _ (by omega)) rfl ?_
  refine r_putR (μ := mX9_init) (pc := 51) dX9_init_51 fwX9_31 (sh_l (sh_l (sh_l (sh_l (sh_l hO))))) (by decide) rfl ?_
  refine r_aload_n (μ := mX9_init) (pc := 54) dX9_init_54 rfl rfl rfl ?_
  refine r_bipush (μ := mX9_init) (pc := 55) (v := 8) dX9_init_55 bp_8 ?_
  refine r_newiZ (μ := mX9_init) (pc := 57) (N := 8) (a := b + 6) (cb := 5) (sb := 125) dX9_init_57 rfl (by decide) (by simp [hL]) (by (repeat rw [upI_ne (by omega)]); exact hz _ (by omega)) (by (repeat rw [upR_ne (by omega)]); exact hr _ (by omega)) rfl ?_
  refine r_putR (μ := mX9_init) (pc := 59) dX9_init_59 fwX9_34 (sh_l (sh_l (sh_l (sh_l (sh_l (sh_l hO)))))) (by decide) rfl ?_
  refine r_aload_n (μ := mX9_init) (pc := 62) dX9_init_62 rfl rfl rfl ?_
  refine r_iconst (μ := mX9_init) (pc := 63) (v := 0) dX9_init_63 ic_0 ?_
  refine r_putI (μ := mX9_init) (pc := 64) dX9_init_64 fwX9_37 (sh_l (sh_l (sh_l (sh_l (sh_l (sh_l hO)))))) (by decide) rfl ?_
  rw [us (show _ = (0 : Int32) from by (repeat rw [up_ne (by decide)]); (repeat rw [upI_ne (by omega)]); rw [hz b (Nat.le_refl _)])]
  refine r_aload_n (μ := mX9_init) (pc := 67) dX9_init_67 rfl rfl rfl ?_
  refine r_iconst (μ := mX9_init) (pc := 68) (v := 0) dX9_init_68 ic_0 ?_
  refine r_putI (μ := mX9_init) (pc := 69) dX9_init_69 fwX9_40 (sh_l (sh_l (sh_l (sh_l (sh_l (sh_l hO)))))) (by decide) rfl ?_
  rw [us (show _ = (0 : Int32) from by (repeat rw [up_ne (by decide)]); (repeat rw [upI_ne (by omega)]); rw [hz b (Nat.le_refl _)])]
  refine r_aload_n (μ := mX9_init) (pc := 72) dX9_init_72 rfl rfl rfl ?_
  refine r_bipush (μ := mX9_init) (pc := 73) (v := 6) dX9_init_73 bp_6 ?_
  refine r_newiZ (μ := mX9_init) (pc := 75) (N := 6) (a := b + 7) (cb := 4) (sb := 119) dX9_init_75 rfl (by decide) (by simp [hL]) (by (repeat rw [upI_ne (by omega)]); exact hz _ (by omega)) (by (repeat rw [upR_ne (by omega)]); exact hr _ (by omega)) rfl ?_
  refine r_putR (μ := mX9_init) (pc := 77) dX9_init_77 fwX9_43 (sh_l (sh_l (sh_l (sh_l (sh_l (sh_l (sh_l hO))))))) (by decide) rfl ?_
  refine r_aload_n (μ := mX9_init) (pc := 80) dX9_init_80 rfl rfl rfl ?_
  refine r_bipush (μ := mX9_init) (pc := 81) (v := 6) dX9_init_81 bp_6 ?_
  refine r_newiZ (μ := mX9_init) (pc := 83) (N := 6) (a := b + 8) (cb := 3) (sb := 113) dX9_init_83 rfl (by decide) (by simp [hL]) (by (repeat rw [upI_ne (by omega)]); exact hz _ (by omega)) (by (repeat rw [upR_ne (by omega)]); exact hr _ (by omega)) rfl ?_
  refine r_putR (μ := mX9_init) (pc := 85) dX9_init_85 fwX9_46 (sh_l (sh_l (sh_l (sh_l (sh_l (sh_l (sh_l (sh_l hO)))))))) (by decide) rfl ?_
  refine r_aload_n (μ := mX9_init) (pc := 88) dX9_init_88 rfl rfl rfl ?_
  refine r_iconst (μ := mX9_init) (pc := 89) (v := 0) dX9_init_89 ic_0 ?_
  refine r_putI (μ := mX9_init) (pc := 90) dX9_init_90 fwX9_49 (sh_l (sh_l (sh_l (sh_l (sh_l (sh_l (sh_l (sh_l hO)))))))) (by decide) rfl ?_
  rw [us (show _ = (0 : Int32) from by (repeat rw [up_ne (by decide)]); (repeat rw [upI_ne (by omega)]); rw [hz b (Nat.le_refl _)])]
  refine r_aload_n (μ := mX9_init) (pc := 93) dX9_init_93 rfl rfl rfl ?_
  refine r_bipush (μ := mX9_init) (pc := 94) (v := 20) dX9_init_94 bp_20 ?_
  refine r_putI (μ := mX9_init) (pc := 96) dX9_init_96 fwX9_52 (sh_l (sh_l (sh_l (sh_l (sh_l (sh_l (sh_l (sh_l hO)))))))) (by decide) rfl ?_
  refine r_aload_n (μ := mX9_init) (pc := 99) dX9_init_99 rfl rfl rfl ?_
  refine r_iconst (μ := mX9_init) (pc := 100) (v := 1) dX9_init_100 ic_1 ?_
  refine r_putI (μ := mX9_init) (pc := 101) dX9_init_101 fwX9_55 (sh_l (sh_l (sh_l (sh_l (sh_l (sh_l (sh_l (sh_l hO)))))))) (by decide) rfl ?_
  refine r_aload_n (μ := mX9_init) (pc := 104) dX9_init_104 rfl rfl rfl ?_
  refine r_iconst (μ := mX9_init) (pc := 105) (v := 0) dX9_init_105 ic_0 ?_
  refine r_putI (μ := mX9_init) (pc := 106) dX9_init_106 fwX9_58 (sh_l (sh_l (sh_l (sh_l (sh_l (sh_l (sh_l (sh_l hO)))))))) (by decide) rfl ?_
  rw [us (show _ = (0 : Int32) from by (repeat rw [up_ne (by decide)]); (repeat rw [upI_ne (by omega)]); rw [hz b (Nat.le_refl _)])]
  refine r_aload_n (μ := mX9_init) (pc := 109) dX9_init_109 rfl rfl rfl ?_
  refine r_bipush (μ := mX9_init) (pc := 110) (v := 14) dX9_init_110 bp_14 ?_
  refine r_newqZ (t := 2) (μ := mX9_init) (pc := 112) (N := 14) (a := b + 9) (cb := 2) (sb := 99) dX9_init_112 (by decide) klX9_61 rfl (by decide) (by simp [hL]) (by (repeat rw [upI_ne (by omega)]); exact hz _ (by omega)) (by (repeat rw [upR_ne (by omega)]); exact hr _ (by omega)) rfl ?_
  refine r_putR (μ := mX9_init) (pc := 115) dX9_init_115 fwX9_63 (sh_l (sh_l (sh_l (sh_l (sh_l (sh_l (sh_l (sh_l (sh_l hO))))))))) (by decide) rfl ?_
  refine r_aload_n (μ := mX9_init) (pc := 118) dX9_init_118 rfl rfl rfl ?_
  refine r_iconst (μ := mX9_init) (pc := 119) (v := 3) dX9_init_119 ic_3 ?_
  refine r_newiZ (μ := mX9_init) (pc := 120) (N := 3) (a := b + 10) (cb := 1) (sb := 96) dX9_init_120 rfl (by decide) (by simp [hL]) (by (repeat rw [upI_ne (by omega)]); exact hz _ (by omega)) (by (repeat rw [upR_ne (by omega)]); exact hr _ (by omega)) rfl ?_
  refine r_dup (μ := mX9_init) (pc := 122) dX9_init_122 rfl ?_
  refine r_iconst (μ := mX9_init) (pc := 123) (v := 0) dX9_init_123 ic_0 ?_
  refine r_iconst (μ := mX9_init) (pc := 124) (v := -1) dX9_init_124 ic_m1 ?_
  refine r_iastore (μ := mX9_init) (pc := 125) (j := 0) dX9_init_125 (by rw [show b + 10 = (sh ++ [(0, 10)] ++ [(0, 10)] ++ [(0, 8)] ++ [(0, 8)] ++ [(0, 8)] ++ [(0, 8)] ++ [(0, 6)] ++ [(0, 6)] ++ [(3, 14)]).length from by simp [hL]]; exact sh_n) rfl (by decide) (by decide) ?_
  refine r_dup (μ := mX9_init) (pc := 126) dX9_init_126 rfl ?_
  refine r_iconst (μ := mX9_init) (pc := 127) (v := 1) dX9_init_127 ic_1 ?_
  refine r_iconst (μ := mX9_init) (pc := 128) (v := -1) dX9_init_128 ic_m1 ?_
  refine r_iastore (μ := mX9_init) (pc := 129) (j := 1) dX9_init_129 (by rw [show b + 10 = (sh ++ [(0, 10)] ++ [(0, 10)] ++ [(0, 8)] ++ [(0, 8)] ++ [(0, 8)] ++ [(0, 8)] ++ [(0, 6)] ++ [(0, 6)] ++ [(3, 14)]).length from by simp [hL]]; exact sh_n) rfl (by decide) (by decide) ?_
  refine r_dup (μ := mX9_init) (pc := 130) dX9_init_130 rfl ?_
  refine r_iconst (μ := mX9_init) (pc := 131) (v := 2) dX9_init_131 ic_2 ?_
  refine r_iconst (μ := mX9_init) (pc := 132) (v := -1) dX9_init_132 ic_m1 ?_
  refine r_iastore (μ := mX9_init) (pc := 133) (j := 2) dX9_init_133 (by rw [show b + 10 = (sh ++ [(0, 10)] ++ [(0, 10)] ++ [(0, 8)] ++ [(0, 8)] ++ [(0, 8)] ++ [(0, 8)] ++ [(0, 6)] ++ [(0, 6)] ++ [(3, 14)]).length from by simp [hL]]; exact sh_n) rfl (by decide) (by decide) ?_
  refine r_putR (μ := mX9_init) (pc := 134) dX9_init_134 fwX9_67 (sh_l (sh_l (sh_l (sh_l (sh_l (sh_l (sh_l (sh_l (sh_l (sh_l hO)))))))))) (by decide) rfl ?_
  refine r_aload_n (μ := mX9_init) (pc := 137) dX9_init_137 rfl rfl rfl ?_
  refine r_bipush (μ := mX9_init) (pc := 138) (v := 96) dX9_init_138 bp_96 ?_
  refine r_newiZ (μ := mX9_init) (pc := 140) (N := 96) (a := b + 11) (cb := 0) (sb := 0) dX9_init_140 rfl (by decide) (by simp [hL]) (by (repeat rw [upI_ne (by omega)]); exact hz _ (by omega)) (by (repeat rw [upR_ne (by omega)]); exact hr _ (by omega)) rfl ?_
  refine r_putR (μ := mX9_init) (pc := 142) dX9_init_142 fwX9_70 (sh_l (sh_l (sh_l (sh_l (sh_l (sh_l (sh_l (sh_l (sh_l (sh_l (sh_l hO))))))))))) (by decide) rfl ?_
  refine r_aload_n (μ := mX9_init) (pc := 145) dX9_init_145 rfl rfl rfl ?_
  refine r_aload_n (μ := mX9_init) (pc := 146) dX9_init_146 rfl rfl rfl ?_
  refine r_putR (μ := mX9_init) (pc := 147) dX9_init_147 fwX9_73 (sh_l (sh_l (sh_l (sh_l (sh_l (sh_l (sh_l (sh_l (sh_l (sh_l (sh_l hO))))))))))) (by decide) rfl ?_
  exact r_vret (μ := mX9_init) (pc := 150) dX9_init_150 rfl ⟨rfl, by simp [shT], rfl, rfl⟩

