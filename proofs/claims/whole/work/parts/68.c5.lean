theorem r_aastoreN {d : Nat} {μ : Mt} {pc : Nat} {L S : List Value} {sh : List Sh} {mi : MI} {mr : MR} {cb sb : Nat} {Q : QT} {n a j : Nat} {i : Int32} (hd : decode μ.2.1 pc = .ok (.aastore, 1)) (h : sh[a]? = some (3, n)) (hi : i = nI j) (hj : j < n) (hn : n < 2147483648) (k : WP d μ (pc + 1) L (S) sh mi (upR mr a j none) cb sb Q) : WP d μ (pc) L (.null :: .int i :: .ref a :: S) sh mi mr cb sb Q := by
  intro l E p e s m args below meth c H locs cells slots mc ms ls hC hT hG hφ hS hA hz hP hl hc hs
  have hC0 := hC
  obtain ⟨hx, hb, hr, hml, hown, hlk, hnm⟩ := hC
  have hcl : i.toNatClampNeg = j := by rw [hi, nI_clamp (Nat.lt_trans hj hn)]
  have hin : vp_in i n := by rw [hi]; exact vp_in_nI hj hn
  have hc1 : H[E.1 a]? = some (vp_cell (E.2.1 3) (n, .inr (.inr (.inr (.inr (fun i => (mr a i).map E.1)))))) := hP a _ (wld_at h)
  refine va_WaastN (C := RX8) hx hb hc1 ((hT.1.2 3 _ rfl).1 n (fun j => va_rf ((mr a j).map E.1))) (fun q => by cases q) (by show ¬ (i < 0 ∨ (arrV _ _ _).slots.size ≤ _); rw [arrV_size]; exact hin) rfl rfl hd fun H1 e1 z oq => ?_
  refine k l E p e s m args below meth c H1 _ cells slots mc ms ls hC0 hT hG hφ (hS.put z oq ⟨a, rfl⟩) hA (z.trans hz) (fin_set h hφ hP oq ?_ (fun j hj => rfl) (fun j hj => upR_ne hj)) hl hc hs
  show H1[E.1 a]? = some (vp_cell (E.2.1 3) (n, .inr (.inr (.inr (.inr (fun i => (upR mr a j none a i).map E.1))))))
  rw [e1, upR_self, hcl, vp_cell_q, vp_cell_q, arrV_store]
  congr 2
  funext q
  by_cases hq : q = j
  · subst hq
    simp [updV, va_up, va_rf]
  · simp [updV, va_up, hq]

theorem k_addLedge {d : Nat} {sh : List Sh} {mi : MI} {mr : MR} {b : Nat} (hT : TB sh mr b) {n : Nat} (hn : mi b 1 = nI n) (h9 : n < 10) {x y : Int32} : CP (d) mX9_addLedge [.ref b, .int x, .int y] sh mi mr 0 0 (PX sh mr (fun r mi2 => r = nI n ∧ mi2 = upI (upI (upI mi (b + 1) n x) (b + 2) n y) b 1 (nI (n + 1)))) := by
  refine CP.of (L := [_, _, _]) (by decide) rfl rfl (Nat.le_of_ble_eq_true rfl) ?_
  refine r_aload_n (μ := mX9_addLedge) (pc := 0) dX9_addLedge_0 rfl rfl rfl ?_
  refine r_getR (μ := mX9_addLedge) (pc := 1) dX9_addLedge_1 fpX9_15 rfl (hT.1 0 _ rfl) (by decide) (hT.2.1 _ _ rfl) ?_
  refine r_aload_n (μ := mX9_addLedge) (pc := 4) dX9_addLedge_4 rfl rfl rfl ?_
  refine r_getI (μ := mX9_addLedge) (pc := 5) dX9_addLedge_5 fpX9_9 rfl (hT.1 0 _ rfl) (by decide) ?_
  rw [hn]
  refine r_iload_n (μ := mX9_addLedge) (pc := 8) dX9_addLedge_8 rfl rfl ?_
  refine r_iastore (μ := mX9_addLedge) (pc := 9) (j := n) dX9_addLedge_9 (hT.1 _ _ rfl) rfl (by omega) (by decide) ?_
  refine r_aload_n (μ := mX9_addLedge) (pc := 10) dX9_addLedge_10 rfl rfl rfl ?_
  refine r_getR (μ := mX9_addLedge) (pc := 11) dX9_addLedge_11 fpX9_19 rfl (hT.1 0 _ rfl) (by decide) (hT.2.1 _ _ rfl) ?_
  refine r_aload_n (μ := mX9_addLedge) (pc := 14) dX9_addLedge_14 rfl rfl rfl ?_
  refine r_getI (μ := mX9_addLedge) (pc := 15) dX9_addLedge_15 fpX9_9 rfl (hT.1 0 _ rfl) (by decide) ?_
  rw [up_oth (by omega), hn]
  refine r_iload_n (μ := mX9_addLedge) (pc := 18) dX9_addLedge_18 rfl rfl ?_
  refine r_iastore (μ := mX9_addLedge) (pc := 19) (j := n) dX9_addLedge_19 (hT.1 _ _ rfl) rfl (by omega) (by decide) ?_
  refine r_aload_n (μ := mX9_addLedge) (pc := 20) dX9_addLedge_20 rfl rfl rfl ?_
  refine r_dup (μ := mX9_addLedge) (pc := 21) dX9_addLedge_21 rfl ?_
  refine r_getI (μ := mX9_addLedge) (pc := 22) dX9_addLedge_22 fpX9_9 rfl (hT.1 0 _ rfl) (by decide) ?_
  rw [up_oth (by omega), up_oth (by omega), hn]
  refine r_iconst (μ := mX9_addLedge) (pc := 25) (v := 1) dX9_addLedge_25 ic_1 ?_
  refine r_iadd (μ := mX9_addLedge) (pc := 26) dX9_addLedge_26 ?_
  rw [show nI n + 1 = nI (n + 1) from (nI_succ n).symm]
  refine r_putI (μ := mX9_addLedge) (pc := 27) dX9_addLedge_27 fwX9_9 (hT.1 0 _ rfl) (by decide) rfl ?_
  refine r_aload_n (μ := mX9_addLedge) (pc := 30) dX9_addLedge_30 rfl rfl rfl ?_
  refine r_getI (μ := mX9_addLedge) (pc := 31) dX9_addLedge_31 fpX9_9 rfl (hT.1 0 _ rfl) (by decide) ?_
  rw [up_eq]
  refine r_iconst (μ := mX9_addLedge) (pc := 34) (v := 1) dX9_addLedge_34 ic_1 ?_
  refine r_isub (μ := mX9_addLedge) (pc := 35) dX9_addLedge_35 ?_
  rw [nI_pred]
  exact r_iret (μ := mX9_addLedge) (pc := 36) dX9_addLedge_36 rfl rfl (PX_i ⟨rfl, rfl⟩)

theorem k_addPerson {d : Nat} {sh : List Sh} {mi : MI} {mr : MR} {b : Nat} (hT : TB sh mr b) {n : Nat} (hn : mi b 10 = nI n) (h9 : n < 6) {x y : Int32} : CP (d) mX9_addPerson [.ref b, .int x, .int y] sh mi mr 0 0 (PX sh mr (fun r mi2 => r = nI n ∧ mi2 = upI (upI (upI mi (b + 7) n x) (b + 8) n y) b 10 (nI (n + 1)))) := by
  refine CP.of (L := [_, _, _]) (by decide) rfl rfl (Nat.le_of_ble_eq_true rfl) ?_
  refine r_aload_n (μ := mX9_addPerson) (pc := 0) dX9_addPerson_0 rfl rfl rfl ?_
  refine r_getR (μ := mX9_addPerson) (pc := 1) dX9_addPerson_1 fpX9_43 rfl (hT.1 0 _ rfl) (by decide) (hT.2.1 _ _ rfl) ?_
  refine r_aload_n (μ := mX9_addPerson) (pc := 4) dX9_addPerson_4 rfl rfl rfl ?_
  refine r_getI (μ := mX9_addPerson) (pc := 5) dX9_addPerson_5 fpX9_40 rfl (hT.1 0 _ rfl) (by decide) ?_
  rw [hn]
  refine r_iload_n (μ := mX9_addPerson) (pc := 8) dX9_addPerson_8 rfl rfl ?_
  refine r_iastore (μ := mX9_addPerson) (pc := 9) (j := n) dX9_addPerson_9 (hT.1 _ _ rfl) rfl (by omega) (by decide) ?_
  refine r_aload_n (μ := mX9_addPerson) (pc := 10) dX9_addPerson_10 rfl rfl rfl ?_
  refine r_getR (μ := mX9_addPerson) (pc := 11) dX9_addPerson_11 fpX9_46 rfl (hT.1 0 _ rfl) (by decide) (hT.2.1 _ _ rfl) ?_
  refine r_aload_n (μ := mX9_addPerson) (pc := 14) dX9_addPerson_14 rfl rfl rfl ?_
  refine r_getI (μ := mX9_addPerson) (pc := 15) dX9_addPerson_15 fpX9_40 rfl (hT.1 0 _ rfl) (by decide) ?_
  rw [up_oth (by omega), hn]
  refine r_iload_n (μ := mX9_addPerson) (pc := 18) dX9_addPerson_18 rfl rfl ?_
  refine r_iastore (μ := mX9_addPerson) (pc := 19) (j := n) dX9_addPerson_19 (hT.1 _ _ rfl) rfl (by omega) (by decide) ?_
  refine r_aload_n (μ := mX9_addPerson) (pc := 20) dX9_addPerson_20 rfl rfl rfl ?_
  refine r_dup (μ := mX9_addPerson) (pc := 21) dX9_addPerson_21 rfl ?_
  refine r_getI (μ := mX9_addPerson) (pc := 22) dX9_addPerson_22 fpX9_40 rfl (hT.1 0 _ rfl) (by decide) ?_
  rw [up_oth (by omega), up_oth (by omega), hn]
  refine r_iconst (μ := mX9_addPerson) (pc := 25) (v := 1) dX9_addPerson_25 ic_1 ?_
  refine r_iadd (μ := mX9_addPerson) (pc := 26) dX9_addPerson_26 ?_
  rw [show nI n + 1 = nI (n + 1) from (nI_succ n).symm]
  refine r_putI (μ := mX9_addPerson) (pc := 27) dX9_addPerson_27 fwX9_40 (hT.1 0 _ rfl) (by decide) rfl ?_
  refine r_aload_n (μ := mX9_addPerson) (pc := 30) dX9_addPerson_30 rfl rfl rfl ?_
  refine r_getI (μ := mX9_addPerson) (pc := 31) dX9_addPerson_31 fpX9_40 rfl (hT.1 0 _ rfl) (by decide) ?_
  rw [up_eq]
  refine r_iconst (μ := mX9_addPerson) (pc := 34) (v := 1) dX9_addPerson_34 ic_1 ?_
  refine r_isub (μ := mX9_addPerson) (pc := 35) dX9_addPerson_35 ?_
  rw [nI_pred]
  exact r_iret (μ := mX9_addPerson) (pc := 36) dX9_addPerson_36 rfl rfl (PX_i ⟨rfl, rfl⟩)

theorem k_addLadder {d : Nat} {sh : List Sh} {mi : MI} {mr : MR} {b : Nat} (hT : TB sh mr b) {n : Nat} (hn : mi b 4 = nI n) (h9 : n < 8) {x y z w : Int32} : CP (d) mX9_addLadder [.ref b, .int x, .int y, .int z, .int w] sh mi mr 0 0 (PX sh mr (fun r mi2 => r = nI n ∧ mi2 = upI (upI (upI (upI (upI mi (b + 3) n x) (b + 4) n y) (b + 5) n z) (b + 6) n w) b 4 (nI (n + 1)))) := by
  refine CP.of (L := [_, _, _, _, _]) (by decide) rfl rfl (Nat.le_of_ble_eq_true rfl) ?_
  refine r_aload_n (μ := mX9_addLadder) (pc := 0) dX9_addLadder_0 rfl rfl rfl ?_
  refine r_getR (μ := mX9_addLadder) (pc := 1) dX9_addLadder_1 fpX9_25 rfl (hT.1 0 _ rfl) (by decide) (hT.2.1 _ _ rfl) ?_
  refine r_aload_n (μ := mX9_addLadder) (pc := 4) dX9_addLadder_4 rfl rfl rfl ?_
  refine r_getI (μ := mX9_addLadder) (pc := 5) dX9_addLadder_5 fpX9_22 rfl (hT.1 0 _ rfl) (by decide) ?_
  rw [hn]
  refine r_iload_n (μ := mX9_addLadder) (pc := 8) dX9_addLadder_8 rfl rfl ?_
  refine r_iastore (μ := mX9_addLadder) (pc := 9) (j := n) dX9_addLadder_9 (hT.1 _ _ rfl) rfl (by omega) (by decide) ?_
  refine r_aload_n (μ := mX9_addLadder) (pc := 10) dX9_addLadder_10 rfl rfl rfl ?_
  refine r_getR (μ := mX9_addLadder) (pc := 11) dX9_addLadder_11 fpX9_28 rfl (hT.1 0 _ rfl) (by decide) (hT.2.1 _ _ rfl) ?_
  refine r_aload_n (μ := mX9_addLadder) (pc := 14) dX9_addLadder_14 rfl rfl rfl ?_
  refine r_getI (μ := mX9_addLadder) (pc := 15) dX9_addLadder_15 fpX9_22 rfl (hT.1 0 _ rfl) (by decide) ?_
  rw [up_oth (by omega), hn]
  refine r_iload_n (μ := mX9_addLadder) (pc := 18) dX9_addLadder_18 rfl rfl ?_
  refine r_iastore (μ := mX9_addLadder) (pc := 19) (j := n) dX9_addLadder_19 (hT.1 _ _ rfl) rfl (by omega) (by decide) ?_
  refine r_aload_n (μ := mX9_addLadder) (pc := 20) dX9_addLadder_20 rfl rfl rfl ?_
  refine r_getR (μ := mX9_addLadder) (pc := 21) dX9_addLadder_21 fpX9_31 rfl (hT.1 0 _ rfl) (by decide) (hT.2.1 _ _ rfl) ?_
  refine r_aload_n (μ := mX9_addLadder) (pc := 24) dX9_addLadder_24 rfl rfl rfl ?_
  refine r_getI (μ := mX9_addLadder) (pc := 25) dX9_addLadder_25 fpX9_22 rfl (hT.1 0 _ rfl) (by decide) ?_
  rw [up_oth (by omega), up_oth (by omega), hn]
  refine r_iload_n (μ := mX9_addLadder) (pc := 28) dX9_addLadder_28 rfl rfl ?_
  refine r_iastore (μ := mX9_addLadder) (pc := 29) (j := n) dX9_addLadder_29 (hT.1 _ _ rfl) rfl (by omega) (by decide) ?_
  refine r_aload_n (μ := mX9_addLadder) (pc := 30) dX9_addLadder_30 rfl rfl rfl ?_
  refine r_getR (μ := mX9_addLadder) (pc := 31) dX9_addLadder_31 fpX9_34 rfl (hT.1 0 _ rfl) (by decide) (hT.2.1 _ _ rfl) ?_
  refine r_aload_n (μ := mX9_addLadder) (pc := 34) dX9_addLadder_34 rfl rfl rfl ?_
  refine r_getI (μ := mX9_addLadder) (pc := 35) dX9_addLadder_35 fpX9_22 rfl (hT.1 0 _ rfl) (by decide) ?_
  rw [up_oth (by omega), up_oth (by omega), up_oth (by omega), hn]
  refine r_iload (μ := mX9_addLadder) (pc := 38) dX9_addLadder_38 rfl ?_
  refine r_iastore (μ := mX9_addLadder) (pc := 40) (j := n) dX9_addLadder_40 (hT.1 _ _ rfl) rfl (by omega) (by decide) ?_
  refine r_aload_n (μ := mX9_addLadder) (pc := 41) dX9_addLadder_41 rfl rfl rfl ?_
  refine r_dup (μ := mX9_addLadder) (pc := 42) dX9_addLadder_42 rfl ?_
  refine r_getI (μ := mX9_addLadder) (pc := 43) dX9_addLadder_43 fpX9_22 rfl (hT.1 0 _ rfl) (by decide) ?_
  rw [up_oth (by omega), up_oth (by omega), up_oth (by omega), up_oth (by omega), hn]
  refine r_iconst (μ := mX9_addLadder) (pc := 46) (v := 1) dX9_addLadder_46 ic_1 ?_
  refine r_iadd (μ := mX9_addLadder) (pc := 47) dX9_addLadder_47 ?_
  rw [show nI n + 1 = nI (n + 1) from (nI_succ n).symm]
  refine r_putI (μ := mX9_addLadder) (pc := 48) dX9_addLadder_48 fwX9_22 (hT.1 0 _ rfl) (by decide) rfl ?_
  refine r_aload_n (μ := mX9_addLadder) (pc := 51) dX9_addLadder_51 rfl rfl rfl ?_
  refine r_getI (μ := mX9_addLadder) (pc := 52) dX9_addLadder_52 fpX9_22 rfl (hT.1 0 _ rfl) (by decide) ?_
  rw [up_eq]
  refine r_iconst (μ := mX9_addLadder) (pc := 55) (v := 1) dX9_addLadder_55 ic_1 ?_
  refine r_isub (μ := mX9_addLadder) (pc := 56) dX9_addLadder_56 ?_
  rw [nI_pred]
  exact r_iret (μ := mX9_addLadder) (pc := 57) dX9_addLadder_57 rfl rfl (PX_i ⟨rfl, rfl⟩)

theorem k_draw {d : Nat} {sh : List Sh} {mi : MI} {mr : MR} {b : Nat} (hT : TB sh mr b) : CP (d) mX9_draw [.ref b] sh mi mr 0 0 (PX sh mr (fun r mi2 => r = drw (nz (mi b 15)) ∧ mi2 = upI mi b 15 (nz (mi b 15)))) := by
  refine CP.of (L := [_]) (by decide) rfl rfl (Nat.le_of_ble_eq_true rfl) ?_
  refine r_aload_n (μ := mX9_draw) (pc := 0) dX9_draw_0 rfl rfl rfl ?_
  refine r_aload_n (μ := mX9_draw) (pc := 1) dX9_draw_1 rfl rfl rfl ?_
  refine r_getI (μ := mX9_draw) (pc := 2) dX9_draw_2 fpX9_55 rfl (hT.1 0 _ rfl) (by decide) ?_
  refine r_ldc (μ := mX9_draw) (pc := 5) dX9_draw_5 ctX9_96 ?_
  refine r_imul (μ := mX9_draw) (pc := 7) dX9_draw_7 ?_
  refine r_sipush (μ := mX9_draw) (pc := 8) (v := 12345) dX9_draw_8 sp_12345 ?_
  refine r_iadd (μ := mX9_draw) (pc := 11) dX9_draw_11 ?_
  refine r_putI (μ := mX9_draw) (pc := 12) dX9_draw_12 fwX9_55 (hT.1 0 _ rfl) (by decide) rfl ?_
  refine r_aload_n (μ := mX9_draw) (pc := 15) dX9_draw_15 rfl rfl rfl ?_
  refine r_getI (μ := mX9_draw) (pc := 16) dX9_draw_16 fpX9_55 rfl (hT.1 0 _ rfl) (by decide) ?_
  rw [up_eq]
  refine r_bipush (μ := mX9_draw) (pc := 19) (v := 8) dX9_draw_19 bp_8 ?_
  refine r_iushr (μ := mX9_draw) (pc := 21) dX9_draw_21 ?_
  exact r_iret (μ := mX9_draw) (pc := 22) dX9_draw_22 rfl rfl (PX_i ⟨rfl, rfl⟩)

/-- the first from i on, of k places, that passes -/
def fsB (P : Nat → Bool) : Nat → Nat → Option Nat
  | 0, _ => none
  | k + 1, i => if P i then some i else fsB P k (i + 1)
def orN (x : Option Nat) (y : Nat) : Nat := match x with
  | some j => j
  | none => y
def ntS (P : Nat → Bool) (n f : Nat) : Nat := orN (fsB P (n - (f + 1)) (f + 1)) (orN (fsB P f 0) f)
theorem nx_b {P : Nat → Bool} {n w : Nat} (hw : w < n) : ∀ j b k, b + j = w → j ≤ k → nxB P n w k b = orN (fsB P j b) w
  | 0, b, k, h, _ => by
    obtain rfl : b = w := by omega
    cases k with
    | zero => rfl
    | succ k => simp [nxB, fsB, orN]
  | j + 1, b, k, h, hk => by
    obtain ⟨k, rfl⟩ : ∃ x, k = x + 1 := ⟨k - 1, by omega⟩
    have hb : ¬ b = w := by omega
    simp only [nxB, fsB, if_neg hb]
    cases hP : P b
    · simp only [Bool.false_eq_true, if_false]
      rw [Nat.mod_eq_of_lt (by omega)]
      exact nx_b hw j (b + 1) k (by omega) (by omega)
    · simp [orN]
theorem nx_a {P : Nat → Bool} {n w : Nat} (hw : w < n) : ∀ j b k, b + j = n → w < b → j + w ≤ k → 0 < j → nxB P n w k b = orN (fsB P j b) (orN (fsB P w 0) w)
  | 0, _, _, _, _, _, h0 => absurd h0 (Nat.lt_irrefl _)
  | j + 1, b, k, h, hb, hk, _ => by
    obtain ⟨k, rfl⟩ : ∃ x, k = x + 1 := ⟨k - 1, by omega⟩
    have hb2 : ¬ b = w := by omega
    simp only [nxB, fsB, if_neg hb2]
    cases hP : P b
    · simp only [Bool.false_eq_true, if_false]
      rcases Nat.eq_zero_or_pos j with z | z
      · subst z
        rw [show b + 1 = n by omega, Nat.mod_self]
        exact nx_b hw w 0 k (by omega) (by omega)
      · rw [Nat.mod_eq_of_lt (by omega)]
        exact nx_a hw j (b + 1) k (by omega) (by omega) (by omega) z
    · simp [orN]
theorem nx_eq {P : Nat → Bool} {n w : Nat} (hw : w < n) : nxB P n w n ((w + 1) % n) = ntS P n w := by
  unfold ntS
  rcases Nat.lt_or_ge (w + 1) n with z | z
  · rw [Nat.mod_eq_of_lt z]
    exact nx_a hw (n - (w + 1)) (w + 1) n (by omega) (by omega) (by omega) (by omega)
  · obtain rfl : n = w + 1 := by omega
    rw [Nat.mod_self, Nat.sub_self]
    exact nx_b hw w 0 (w + 1) (by omega) (by omega)

theorem lp_nextB {d : Nat} {sh : List Sh} {mi : MI} {mr : MR} {Q : QT} {b : Nat} (hT : TB sh mr b) {n f : Nat} (hn : mi b 1 = nI n) (hn10 : n ≤ 10) (hf : f < n) {P : Nat → Bool} (hq : Q (some (.int (nI (ntS P n f)))) sh mi mr) (hA : fsB P (n - (f + 1)) (f + 1) = none) : ∀ (k i : Nat), i + k = f → fsB P f 0 = fsB P k i → WP (d + 1) mX9_nextTop 30 [.ref b, .int (nI f), .int (bitsB P n), .int (nI i)] [] sh mi mr 0 0 Q := by
  intro k
  induction k with
  | zero =>
    intro i hk hfs
    obtain rfl : i = f := by omega
    refine r_iload_n (μ := mX9_nextTop) (pc := 30) dX9_nextTop_30 rfl rfl ?_
    refine r_iload_n (μ := mX9_nextTop) (pc := 31) dX9_nextTop_31 rfl rfl ?_
    refine r_icmp_ge (μ := mX9_nextTop) (pc := 32) (tgt := 51) dX9_nextTop_32 (by decide) (fun h_32 => ?_) (fun h_32 => absurd (nI_le (Nat.le_refl _) (by omega)) h_32)
    refine r_iload_n (μ := mX9_nextTop) (pc := 51) dX9_nextTop_51 rfl rfl ?_
    exact r_iret (μ := mX9_nextTop) (pc := 52) dX9_nextTop_52 rfl rfl (by unfold ntS at hq; rw [hA, hfs] at hq; exact hq)
  | succ k ih =>
    intro i hk hfs
    refine r_iload_n (μ := mX9_nextTop) (pc := 30) dX9_nextTop_30 rfl rfl ?_
    refine r_iload_n (μ := mX9_nextTop) (pc := 31) dX9_nextTop_31 rfl rfl ?_
    refine r_icmp_ge (μ := mX9_nextTop) (pc := 32) (tgt := 51) dX9_nextTop_32 (by decide) (fun h_32 => absurd h_32 (nI_ge (by omega) (by omega))) (fun h_32 => ?_)
    refine r_iload_n (μ := mX9_nextTop) (pc := 35) dX9_nextTop_35 rfl rfl ?_
    refine r_iload_n (μ := mX9_nextTop) (pc := 36) dX9_nextTop_36 rfl rfl ?_
    refine snP2 (μ := mX9_nextTop) (pc := 37) (μ2 := mX11_has) dX9_nextTop_37 lkX9_143 stX11_has mwX11_has (Nat.le_of_ble_eq_true rfl) (k_has rfl (by omega)) ?_
    refine r_if_eq (μ := mX9_nextTop) (pc := 40) (tgt := 45) dX9_nextTop_40 (by decide) (fun h_40 => ?_) (fun h_40 => ?_)
    · have h_40 := b2i_0 h_40
      rw [bt_bits P n (by omega) i (by omega), decide_eq_true (show i < n by omega), Bool.true_and] at h_40
      refine s_iinc (μ := mX9_nextTop) (pc := 45) (c := 1) (L2 := [_, _, _, _]) dX9_nextTop_45 rfl ic_1 (Nat.le_of_ble_eq_true rfl) rfl rfl ?_
      refine r_goto (μ := mX9_nextTop) (pc := 48) (tgt := 30) dX9_nextTop_48 (by decide) ?_
      exact WP.L (by rw [nI_succ]) (ih (i + 1) (by omega) (by rw [hfs]; simp [fsB, h_40]))
    · have h_40 := b2i_1 h_40
      rw [bt_bits P n (by omega) i (by omega), decide_eq_true (show i < n by omega), Bool.true_and] at h_40
      refine r_iload_n (μ := mX9_nextTop) (pc := 43) dX9_nextTop_43 rfl rfl ?_
      exact r_iret (μ := mX9_nextTop) (pc := 44) dX9_nextTop_44 rfl rfl (by unfold ntS at hq; rw [hA, hfs] at hq; simp only [fsB, h_40, if_true, orN] at hq; exact hq)

theorem lp_nextA {d : Nat} {sh : List Sh} {mi : MI} {mr : MR} {Q : QT} {b : Nat} (hT : TB sh mr b) {n f : Nat} (hn : mi b 1 = nI n) (hn10 : n ≤ 10) (hf : f < n) {P : Nat → Bool} (hq : Q (some (.int (nI (ntS P n f)))) sh mi mr) : ∀ (k i : Nat), i + k = n → fsB P (n - (f + 1)) (f + 1) = fsB P k i → WP (d + 1) mX9_nextTop 4 [.ref b, .int (nI f), .int (bitsB P n), .int (nI i)] [] sh mi mr 0 0 Q := by
  intro k
  induction k with
  | zero =>
    intro i hk hfs
    obtain rfl : i = n := by omega
    refine r_iload_n (μ := mX9_nextTop) (pc := 4) dX9_nextTop_4 rfl rfl ?_
    refine r_aload_n (μ := mX9_nextTop) (pc := 5) dX9_nextTop_5 rfl rfl rfl ?_
    refine r_getI (μ := mX9_nextTop) (pc := 6) dX9_nextTop_6 fpX9_9 rfl (hT.1 0 _ rfl) (by decide) ?_
    rw [hn]
    refine r_icmp_ge (μ := mX9_nextTop) (pc := 9) (tgt := 28) dX9_nextTop_9 (by decide) (fun h_9 => ?_) (fun h_9 => absurd (nI_le (Nat.le_refl _) (by omega)) h_9)
    refine r_iconst (μ := mX9_nextTop) (pc := 28) (v := 0) dX9_nextTop_28 ic_0 ?_
    refine s_istore_n (μ := mX9_nextTop) (pc := 29) (L2 := [_, _, _, _]) dX9_nextTop_29 rfl (Nat.le_of_ble_eq_true rfl) (Nat.le_of_ble_eq_true rfl) rfl rfl ?_
    exact lp_nextB hT hn hn10 hf hq hfs f 0 (Nat.zero_add _) rfl
  | succ k ih =>
    intro i hk hfs
    refine r_iload_n (μ := mX9_nextTop) (pc := 4) dX9_nextTop_4 rfl rfl ?_
    refine r_aload_n (μ := mX9_nextTop) (pc := 5) dX9_nextTop_5 rfl rfl rfl ?_
    refine r_getI (μ := mX9_nextTop) (pc := 6) dX9_nextTop_6 fpX9_9 rfl (hT.1 0 _ rfl) (by decide) ?_
    rw [hn]
    refine r_icmp_ge (μ := mX9_nextTop) (pc := 9) (tgt := 28) dX9_nextTop_9 (by decide) (fun h_9 => absurd h_9 (nI_ge (by omega) (by omega))) (fun h_9 => ?_)
    refine r_iload_n (μ := mX9_nextTop) (pc := 12) dX9_nextTop_12 rfl rfl ?_
    refine r_iload_n (μ := mX9_nextTop) (pc := 13) dX9_nextTop_13 rfl rfl ?_
    refine snP2 (μ := mX9_nextTop) (pc := 14) (μ2 := mX11_has) dX9_nextTop_14 lkX9_143 stX11_has mwX11_has (Nat.le_of_ble_eq_true rfl) (k_has rfl (by omega)) ?_
    refine r_if_eq (μ := mX9_nextTop) (pc := 17) (tgt := 22) dX9_nextTop_17 (by decide) (fun h_17 => ?_) (fun h_17 => ?_)
    · have h_17 := b2i_0 h_17
      rw [bt_bits P n (by omega) i (by omega), decide_eq_true (show i < n by omega), Bool.true_and] at h_17
      refine s_iinc (μ := mX9_nextTop) (pc := 22) (c := 1) (L2 := [_, _, _, _]) dX9_nextTop_22 rfl ic_1 (Nat.le_of_ble_eq_true rfl) rfl rfl ?_
      refine r_goto (μ := mX9_nextTop) (pc := 25) (tgt := 4) dX9_nextTop_25 (by decide) ?_
      exact WP.L (by rw [nI_succ]) (ih (i + 1) (by omega) (by rw [hfs]; simp [fsB, h_17]))
    · have h_17 := b2i_1 h_17
      rw [bt_bits P n (by omega) i (by omega), decide_eq_true (show i < n by omega), Bool.true_and] at h_17
      refine r_iload_n (μ := mX9_nextTop) (pc := 20) dX9_nextTop_20 rfl rfl ?_
      exact r_iret (μ := mX9_nextTop) (pc := 21) dX9_nextTop_21 rfl rfl (by unfold ntS at hq; rw [hfs] at hq; simp only [fsB, h_17, if_true, orN] at hq; exact hq)

theorem k_nextTop {d : Nat} {sh : List Sh} {mi : MI} {mr : MR} {b : Nat} (hT : TB sh mr b) {n f : Nat} (hn : mi b 1 = nI n) (hn10 : n ≤ 10) (hf : f < n) {P : Nat → Bool} : CP (d + 1) mX9_nextTop [.ref b, .int (nI f), .int (bitsB P n)] sh mi mr 0 0 (PI (nI (ntS P n f)) sh mi mr) := by
  refine CP.of (L := [_, _, _, _]) (by decide) rfl rfl (Nat.le_of_ble_eq_true rfl) ?_
  refine r_iload_n (μ := mX9_nextTop) (pc := 0) dX9_nextTop_0 rfl rfl ?_
  refine r_iconst (μ := mX9_nextTop) (pc := 1) (v := 1) dX9_nextTop_1 ic_1 ?_
  refine r_iadd (μ := mX9_nextTop) (pc := 2) dX9_nextTop_2 ?_
  refine s_istore_n (μ := mX9_nextTop) (pc := 3) (L2 := [_, _, _, _]) dX9_nextTop_3 rfl (Nat.le_of_ble_eq_true rfl) (Nat.le_of_ble_eq_true rfl) rfl rfl ?_
  exact WP.L (by rw [nI_succ]) (lp_nextA hT hn hn10 hf (PI_i rfl) (n - (f + 1)) (f + 1) (by omega) rfl)

theorem lp_knight {d : Nat} {sh : List Sh} {mi : MI} {mr : MR} {Q : QT} {b : Nat} (hT : TB sh mr b) (hb : b + 11 < 76) {s : Rw} {n m p q : Nat} (hR : RT sh mi mr b s n m p q) (hI : Inv s n m p q) {ra : Nat} (hra : sh[ra]? = some (0, 8)) (hr1 : ra ≠ b ∧ ra ≠ b + 6) (hW : ∀ l, l < m → mi ra l = bitsB (rchS s q l) n) (hq : ∀ mi2, (∀ a, a ≠ b → a ≠ b + 6 → mi2 a = mi a) → RT sh mi2 mr b (nightR s q n m) n m p q → Q (some (.int (nI (ngtR s q n m m).2))) sh mi2 mr) :
    ∀ (k i : Nat), i + k = m → ∀ mi2 : MI, (∀ a, a ≠ b → a ≠ b + 6 → mi2 a = mi a) → RT sh mi2 mr b (ngtR s q n m i).1 n m p q → ∀ x4 : Value, catL x4 = true → WP (d + 2) mX9_night 9 [.ref b, .ref ra, .int (nI (ngtR s q n m i).2), .int (nI i), x4] [] sh mi2 mr 0 0 Q := by
  have hn10 := hI.n10; have hm8 := hI.m8; have hp6 := hI.p6; have hq14 := hI.q14
  have hT0 := hT
  intro k
  induction k with
  | zero =>
    intro i hk mi2 hF hX x4 hx4
    obtain rfl : i = m := by omega
    refine r_iload_n (μ := mX9_night) (pc := 9) dX9_night_9 rfl rfl ?_
    refine r_aload_n (μ := mX9_night) (pc := 10) dX9_night_10 rfl rfl rfl ?_
    refine r_getI (μ := mX9_night) (pc := 11) dX9_night_11 fpX9_22 rfl (hT.1 0 _ rfl) (by decide) ?_
    rw [hX.em]
    refine r_icmp_ge (μ := mX9_night) (pc := 14) (tgt := 77) dX9_night_14 (by decide) (fun h_14 => ?_) (fun h_14 => absurd (nI_le (Nat.le_refl _) (by omega)) h_14)
    refine r_aload_n (μ := mX9_night) (pc := 77) dX9_night_77 rfl rfl rfl ?_
    refine r_dup (μ := mX9_night) (pc := 78) dX9_night_78 rfl ?_
    refine r_getI (μ := mX9_night) (pc := 79) dX9_night_79 fpX9_49 rfl (hT.1 0 _ rfl) (by decide) ?_
    rw [hX.dy]
    refine r_iconst (μ := mX9_night) (pc := 82) (v := 1) dX9_night_82 ic_1 ?_
    refine r_iadd (μ := mX9_night) (pc := 83) dX9_night_83 ?_
    refine r_putI (μ := mX9_night) (pc := 84) dX9_night_84 fwX9_49 (hT.1 0 _ rfl) (by decide) rfl ?_
    refine r_iload_n (μ := mX9_night) (pc := 87) dX9_night_87 rfl rfl ?_
    exact r_iret (μ := mX9_night) (pc := 88) dX9_night_88 rfl rfl (hq _ (fun a h1 h2 => (upI_ne h1).trans (hF a h1 h2)) (hX.u_dy hn10 hm8 hp6 hb))
  | succ k ih =>
    intro i hk mi2 hF hX x4 hx4
    have hi : i < m := by omega
    obtain ⟨hI2, -, hle⟩ := ngtR_ok hI i (by omega)
    have ez : mi2 b 15 = (ngtR s q n m i).1 6 := hX.z
    have hX2 : RT sh (upI mi2 b 15 (nz ((ngtR s q n m i).1 6))) mr b (upd (ngtR s q n m i).1 6 (nz ((ngtR s q n m i).1 6))) n m p q := hX.u_z hn10 hm8 hp6 hb
    have etp : tpp (ngtR s q n m i).1 i = nI (tN (ngtR s q n m i).1 i) := hI2.t hi
    have htn : tN (ngtR s q n m i).1 i < n := hI2.tn hi
    have et : ∀ mi3 : MI, mi3 (b + 6) = mi2 (b + 6) → mi3 (b + 6) i = nI (tN (ngtR s q n m i).1 i) := fun mi3 e => by rw [e, hX.tp hi, etp]
    have er : mi2 ra i = bitsB (rchS s q i) n := by rw [hF ra hr1.1 hr1.2]; exact hW i hi
    have hst : ngtR s q n m (i + 1) = nstep s q n i (ngtR s q n m i) := rfl
    unfold nstep at hst
    generalize (ngtR s q n m i).1 = s1 at *
    generalize (ngtR s q n m i).2 = cnt at *
    have hs4 : ntS (rchS s q i) n (tN s1 i) < n := by rw [← nx_eq htn]; exact nxB_lt _ (by omega) _ _ (Nat.mod_lt _ (by omega))
    refine r_iload_n (μ := mX9_night) (pc := 9) dX9_night_9 rfl rfl ?_
    refine r_aload_n (μ := mX9_night) (pc := 10) dX9_night_10 rfl rfl rfl ?_
    refine r_getI (μ := mX9_night) (pc := 11) dX9_night_11 fpX9_22 rfl (hT.1 0 _ rfl) (by decide) ?_
    rw [hX.em]
    refine r_icmp_ge (μ := mX9_night) (pc := 14) (tgt := 77) dX9_night_14 (by decide) (fun h_14 => absurd h_14 (nI_ge (by omega) (by omega))) (fun h_14 => ?_)
    refine r_aload_n (μ := mX9_night) (pc := 17) dX9_night_17 rfl rfl rfl ?_
    refine vX0 (μ := mX9_night) (pc := 18) (c0 := 9) (q0 := (RX9, TX9, 20)) (μ2 := mX9_draw) dX9_night_18 (hT.1 0 _ rfl) rfl lkX9_153 imX9_draw seX9_X9_draw_X9_draw mwX9_draw (Nat.le_of_ble_eq_true rfl) (k_draw hT) (fun r_18 mi_18 h_18 => ?_)
    obtain ⟨rfl, rfl⟩ := h_18
    refine r_bipush (μ := mX9_night) (pc := 21) (v := 100) dX9_night_21 bp_100 ?_
    refine r_irem (μ := mX9_night) (pc := 23) dX9_night_23 (by decide) ?_
    refine r_aload_n (μ := mX9_night) (pc := 24) dX9_night_24 rfl rfl rfl ?_
    refine r_getI (μ := mX9_night) (pc := 25) dX9_night_25 fpX9_52 rfl (hT.1 0 _ rfl) (by decide) ?_
    rw [up_ne (by decide), hX.th, ez]
    refine r_icmp_lt (μ := mX9_night) (pc := 28) (tgt := 34) dX9_night_28 (by decide) (fun h_28 => ?_) (fun h_28 => ?_)
    · rw [if_pos (show remS (drw (nz (s1 6))) 100 < s1 5 from h_28), nx_eq htn] at hst
      refine r_aload_n (μ := mX9_night) (pc := 34) dX9_night_34 rfl rfl rfl ?_
      refine r_aload_n (μ := mX9_night) (pc := 35) dX9_night_35 rfl rfl rfl ?_
      refine r_getR (μ := mX9_night) (pc := 36) dX9_night_36 fpX9_34 rfl (hT.1 0 _ rfl) (by decide) (hT.2.1 _ _ rfl) ?_
      refine r_iload_n (μ := mX9_night) (pc := 39) dX9_night_39 rfl rfl ?_
      refine r_iaload (μ := mX9_night) (pc := 40) (j := i) dX9_night_40 (hT.1 _ _ rfl) rfl (by omega) (by decide) ?_
      rw [et _ (upI_ne (by omega))]
      refine r_aload_n (μ := mX9_night) (pc := 41) dX9_night_41 rfl rfl rfl ?_
      refine r_iload_n (μ := mX9_night) (pc := 42) dX9_night_42 rfl rfl ?_
      refine r_iaload (μ := mX9_night) (pc := 43) (j := i) dX9_night_43 hra rfl (by omega) (by decide) ?_
      rw [upI_ne (by omega), er]
      refine vP2 (μ := mX9_night) (pc := 44) (c0 := 9) (q0 := (RX9, TX9, 20)) (μ2 := mX9_nextTop) dX9_night_44 (hT.1 0 _ rfl) rfl lkX9_157 imX9_nextTop seX9_X9_nextTop_X9_nextTop mwX9_nextTop (Nat.le_of_ble_eq_true rfl) (k_nextTop hT hX2.en hn10 htn) ?_
      refine s_istore (μ := mX9_night) (pc := 47) (L2 := [_, _, _, _, _]) dX9_night_47 (Nat.le_of_ble_eq_true rfl) (Nat.le_of_ble_eq_true rfl) (by simp only [List.all_cons, List.all_nil, catL_i, catL_r, hx4, Bool.and_self]) rfl ?_
      refine r_iload (μ := mX9_night) (pc := 49) dX9_night_49 rfl ?_
      refine r_aload_n (μ := mX9_night) (pc := 51) dX9_night_51 rfl rfl rfl ?_
      refine r_getR (μ := mX9_night) (pc := 52) dX9_night_52 fpX9_34 rfl (hT.1 0 _ rfl) (by decide) (hT.2.1 _ _ rfl) ?_
      refine r_iload_n (μ := mX9_night) (pc := 55) dX9_night_55 rfl rfl ?_
      refine r_iaload (μ := mX9_night) (pc := 56) (j := i) dX9_night_56 (hT.1 _ _ rfl) rfl (by omega) (by decide) ?_
      rw [et _ (upI_ne (by omega))]
      refine r_icmp_eq (μ := mX9_night) (pc := 57) (tgt := 63) dX9_night_57 (by decide) (fun h_57 => ?_) (fun h_57 => ?_)
      · have hz : (if ntS (rchS s q i) n (tN s1 i) = tN s1 i then 0 else 1) = 0 := if_pos ((nI_eq (by omega) (by omega)).mp h_57)
        refine r_aload_n (μ := mX9_night) (pc := 63) dX9_night_63 rfl rfl rfl ?_
        refine r_getR (μ := mX9_night) (pc := 64) dX9_night_64 fpX9_34 rfl (hT.1 0 _ rfl) (by decide) (hT.2.1 _ _ rfl) ?_
        refine r_iload_n (μ := mX9_night) (pc := 67) dX9_night_67 rfl rfl ?_
        refine r_iload (μ := mX9_night) (pc := 68) dX9_night_68 rfl ?_
        refine r_iastore (μ := mX9_night) (pc := 70) (j := i) dX9_night_70 (hT.1 _ _ rfl) rfl (by omega) (by decide) ?_
        refine s_iinc (μ := mX9_night) (pc := 71) (c := 1) (L2 := [_, _, _, _, _]) dX9_night_71 rfl ic_1 (Nat.le_of_ble_eq_true rfl) (by simp only [List.all_cons, List.all_nil, catL_i, catL_r, hx4, Bool.and_self]) rfl ?_
        refine r_goto (μ := mX9_night) (pc := 74) (tgt := 9) dX9_night_74 (by decide) ?_
        exact WP.L (by rw [hst]; simp only [hz, nI_succ, Nat.add_zero]) (ih (i + 1) (by omega) _ (fun a h1 h2 => by rw [upI_ne h2, upI_ne h1]; exact hF a h1 h2) (by rw [hst]; exact hX2.u_tpp hn10 hm8 hp6 hb (by omega)) (.int (nI (ntS (rchS s q i) n (tN s1 i)))) rfl)
      · have hz : (if ntS (rchS s q i) n (tN s1 i) = tN s1 i then 0 else 1) = 1 := if_neg (mt (nI_eq (a := ntS (rchS s q i) n (tN s1 i)) (b := tN s1 i) (by omega) (by omega)).mpr h_57)
        refine s_iinc (μ := mX9_night) (pc := 60) (c := 1) (L2 := [_, _, _, _, _]) dX9_night_60 rfl ic_1 (Nat.le_of_ble_eq_true rfl) (by simp only [List.all_cons, List.all_nil, catL_i, catL_r, hx4, Bool.and_self]) rfl ?_
        refine r_aload_n (μ := mX9_night) (pc := 63) dX9_night_63 rfl rfl rfl ?_
        refine r_getR (μ := mX9_night) (pc := 64) dX9_night_64 fpX9_34 rfl (hT.1 0 _ rfl) (by decide) (hT.2.1 _ _ rfl) ?_
        refine r_iload_n (μ := mX9_night) (pc := 67) dX9_night_67 rfl rfl ?_
        refine r_iload (μ := mX9_night) (pc := 68) dX9_night_68 rfl ?_
        refine r_iastore (μ := mX9_night) (pc := 70) (j := i) dX9_night_70 (hT.1 _ _ rfl) rfl (by omega) (by decide) ?_
        refine s_iinc (μ := mX9_night) (pc := 71) (c := 1) (L2 := [_, _, _, _, _]) dX9_night_71 rfl ic_1 (Nat.le_of_ble_eq_true rfl) (by simp only [List.all_cons, List.all_nil, catL_i, catL_r, hx4, Bool.and_self]) rfl ?_
        refine r_goto (μ := mX9_night) (pc := 74) (tgt := 9) dX9_night_74 (by decide) ?_
        exact WP.L (by rw [hst]; simp only [hz, nI_succ, Nat.add_zero]) (ih (i + 1) (by omega) _ (fun a h1 h2 => by rw [upI_ne h2, upI_ne h1]; exact hF a h1 h2) (by rw [hst]; exact hX2.u_tpp hn10 hm8 hp6 hb (by omega)) (.int (nI (ntS (rchS s q i) n (tN s1 i)))) rfl)
    · rw [if_neg (show ¬ remS (drw (nz (s1 6))) 100 < s1 5 from h_28)] at hst
      refine r_goto (μ := mX9_night) (pc := 31) (tgt := 71) dX9_night_31 (by decide) ?_
      refine s_iinc (μ := mX9_night) (pc := 71) (c := 1) (L2 := [_, _, _, _, _]) dX9_night_71 rfl ic_1 (Nat.le_of_ble_eq_true rfl) (by simp only [List.all_cons, List.all_nil, catL_i, catL_r, hx4, Bool.and_self]) rfl ?_
      refine r_goto (μ := mX9_night) (pc := 74) (tgt := 9) dX9_night_74 (by decide) ?_
      exact WP.L (by rw [hst, nI_succ]) (ih (i + 1) (by omega) _ (fun a h1 h2 => by rw [upI_ne h1]; exact hF a h1 h2) (by rw [hst]; exact hX2) _ hx4)

theorem k_night {d : Nat} {sh : List Sh} {mi : MI} {mr : MR} {b : Nat} (hT : TB sh mr b) (hb : b + 11 < 76) {s : Rw} {n m p q : Nat} (hR : RT sh mi mr b s n m p q) (hI : Inv s n m p q) {ra : Nat} (hra : sh[ra]? = some (0, 8)) (hr1 : ra ≠ b ∧ ra ≠ b + 6) (hW : ∀ l, l < m → mi ra l = bitsB (rchS s q l) n) : CP (d + 2) mX9_night [.ref b, .ref ra] sh mi mr 0 0 (PX sh mr (fun r mi2 => r = nI (ngtR s q n m m).2 ∧ (∀ a, a ≠ b → a ≠ b + 6 → mi2 a = mi a) ∧ RT sh mi2 mr b (nightR s q n m) n m p q)) := by
  have hn10 := hI.n10; have hm8 := hI.m8; have hp6 := hI.p6; have hq14 := hI.q14
  refine CP.of (L := [_, _, _, _, _]) (by decide) rfl rfl (Nat.le_of_ble_eq_true rfl) ?_
  refine r_aload_n (μ := mX9_night) (pc := 0) dX9_night_0 rfl rfl rfl ?_
  refine r_iconst (μ := mX9_night) (pc := 1) (v := 0) dX9_night_1 ic_0 ?_
  refine r_putI (μ := mX9_night) (pc := 2) dX9_night_2 fwX9_37 (hT.1 0 _ rfl) (by decide) rfl ?_
  refine r_iconst (μ := mX9_night) (pc := 5) (v := 0) dX9_night_5 ic_0 ?_
  refine s_istore_n (μ := mX9_night) (pc := 6) (L2 := [_, _, _, _, _]) dX9_night_6 rfl (Nat.le_of_ble_eq_true rfl) (Nat.le_of_ble_eq_true rfl) rfl rfl ?_
  refine r_iconst (μ := mX9_night) (pc := 7) (v := 0) dX9_night_7 ic_0 ?_
  refine s_istore_n (μ := mX9_night) (pc := 8) (L2 := [_, _, _, _, _]) dX9_night_8 rfl (Nat.le_of_ble_eq_true rfl) (Nat.le_of_ble_eq_true rfl) rfl rfl ?_
  exact lp_knight hT hb hR hI hra hr1 hW (fun mi2 h1 h2 => PX_i ⟨rfl, h1, h2⟩) m 0 (Nat.zero_add _) _ (fun a h1 h2 => upI_ne h1) (hR.clr hn10 hm8 hp6 hb) _ rfl

