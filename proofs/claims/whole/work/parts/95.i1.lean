/-! CONSTRUCTORS, over memory that is empty beyond the cells -/
abbrev Z0 : Nat → Int32 := fun _ => 0
abbrev N0 : Nat → Option Nat := fun _ => none
theorem zI_id {mi : MI} {a : Nat} (h : mi a = Z0) : zI mi a = mi := by
  funext x
  by_cases e : x = a
  · subst e; unfold zI; rw [if_pos rfl, h]
  · exact zI_ne e
theorem zR_id {mr : MR} {a : Nat} (h : mr a = N0) : zR mr a = mr := by
  funext x
  by_cases e : x = a
  · subst e; unfold zR; rw [if_pos rfl, h]
  · exact zR_ne e
theorem r_newiZ {d : Nat} {μ : Mt} {pc : Nat} {L S : List Value} {sh sh2 : List Sh} {mi : MI} {mr : MR} {cb sb : Nat} {Q : QT} {N a : Nat} {n : Int32} (hd : decode μ.2.1 pc = .ok (.newarray .int, 2)) (hn : n = nI N) (hN : N < 100000) (hL : sh.length = a) (hz : mi a = Z0) (hr : mr a = N0) (hs : sh ++ [(0, N)] = sh2) (k : WP d μ (pc + 2) L (.ref a :: S) sh2 mi mr cb sb Q) : WP d μ pc L (.int n :: S) sh mi mr (cb + 1) (sb + N) Q := by
  refine r_newi hd ac_int hn hN ?_
  subst hL hs
  rw [zI_id hz, zR_id hr]
  exact k
theorem r_newZ {d : Nat} {μ : Mt} {pc : Nat} {L S : List Value} {sh sh2 : List Sh} {mi : MI} {mr : MR} {cb sb : Nat} {Q : QT} {idx c0 a : Nat} {q0 : vw_C} (hd : decode μ.2.1 pc = .ok (.new idx, 3)) (hq : cls[c0]? = some q0) (h1 : Cond.classLink μ.1.cls idx q0.1 ∈ lw_tbl) (h2 : Cond.instantiable q0.1 q0.2.2 ∈ lw_tbl) (h3 : Cond.initialized q0.1 ∈ lw_tbl) (hL : sh.length = a) (hz : mi a = Z0) (hr : mr a = N0) (hs : sh ++ [(c0 + 4, q0.2.2)] = sh2) (k : WP d μ (pc + 3) L (.ref a :: S) sh2 mi mr cb sb Q) : WP d μ pc L S sh mi mr (cb + 1) (sb + q0.2.2) Q := by
  refine r_new hd hq h1 h2 h3 ?_
  subst hL hs
  rw [zI_id hz, zR_id hr]
  exact k
theorem upR_row {mr : MR} {a k j : Nat} {v : Option Nat} : upR mr a k v a j = if j = k then v else mr a j := by
  unfold upR va_up
  rw [if_pos rfl]

def mM0 (i : Nat) : MI := fun x => if x = 4 then (fun j => if j < i then -1 else 0) else upI (upI (fun _ => Z0) 1 5 20) 1 6 1 x
theorem mM_s (i : Nat) : upI (mM0 i) 4 i (-1) = mM0 (i + 1) := by
  funext x j
  by_cases e : x = 4
  · subst e
    by_cases e2 : j = i
    · subst e2
      rw [up_eq]
      show -1 = if j < j + 1 then (-1 : Int32) else 0
      rw [if_pos (by omega)]
    · rw [up_ne e2]
      show (if j < i then (-1 : Int32) else 0) = if j < i + 1 then (-1 : Int32) else 0
      by_cases e3 : j < i
      · rw [if_pos e3, if_pos (by omega)]
      · rw [if_neg e3, if_neg (by omega)]
  · rw [upI_ne e]
    have q : ∀ i, mM0 i x = upI (upI (fun _ => Z0) 1 5 20) 1 6 1 x := fun i => if_neg e
    rw [q, q]
theorem mM_0 : mM0 0 = upI (upI (fun _ => Z0) 1 5 20) 1 6 1 := by
  funext x j
  show (if x = 4 then (fun j => if j < 0 then (-1 : Int32) else 0) else upI (upI (fun _ => Z0) 1 5 20) 1 6 1 x) j = _
  by_cases e : x = 4
  · subst e
    rw [if_pos rfl, upI_ne (by decide), upI_ne (by decide)]
    show (if j < 0 then (-1 : Int32) else 0) = 0
    rw [if_neg (by omega)]
  · rw [if_neg e]
theorem lp_mini {d : Nat} {mr : MR} {Q : QT} (hM : MB mr) (hq : Q none shM (mM0 4) mr) : ∀ (k i : Nat), i + k = 4 → WP d mX12_init 164 [.ref 0, .int (nI i)] [] shM (mM0 i) mr 0 0 Q := by
  intro k
  induction k with
  | zero =>
    intro i hk
    obtain rfl : i = 4 := by omega
    refine r_iload_n (μ := mX12_init) (pc := 164) dX12_init_164 rfl rfl ?_
    refine r_iconst (μ := mX12_init) (pc := 165) (v := 4) dX12_init_165 ic_4 ?_
    refine r_icmp_ge (μ := mX12_init) (pc := 166) (tgt := 182) dX12_init_166 (by decide) (fun h_166 => ?_) (fun h_166 => absurd (by decide) h_166)
    exact r_vret (μ := mX12_init) (pc := 182) dX12_init_182 rfl hq
  | succ k ih =>
    intro i hk
    refine r_iload_n (μ := mX12_init) (pc := 164) dX12_init_164 rfl rfl ?_
    refine r_iconst (μ := mX12_init) (pc := 165) (v := 4) dX12_init_165 ic_4 ?_
    refine r_icmp_ge (μ := mX12_init) (pc := 166) (tgt := 182) dX12_init_166 (by decide) (fun h_166 => absurd h_166 (nI_ge (b := 4) (by omega) (by decide))) (fun h_166 => ?_)
    refine r_aload_n (μ := mX12_init) (pc := 169) dX12_init_169 rfl rfl rfl ?_
    refine r_getR (μ := mX12_init) (pc := 170) dX12_init_170 fpX12_19 rfl rfl (by decide) (hM _ _ rfl) ?_
    refine r_iload_n (μ := mX12_init) (pc := 173) dX12_init_173 rfl rfl ?_
    refine r_iconst (μ := mX12_init) (pc := 174) (v := -1) dX12_init_174 ic_m1 ?_
    refine r_iastore (μ := mX12_init) (pc := 175) (j := i) dX12_init_175 rfl rfl (by show i < 4; omega) (by decide) ?_
    rw [mM_s]
    refine s_iinc (μ := mX12_init) (pc := 176) (c := 1) (L2 := [_, _]) dX12_init_176 rfl ic_1 (Nat.le_of_ble_eq_true rfl) rfl rfl ?_
    refine r_goto (μ := mX12_init) (pc := 179) (tgt := 164) dX12_init_179 (by decide) ?_
    exact WP.L (by rw [show nI (i + 1) = nI i + 1 from nI_succ i]) (ih (i + 1) (by omega))

theorem WP.mi {d : Nat} {μ : Mt} {pc : Nat} {L S : List Value} {sh : List Sh} {mi mi2 : MI} {mr : MR} {cb sb : Nat} {Q : QT} (h : mi = mi2) (k : WP d μ pc L S sh mi2 mr cb sb Q) : WP d μ pc L S sh mi mr cb sb Q := h ▸ k
theorem mb_of {mr : MR} (h : ∀ k, k < 34 → mtab k = none ∨ mr 0 k = mtab k) : MB mr := by
  intro k b hb
  have hk : k < 34 := by
    rcases Nat.lt_or_ge k 34 with z | z
    · exact z
    · obtain ⟨j, rfl⟩ : ∃ j, k = j + 34 := ⟨k - 34, by omega⟩
      cases hb
  rcases h k hk with z | z
  · rw [z] at hb; cases hb
  · rw [z]; exact hb

theorem c_init {d : Nat} : CP d mX12_init [.ref 0] [(16, 34)] (fun _ => Z0) (fun _ => N0) 18 9962 (PW (fun sh2 mi2 mr2 => sh2 = shM ∧ mi2 = mM0 4 ∧ MB mr2)) := by
  refine CP.of (L := [_, _]) (by decide) rfl rfl (Nat.le_of_ble_eq_true rfl) ?_
  refine r_aload_n (μ := mX12_init) (pc := 0) dX12_init_0 rfl rfl rfl ?_
  refine r_obj (μ := mX12_init) (pc := 1) dX12_init_1 lkX12_1 im_obj cd_obj (Nat.le_of_ble_eq_true rfl) ?_
  refine r_aload_n (μ := mX12_init) (pc := 4) dX12_init_4 rfl rfl rfl ?_
  refine r_sipush (μ := mX12_init) (pc := 5) (v := 3080) dX12_init_5 sp_3080 ?_
  refine r_newiZ (μ := mX12_init) (pc := 8) (N := 3080) (a := 1) (sh2 := shM.take 2) dX12_init_8 rfl (by decide) rfl rfl rfl rfl ?_
  refine r_putR (μ := mX12_init) (pc := 10) dX12_init_10 fwX12_7 rfl (by decide) rfl ?_
  refine r_aload_n (μ := mX12_init) (pc := 13) dX12_init_13 rfl rfl rfl ?_
  refine r_sipush (μ := mX12_init) (pc := 14) (v := 3080) dX12_init_14 sp_3080 ?_
  refine r_newiZ (μ := mX12_init) (pc := 17) (N := 3080) (a := 2) (sh2 := shM.take 3) dX12_init_17 rfl (by decide) rfl rfl rfl rfl ?_
  refine r_putR (μ := mX12_init) (pc := 19) dX12_init_19 fwX12_13 rfl (by decide) rfl ?_
  refine r_aload_n (μ := mX12_init) (pc := 22) dX12_init_22 rfl rfl rfl ?_
  refine r_sipush (μ := mX12_init) (pc := 23) (v := 3080) dX12_init_23 sp_3080 ?_
  refine r_newiZ (μ := mX12_init) (pc := 26) (N := 3080) (a := 3) (sh2 := shM.take 4) dX12_init_26 rfl (by decide) rfl rfl rfl rfl ?_
  refine r_putR (μ := mX12_init) (pc := 28) dX12_init_28 fwX12_16 rfl (by decide) rfl ?_
  refine r_aload_n (μ := mX12_init) (pc := 31) dX12_init_31 rfl rfl rfl ?_
  refine r_iconst (μ := mX12_init) (pc := 32) (v := 4) dX12_init_32 ic_4 ?_
  refine r_newiZ (μ := mX12_init) (pc := 33) (N := 4) (a := 4) (sh2 := shM.take 5) dX12_init_33 rfl (by decide) rfl rfl rfl rfl ?_
  refine r_putR (μ := mX12_init) (pc := 35) dX12_init_35 fwX12_19 rfl (by decide) rfl ?_
  refine r_aload_n (μ := mX12_init) (pc := 38) dX12_init_38 rfl rfl rfl ?_
  refine r_iconst (μ := mX12_init) (pc := 39) (v := 4) dX12_init_39 ic_4 ?_
  refine r_newiZ (μ := mX12_init) (pc := 40) (N := 4) (a := 5) (sh2 := shM.take 6) dX12_init_40 rfl (by decide) rfl rfl rfl rfl ?_
  refine r_putR (μ := mX12_init) (pc := 42) dX12_init_42 fwX12_22 rfl (by decide) rfl ?_
  refine r_aload_n (μ := mX12_init) (pc := 45) dX12_init_45 rfl rfl rfl ?_
  refine r_bipush (μ := mX12_init) (pc := 46) (v := 96) dX12_init_46 bp_96 ?_
  refine r_newiZ (μ := mX12_init) (pc := 48) (N := 96) (a := 6) (sh2 := shM.take 7) dX12_init_48 rfl (by decide) rfl rfl rfl rfl ?_
  refine r_putR (μ := mX12_init) (pc := 50) dX12_init_50 fwX12_25 rfl (by decide) rfl ?_
  refine r_aload_n (μ := mX12_init) (pc := 53) dX12_init_53 rfl rfl rfl ?_
  refine r_iconst (μ := mX12_init) (pc := 54) (v := 5) dX12_init_54 ic_5 ?_
  refine r_newiZ (μ := mX12_init) (pc := 55) (N := 5) (a := 7) (sh2 := shM.take 8) dX12_init_55 rfl (by decide) rfl rfl rfl rfl ?_
  refine r_putR (μ := mX12_init) (pc := 57) dX12_init_57 fwX12_28 rfl (by decide) rfl ?_
  refine r_aload_n (μ := mX12_init) (pc := 60) dX12_init_60 rfl rfl rfl ?_
  refine r_iconst (μ := mX12_init) (pc := 61) (v := 5) dX12_init_61 ic_5 ?_
  refine r_newiZ (μ := mX12_init) (pc := 62) (N := 5) (a := 8) (sh2 := shM.take 9) dX12_init_62 rfl (by decide) rfl rfl rfl rfl ?_
  refine r_putR (μ := mX12_init) (pc := 64) dX12_init_64 fwX12_31 rfl (by decide) rfl ?_
  refine r_aload_n (μ := mX12_init) (pc := 67) dX12_init_67 rfl rfl rfl ?_
  refine r_iconst (μ := mX12_init) (pc := 68) (v := 5) dX12_init_68 ic_5 ?_
  refine r_newiZ (μ := mX12_init) (pc := 69) (N := 5) (a := 9) (sh2 := shM.take 10) dX12_init_69 rfl (by decide) rfl rfl rfl rfl ?_
  refine r_putR (μ := mX12_init) (pc := 71) dX12_init_71 fwX12_34 rfl (by decide) rfl ?_
  refine r_aload_n (μ := mX12_init) (pc := 74) dX12_init_74 rfl rfl rfl ?_
  refine r_iconst (μ := mX12_init) (pc := 75) (v := 5) dX12_init_75 ic_5 ?_
  refine r_newiZ (μ := mX12_init) (pc := 76) (N := 5) (a := 10) (sh2 := shM.take 11) dX12_init_76 rfl (by decide) rfl rfl rfl rfl ?_
  refine r_putR (μ := mX12_init) (pc := 78) dX12_init_78 fwX12_37 rfl (by decide) rfl ?_
  refine r_aload_n (μ := mX12_init) (pc := 81) dX12_init_81 rfl rfl rfl ?_
  refine r_bipush (μ := mX12_init) (pc := 82) (v := 120) dX12_init_82 bp_120 ?_
  refine r_newiZ (μ := mX12_init) (pc := 84) (N := 120) (a := 11) (sh2 := shM.take 12) dX12_init_84 rfl (by decide) rfl rfl rfl rfl ?_
  refine r_putR (μ := mX12_init) (pc := 86) dX12_init_86 fwX12_40 rfl (by decide) rfl ?_
  refine r_aload_n (μ := mX12_init) (pc := 89) dX12_init_89 rfl rfl rfl ?_
  refine r_bipush (μ := mX12_init) (pc := 90) (v := 10) dX12_init_90 bp_10 ?_
  refine r_newiZ (μ := mX12_init) (pc := 92) (N := 10) (a := 12) (sh2 := shM.take 13) dX12_init_92 rfl (by decide) rfl rfl rfl rfl ?_
  refine r_putR (μ := mX12_init) (pc := 94) dX12_init_94 fwX12_43 rfl (by decide) rfl ?_
  refine r_aload_n (μ := mX12_init) (pc := 97) dX12_init_97 rfl rfl rfl ?_
  refine r_bipush (μ := mX12_init) (pc := 98) (v := 96) dX12_init_98 bp_96 ?_
  refine r_newiZ (μ := mX12_init) (pc := 100) (N := 96) (a := 13) (sh2 := shM.take 14) dX12_init_100 rfl (by decide) rfl rfl rfl rfl ?_
  refine r_putR (μ := mX12_init) (pc := 102) dX12_init_102 fwX12_46 rfl (by decide) rfl ?_
  refine r_aload_n (μ := mX12_init) (pc := 105) dX12_init_105 rfl rfl rfl ?_
  refine r_sipush (μ := mX12_init) (pc := 106) (v := 128) dX12_init_106 sp_128 ?_
  refine r_newiZ (μ := mX12_init) (pc := 109) (N := 128) (a := 14) (sh2 := shM.take 15) dX12_init_109 rfl (by decide) rfl rfl rfl rfl ?_
  refine r_putR (μ := mX12_init) (pc := 111) dX12_init_111 fwX12_49 rfl (by decide) rfl ?_
  refine r_aload_n (μ := mX12_init) (pc := 114) dX12_init_114 rfl rfl rfl ?_
  refine r_bipush (μ := mX12_init) (pc := 115) (v := 100) dX12_init_115 bp_100 ?_
  refine r_newiZ (μ := mX12_init) (pc := 117) (N := 100) (a := 15) (sh2 := shM.take 16) dX12_init_117 rfl (by decide) rfl rfl rfl rfl ?_
  refine r_putR (μ := mX12_init) (pc := 119) dX12_init_119 fwX12_52 rfl (by decide) rfl ?_
  refine r_aload_n (μ := mX12_init) (pc := 122) dX12_init_122 rfl rfl rfl ?_
  refine r_bipush (μ := mX12_init) (pc := 123) (v := 24) dX12_init_123 bp_24 ?_
  refine r_newiZ (μ := mX12_init) (pc := 125) (N := 24) (a := 16) (sh2 := shM.take 17) dX12_init_125 rfl (by decide) rfl rfl rfl rfl ?_
  refine r_putR (μ := mX12_init) (pc := 127) dX12_init_127 fwX12_55 rfl (by decide) rfl ?_
  refine r_aload_n (μ := mX12_init) (pc := 130) dX12_init_130 rfl rfl rfl ?_
  refine r_bipush (μ := mX12_init) (pc := 131) (v := 60) dX12_init_131 bp_60 ?_
  refine r_newiZ (μ := mX12_init) (pc := 133) (N := 60) (a := 17) (sh2 := shM.take 18) dX12_init_133 rfl (by decide) rfl rfl rfl rfl ?_
  refine r_putR (μ := mX12_init) (pc := 135) dX12_init_135 fwX12_58 rfl (by decide) rfl ?_
  refine r_aload_n (μ := mX12_init) (pc := 138) dX12_init_138 rfl rfl rfl ?_
  refine r_bipush (μ := mX12_init) (pc := 139) (v := 60) dX12_init_139 bp_60 ?_
  refine r_newiZ (μ := mX12_init) (pc := 141) (N := 60) (a := 18) (sh2 := shM.take 19) dX12_init_141 rfl (by decide) rfl rfl rfl rfl ?_
  refine r_putR (μ := mX12_init) (pc := 143) dX12_init_143 fwX12_61 rfl (by decide) rfl ?_
  refine r_aload_n (μ := mX12_init) (pc := 146) dX12_init_146 rfl rfl rfl ?_
  refine r_getR (μ := mX12_init) (pc := 147) dX12_init_147 fpX12_7 rfl rfl (by decide) rfl ?_
  refine r_iconst (μ := mX12_init) (pc := 150) (v := 5) dX12_init_150 ic_5 ?_
  refine r_bipush (μ := mX12_init) (pc := 151) (v := 20) dX12_init_151 bp_20 ?_
  refine r_iastore (μ := mX12_init) (pc := 153) (j := 5) dX12_init_153 rfl rfl (by decide) (by decide) ?_
  refine r_aload_n (μ := mX12_init) (pc := 154) dX12_init_154 rfl rfl rfl ?_
  refine r_getR (μ := mX12_init) (pc := 155) dX12_init_155 fpX12_7 rfl rfl (by decide) rfl ?_
  refine r_bipush (μ := mX12_init) (pc := 158) (v := 6) dX12_init_158 bp_6 ?_
  refine r_iconst (μ := mX12_init) (pc := 160) (v := 1) dX12_init_160 ic_1 ?_
  refine r_iastore (μ := mX12_init) (pc := 161) (j := 6) dX12_init_161 rfl rfl (by decide) (by decide) ?_
  refine r_iconst (μ := mX12_init) (pc := 162) (v := 0) dX12_init_162 ic_0 ?_
  refine s_istore_n (μ := mX12_init) (pc := 163) (L2 := [_, _]) dX12_init_163 rfl (Nat.le_of_ble_eq_true rfl) (Nat.le_of_ble_eq_true rfl) rfl rfl ?_
  refine WP.mi (mM_0.symm) ?_
  refine lp_mini ?_ ?_ 4 0 rfl
  · exact mb_of (by decide +kernel)
  · refine ⟨rfl, rfl, rfl, ?_⟩
    exact mb_of (by decide +kernel)

