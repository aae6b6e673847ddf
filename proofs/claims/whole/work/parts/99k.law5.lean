theorem and_63 (x : Int32) : ∃ j, j < 64 ∧ x &&& 63 = nI j := by
  refine ⟨(x &&& 63).toBitVec.toNat, ?_, ?_⟩
  · rw [Int32.toBitVec_and, BitVec.toNat_and]
    exact Nat.lt_of_le_of_lt Nat.and_le_right (by decide)
  · apply Int32.toBitVec_inj.mp
    apply BitVec.eq_of_toNat_eq
    show (x &&& 63).toBitVec.toNat = (BitVec.ofNat 32 (x &&& 63).toBitVec.toNat).toNat
    rw [BitVec.toNat_ofNat]
    exact (Nat.mod_eq_of_lt (x &&& 63).toBitVec.isLt).symm
set_option maxHeartbeats 4000000 in
theorem law_loop {p : Program} {l : Launch} {e : Env} {s : State} {m : MethodId} {args : Array Value} {below : List Frame} {meth : Method} {c : Code} {QQ : State → Prop} {g : LG} {Mr : MR} {b L : Nat} {xs : Nat → Int32} (hx : p.tables.exec = Jvm.exec) (hb : c.code = code) (hml : c.maxLocals = 4) (hown : s.vm.findClass RL = some m.cls) (hg : LGr g s) (hX : va_X b L xs s s.heap) (hbl : b < s.heap.size) (hL : L ≤ 3072) (hret : ∀ (H : Heap) (ls : Array Slot), W p l e room_1 s m args below meth c H [] 600000 7302250 QQ (F0 m 1630 ls [.int 1])) :
    ∀ (n i : Nat) (sh : List Sh) (mi : MI) (mr : MR) (M : MI) (H : Heap) (locs : List Loc) (cells slots : Nat) (ls : Array Slot), L < i + 6 * n → i ≤ L + 6 → REL sh mi mr M Mr → LSt g s.heap.size H sh mi mr M Mr → va_S (fun q => s.heap.size ≤ q) s.heap H locs → cells + 2 * n ≤ 600000 → slots + 99 * n ≤ 7302250 → lv_has ls 4 [(0, .ref b), (1, .ref s.heap.size), (2, .ref (s.heap.size + 76)), (3, .int (nI i))] → W p l e room_1 s m args below meth c H locs cells slots QQ (F0 m 18 ls []) := by
  intro n
  induction n with
  | zero =>
    intro i sh mi mr M H locs cells slots ls hin hi6 hrel h hS hc hs hl
    refine lv_iload_n hx hb dL_law_18 rfl (lv_at hl 3 rfl) ?_
    refine lv_aload_n hx hb dL_law_19 rfl (lv_at hl 0 rfl) ?_
    refine va_slen hx hb hX hbl (Nat.not_le.mpr hbl) hS dL_law_20 ?_
    refine lv_bipush (v := 6) hx hb dL_law_21 (by decide) ?_
    refine lv_isub hx hb dL_law_23 ?_
    refine lv_icmp_gt (tgt := 1629) hx hb dL_law_24 (by decide) (fun _ => ?_) (fun z => ?_)
    · refine lv_iconst (v := 1) hx hb dL_law_1629 (by decide) ?_
      refine va_forget (fun q hq => hS.2.2 q hq) ?_
      exact W.widen (k := 600000) (n := 7302250) (by omega) (by omega) (hret H ls)
    · exfalso
      have z := Int32.le_iff_toInt_le.mp (Int32.not_lt.mp z)
      rw [nI_toInt (by omega), show (Int32.ofNat L - 6).toInt = (L : Int) - 6 from pk_sub_toInt (a := L) (b := 6) (by omega) (by decide)] at z
      omega
  | succ n ih =>
    intro i sh mi mr M H locs cells slots ls hin hi6 hrel h hS hc hs hl
    refine lv_iload_n hx hb dL_law_18 rfl (lv_at hl 3 rfl) ?_
    refine lv_aload_n hx hb dL_law_19 rfl (lv_at hl 0 rfl) ?_
    refine va_slen hx hb hX hbl (Nat.not_le.mpr hbl) hS dL_law_20 ?_
    refine lv_bipush (v := 6) hx hb dL_law_21 (by decide) ?_
    refine lv_isub hx hb dL_law_23 ?_
    refine lv_icmp_gt (tgt := 1629) hx hb dL_law_24 (by decide) (fun _ => ?_) (fun z => ?_)
    · refine lv_iconst (v := 1) hx hb dL_law_1629 (by decide) ?_
      refine va_forget (fun q hq => hS.2.2 q hq) ?_
      exact W.widen (k := 600000) (n := 7302250) (by omega) (by omega) (hret H ls)
    · have hi : i + 6 ≤ L := by
        have z := Int32.le_iff_toInt_le.mp (Int32.not_lt.mp z)
        rw [nI_toInt (by omega), show (Int32.ofNat L - 6).toInt = (L : Int) - 6 from pk_sub_toInt (a := L) (b := 6) (by omega) (by decide)] at z
        omega
      have k : ∀ (sh2 : List Sh) (mi2 : MI) (mr2 : MR) (M2 : MI) (H1 : Heap) (locs1 : List Loc) (cells1 slots1 : Nat), REL sh2 mi2 mr2 M2 Mr → LSt g s.heap.size H1 sh2 mi2 mr2 M2 Mr → va_S (fun q => s.heap.size ≤ q) s.heap H1 locs1 → cells1 ≤ cells + 2 → slots1 ≤ slots + 99 → W p l e room_1 s m args below meth c H1 locs1 cells1 slots1 QQ (F0 m 1623 ls []) := by
        intro sh2 mi2 mr2 M2 H1 locs1 cells1 slots1 r1 r2 r3 r4 r5
        refine lv_iinc (v := nI (i + 6)) (lv' := [(3, .int (nI (i + 6))), (0, .ref b), (1, .ref s.heap.size), (2, .ref (s.heap.size + 76))]) hx hb dL_law_1623 hl (k := 3) rfl (nI_add i 6) (by decide) rfl (fun ls hl => ?_)
        refine lv_goto (tgt := 18) hx hb dL_law_1626 (by decide) ?_
        exact ih (i + 6) sh2 mi2 mr2 M2 H1 locs1 cells1 slots1 ls (by omega) (by omega) r1 r2 r3 (by omega) (by omega) (lv_sub hl [1, 2, 3, 0] rfl)
      refine lv_aload_n hx hb dL_law_27 rfl (lv_at hl 0 rfl) ?_
      refine lv_iload_n hx hb dL_law_28 rfl (lv_at hl 3 rfl) ?_
      refine va_sld hx hb hX hbl (Nat.not_le.mpr hbl) hS (vp_in_nI (by omega) (by omega)) dL_law_29 ?_
      refine lv_bipush (v := 63) hx hb dL_law_30 (by decide) ?_
      refine lv_iand hx hb dL_law_32 ?_
      obtain ⟨j, hj, ej⟩ := and_63 (xs (nI i).toNatClampNeg)
      rw [ej]
      have h45 : 45 ≤ j → W p l e room_1 s m args below meth c H locs cells slots QQ (F0 m 33 ls [.int (nI j)]) := fun h45 => lv_tableOut (tgt := 1623) hx hb dL_law_33 (Or.inr (by rw [nI_toInt (by omega)]; omega)) (by decide) (k sh mi mr M H locs cells slots hrel h hS (by omega) (by omega))
      match j, hj, h45 with
      | 0, _, _ => exact lv_tableIn (tgt := 228) hx hb dL_law_33 (by decide) (by decide) rfl (by decide) (lo_ledge hx hb hml hown hg hX hbl hi hL hl hrel h hS (by omega) (by omega) k)
      | 1, _, _ => exact lv_tableIn (tgt := 261) hx hb dL_law_33 (by decide) (by decide) rfl (by decide) (lo_ledgeTold hx hb hml hown hg hX hbl hi hL hl hrel h hS (by omega) (by omega) k)
      | 2, _, _ => exact lv_tableIn (tgt := 294) hx hb dL_law_33 (by decide) (by decide) rfl (by decide) (lo_change hx hb hml hown hg hX hbl hi hL hl hrel h hS (by omega) (by omega) k)
      | 3, _, _ => exact lv_tableIn (tgt := 337) hx hb dL_law_33 (by decide) (by decide) rfl (by decide) (lo_deal hx hb hml hown hg hX hbl hi hL hl hrel h hS (by omega) (by omega) k)
      | 4, _, _ => exact lv_tableIn (tgt := 360) hx hb dL_law_33 (by decide) (by decide) rfl (by decide) (lo_seed hx hb hml hown hg hX hbl hi hL hl hrel h hS (by omega) (by omega) k)
      | 5, _, _ => exact lv_tableIn (tgt := 383) hx hb dL_law_33 (by decide) (by decide) rfl (by decide) (lo_ladder hx hb hml hown hg hX hbl hi hL hl hrel h hS (by omega) (by omega) k)
      | 6, _, _ => exact lv_tableIn (tgt := 436) hx hb dL_law_33 (by decide) (by decide) rfl (by decide) (lo_told hx hb hml hown hg hX hbl hi hL hl hrel h hS (by omega) (by omega) k)
      | 7, _, _ => exact lv_tableIn (tgt := 469) hx hb dL_law_33 (by decide) (by decide) rfl (by decide) (lo_as hx hb hml hown hg hX hbl hi hL hl hrel h hS (by omega) (by omega) k)
      | 8, _, _ => exact lv_tableIn (tgt := 502) hx hb dL_law_33 (by decide) (by decide) rfl (by decide) (lo_turns hx hb hml hown hg hX hbl hi hL hl hrel h hS (by omega) (by omega) k)
      | 9, _, _ => exact lv_tableIn (tgt := 535) hx hb dL_law_33 (by decide) (by decide) rfl (by decide) (lo_cut hx hb hml hown hg hX hbl hi hL hl hrel h hS (by omega) (by omega) k)
      | 10, _, _ => exact lv_tableIn (tgt := 568) hx hb dL_law_33 (by decide) (by decide) rfl (by decide) (lo_needs hx hb hml hown hg hX hbl hi hL hl hrel h hS (by omega) (by omega) k)
      | 11, _, _ => exact lv_tableIn (tgt := 601) hx hb dL_law_33 (by decide) (by decide) rfl (by decide) (lo_person hx hb hml hown hg hX hbl hi hL hl hrel h hS (by omega) (by omega) k)
      | 12, _, _ => exact lv_tableIn (tgt := 634) hx hb dL_law_33 (by decide) (by decide) rfl (by decide) (lo_personTold hx hb hml hown hg hX hbl hi hL hl hrel h hS (by omega) (by omega) k)
      | 13, _, _ => exact lv_tableIn (tgt := 667) hx hb dL_law_33 (by decide) (by decide) rfl (by decide) (lo_set hx hb hml hown hg hX hbl hi hL hl hrel h hS (by omega) (by omega) k)
      | 14, _, _ => exact lv_tableIn (tgt := 710) hx hb dL_law_33 (by decide) (by decide) rfl (by decide) (lo_may hx hb hml hown hg hX hbl hi hL hl hrel h hS (by omega) (by omega) k)
      | 15, _, _ => exact lv_tableIn (tgt := 743) hx hb dL_law_33 (by decide) (by decide) rfl (by decide) (lo_move hx hb hml hown hg hX hbl hi hL hl hrel h hS (by omega) (by omega) k)
      | 16, _, _ => exact lv_tableIn (tgt := 786) hx hb dL_law_33 (by decide) (by decide) rfl (by decide) (lo_climb hx hb hml hown hg hX hbl hi hL hl hrel h hS (by omega) (by omega) k)
      | 17, _, _ => exact lv_tableIn (tgt := 819) hx hb dL_law_33 (by decide) (by decide) rfl (by decide) (lo_thieves hx hb hml hown hg hX hbl hi hL hl hrel h hS (by omega) (by omega) k)
      | 18, _, _ => exact lv_tableIn (tgt := 842) hx hb dL_law_33 (by decide) (by decide) rfl (by decide) (lo_nights hx hb hml hown hg hX hbl hi hL hl hrel h hS (by omega) (by omega) k)
      | 19, _, _ => exact lv_tableIn (tgt := 865) hx hb dL_law_33 (by decide) (by decide) rfl (by decide) (lo_way hx hb hml hown hg hX hbl hi hL hl hrel h hS (by omega) (by omega) k)
      | 20, _, _ => exact lv_tableIn (tgt := 908) hx hb dL_law_33 (by decide) (by decide) rfl (by decide) (lo_reached hx hb hml hown hg hX hbl hi hL hl hrel h hS (by omega) (by omega) k)
      | 21, _, _ => exact lv_tableIn (tgt := 931) hx hb dL_law_33 (by decide) (by decide) rfl (by decide) (lo_needed hx hb hml hown hg hX hbl hi hL hl hrel h hS (by omega) (by omega) k)
      | 22, _, _ => exact lv_tableIn (tgt := 964) hx hb dL_law_33 (by decide) (by decide) rfl (by decide) (lo_meeting hx hb hml hown hg hX hbl hi hL hl hrel h hS (by omega) (by omega) k)
      | 23, _, _ => exact lv_tableIn (tgt := 977) hx hb dL_law_33 (by decide) (by decide) rfl (by decide) (lo_above hx hb hml hown hg hX hbl hi hL hl hrel h hS (by omega) (by omega) k)
      | 24, _, _ => exact lv_tableIn (tgt := 990) hx hb dL_law_33 (by decide) (by decide) rfl (by decide) (lo_fewest hx hb hml hown hg hX hbl hi hL hl hrel h hS (by omega) (by omega) k)
      | 25, _, _ => exact lv_tableIn (tgt := 1023) hx hb dL_law_33 (by decide) (by decide) rfl (by decide) (lo_help hx hb hml hown hg hX hbl hi hL hl hrel h hS (by omega) (by omega) k)
      | 26, _, _ => exact lv_tableIn (tgt := 1046) hx hb dL_law_33 (by decide) (by decide) rfl (by decide) (lo_feed hx hb hml hown hg hX hbl hi hL hl hrel h hS (by omega) (by omega) k)
      | 27, _, _ => exact lv_tableIn (tgt := 1089) hx hb dL_law_33 (by decide) (by decide) rfl (by decide) (lo_trim hx hb hml hown hg hX hbl hi hL hl hrel h hS (by omega) (by omega) k)
      | 28, _, _ => exact lv_tableIn (tgt := 1112) hx hb dL_law_33 (by decide) (by decide) rfl (by decide) (lo_text hx hb hml hown hg hX hbl hi hL hl hrel h hS (by omega) (by omega) k)
      | 29, _, _ => exact lv_tableIn (tgt := 1125) hx hb dL_law_33 (by decide) (by decide) rfl (by decide) (lo_textTold hx hb hml hown hg hX hbl hi hL hl hrel h hS (by omega) (by omega) k)
      | 30, _, _ => exact lv_tableIn (tgt := 1158) hx hb dL_law_33 (by decide) (by decide) rfl (by decide) (lo_why hx hb hml hown hg hX hbl hi hL hl hrel h hS (by omega) (by omega) k)
      | 31, _, _ => exact lv_tableIn (tgt := 1181) hx hb dL_law_33 (by decide) (by decide) rfl (by decide) (lo_sheet hx hb hml hown hg hX hbl hi hL hl hrel h hS (by omega) (by omega) k)
      | 32, _, _ => exact lv_tableIn (tgt := 1224) hx hb dL_law_33 (by decide) (by decide) rfl (by decide) (lo_mark hx hb hml hown hg hX hbl hi hL hl hrel h hS (by omega) (by omega) k)
      | 33, _, _ => exact lv_tableIn (tgt := 1267) hx hb dL_law_33 (by decide) (by decide) rfl (by decide) (lo_pour hx hb hml hown hg hX hbl hi hL hl hrel h hS (by omega) (by omega) k)
      | 34, _, _ => exact lv_tableIn (tgt := 1290) hx hb dL_law_33 (by decide) (by decide) rfl (by decide) (lo_nearest hx hb hml hown hg hX hbl hi hL hl hrel h hS (by omega) (by omega) k)
      | 35, _, _ => exact lv_tableIn (tgt := 1323) hx hb dL_law_33 (by decide) (by decide) rfl (by decide) (lo_copy hx hb hml hown hg hX hbl hi hL hl hrel h hS (by omega) (by omega) k)
      | 36, _, _ => exact lv_tableIn (tgt := 1386) hx hb dL_law_33 (by decide) (by decide) rfl (by decide) (lo_lay hx hb hml hown hg hX hbl hi hL hl hrel h hS (by omega) (by omega) k)
      | 37, _, _ => exact lv_tableIn (tgt := 1429) hx hb dL_law_33 (by decide) (by decide) rfl (by decide) (lo_ask hx hb hml hown hg hX hbl hi hL hl hrel h hS (by omega) (by omega) k)
      | 38, _, _ => exact lv_tableIn (tgt := 1462) hx hb dL_law_33 (by decide) (by decide) rfl (by decide) (lo_item hx hb hml hown hg hX hbl hi hL hl hrel h hS (by omega) (by omega) k)
      | 39, _, _ => exact lv_tableIn (tgt := 1495) hx hb dL_law_33 (by decide) (by decide) rfl (by decide) (lo_rest hx hb hml hown hg hX hbl hi hL hl hrel h hS (by omega) (by omega) k)
      | 40, _, _ => exact lv_tableIn (tgt := 1528) hx hb dL_law_33 (by decide) (by decide) rfl (by decide) (lo_tell hx hb hml hown hg hX hbl hi hL hl hrel h hS (by omega) (by omega) k)
      | 41, _, _ => exact lv_tableIn (tgt := 1551) hx hb dL_law_33 (by decide) (by decide) rfl (by decide) (lo_check hx hb hml hown hg hX hbl hi hL hl hrel h hS (by omega) (by omega) k)
      | 42, _, _ => exact lv_tableIn (tgt := 1574) hx hb dL_law_33 (by decide) (by decide) rfl (by decide) (lo_keep hx hb hml hown hg hX hbl hi hL hl hrel h hS (by omega) (by omega) k)
      | 43, _, _ => exact lv_tableIn (tgt := 1587) hx hb dL_law_33 (by decide) (by decide) rfl (by decide) (lo_back hx hb hml hown hg hX hbl hi hL hl hrel h hS (by omega) (by omega) k)
      | 44, _, _ => exact lv_tableIn (tgt := 1600) hx hb dL_law_33 (by decide) (by decide) rfl (by decide) (lo_count hx hb hml hown hg hX hbl hi hL hl hrel h hS (by omega) (by omega) k)
      | j + 45, _, h45 => exact h45 (by omega)

