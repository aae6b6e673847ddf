theorem lg_sr : ∀ i, i < 6 → Cond.stringRef RX5 (stI i) (ssI.getD i (0, "")).2 ∈ lw_tbl := by
  decide +kernel
set_option maxHeartbeats 16000000 in
theorem lgr_of {s : State} {b : Nat} (hts : ∀ w ∈ lw_tbl, w.before #[Value.ref b] s = true) (hgv : (Jvm.Cond.and given_1 narrow_1).before #[Value.ref b] s = true) : ∃ g : LG, LGr g s := by
  have hf := flat_of_before _ hgv
  have hA : ∀ a : Nat, a < s.heap.size → ¬ (fun q : Nat => s.heap.size ≤ q) a := fun a h z => absurd z (Nat.not_le.mpr h)
  obtain ⟨D, hD⟩ := lg_D hts
  have h4 : va_AO RX4 s := va_AO.of (hts (.arrayOver (.object RX4)) (by decide +kernel))
  have h7 : va_AO RX7 s := va_AO.of (hts (.arrayOver (.object RX7)) (by decide +kernel))
  have h8 : va_AO RX8 s := va_AO.of (hts (.arrayOver (.object RX8)) (by decide +kernel))
  obtain ⟨ty, hty⟩ := lg_ty hts h4 h7 h8
  obtain ⟨adK, adV, hS, hev⟩ := lg_str hgv
  have hcs : va_Z "java/lang/String" "COMPACT_STRINGS" "Z" (.int 1) (fun q => s.heap.size ≤ q) s s.heap := by
    refine va_Zof (args := #[Value.ref b]) (hts (.laysStatic "java/lang/String" "COMPACT_STRINGS" "Z") (by decide +kernel)) (hts (.initialized "java/lang/String") (by decide +kernel)) ?_ hA
    exact lg_eq (hf (.eq (.static "java/lang/String" "COMPACT_STRINGS" "Z") (.int 1)) (by decide +kernel))
  have hfo : va_Zq "jdk/internal/util/Preconditions" "SIOOBE_FORMATTER" "Ljava/util/function/BiFunction;" (fun q => s.heap.size ≤ q) s s.heap := va_Zqof (args := #[Value.ref b]) (hts (.laysStatic "jdk/internal/util/Preconditions" "SIOOBE_FORMATTER" "Ljava/util/function/BiFunction;") (by decide +kernel)) (hts (.initialized "jdk/internal/util/Preconditions") (by decide +kernel)) (hf (.isRef (.static "jdk/internal/util/Preconditions" "SIOOBE_FORMATTER" "Ljava/util/function/BiFunction;")) (by decide +kernel)) hA
  obtain ⟨fm, hfm, hfz⟩ : ∃ fm : Value, (fm = .null ∨ ∃ t, fm = .ref t) ∧ va_Z "jdk/internal/util/Preconditions" "SIOOBE_FORMATTER" "Ljava/util/function/BiFunction;" fm (fun q => s.heap.size ≤ q) s s.heap := by
    rcases hfo with z | ⟨t, z⟩
    · exact ⟨.null, Or.inl rfl, z⟩
    · exact ⟨.ref t, Or.inr ⟨t, rfl⟩, z⟩
  have u0 : ∀ i, i < 6 → (UInt32.ofNat (2 * i)).toNat = 2 * i ∧ (UInt32.ofNat (2 * i + 1)).toNat = 2 * i + 1 := by decide
  obtain ⟨st, hst⟩ : ∃ st : UInt32 → Nat, ∀ i, i < 6 → st (UInt32.ofNat (2 * i)) = adK i ∧ st (UInt32.ofNat (2 * i + 1)) = adV i := by
    refine ⟨fun u => if u.toNat % 2 = 0 then adK (u.toNat / 2) else adV (u.toNat / 2), fun i hi => ⟨?_, ?_⟩⟩
    · show (if (UInt32.ofNat (2 * i)).toNat % 2 = 0 then adK ((UInt32.ofNat (2 * i)).toNat / 2) else adV ((UInt32.ofNat (2 * i)).toNat / 2)) = adK i
      rw [(u0 i hi).1, if_pos (by omega), show 2 * i / 2 = i by omega]
    · show (if (UInt32.ofNat (2 * i + 1)).toNat % 2 = 0 then adK ((UInt32.ofNat (2 * i + 1)).toNat / 2) else adV ((UInt32.ofNat (2 * i + 1)).toNat / 2)) = adV i
      rw [(u0 i hi).2, if_neg (by omega), show (2 * i + 1) / 2 = i by omega]
  refine ⟨(ty, st, fm, D), ⟨⟨hD, hty⟩, fun w hw hk => gk_moved hk (State.WarmedH.refl s) (hts w hw), ?_, ⟨h4, h7, h8⟩, hfm⟩, ?_, hcs, hfz⟩
  · intro i hi
    show vk_R RX5 (stI i) (ssI.getD i (0, "")).2 (st (UInt32.ofNat (2 * i))) s
    rw [(hst i hi).1]
    exact vk_R.of (A := #[Value.ref b]) (hts _ (lg_sr i hi)) (hev i hi)
  · refine ⟨fun i hi => ?_, fun i j hi hj hij => ?_⟩
    · show va_O "java/lang/String" (st (UInt32.ofNat (2 * i))) _ s s.heap ∧ va_OF "java/lang/String" "coder" "B" (.int 0) (st (UInt32.ofNat (2 * i))) _ s s.heap ∧ va_OF "java/lang/String" "value" "[B" (.ref (st (UInt32.ofNat (2 * i + 1)))) (st (UInt32.ofNat (2 * i))) _ s s.heap ∧ va_T .byte (st (UInt32.ofNat (2 * i + 1))) (ssL.getD i 0) (fun j => .int ((ssB.getD i []).getD j 0)) _ s s.heap
      rw [(hst i hi).1, (hst i hi).2]
      exact hS.1 i hi
    · exact hS.2 i j hi hj (by rw [← (hst i hi).1, ← (hst j hj).1]; exact hij)
