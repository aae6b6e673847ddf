theorem tkp_5 {mi : MI} {v k le nu : Int32} {b e : Nat} (hk : ¬ k = 2) : TkP mi (upI (upI (upI (upI (upI mi 0 19 v) 0 18 (nI b)) 0 19 (nI e)) 0 20 k) 0 22 le) (b, e, k, nu, le) := by
  refine ⟨fun a ha => ?_, ?_, ?_, ?_, fun h => absurd h hk, fun _ => ?_, fun j hj => ?_⟩
  · rw [upI_ne ha, upI_ne ha, upI_ne ha, upI_ne ha, upI_ne ha]
  · rw [up_ne (by decide), up_ne (by decide), up_ne (by decide), up_eq]; rfl
  · rw [up_ne (by decide), up_ne (by decide), up_eq]; rfl
  · rw [up_ne (by decide), up_eq]; rfl
  · rw [up_eq]; rfl
  · rw [up_ne (by omega), up_ne (by omega), up_ne (by omega), up_ne (by omega), up_ne (by omega)]
theorem tkp_d {mi : MI} {v nu : Int32} {k le : Int32} {b e : Nat} (hk : k = 2 ∨ k = 4) : TkP mi (upI (upI (upI (upI (upI mi 0 19 v) 0 18 (nI b)) 0 21 nu) 0 19 (nI e)) 0 20 k) (b, e, k, nu, le) := by
  refine ⟨fun a ha => ?_, ?_, ?_, ?_, fun _ => ?_, fun h => ?_, fun j hj => ?_⟩
  · rw [upI_ne ha, upI_ne ha, upI_ne ha, upI_ne ha, upI_ne ha]
  · rw [up_ne (by decide), up_ne (by decide), up_ne (by decide), up_eq]; rfl
  · rw [up_ne (by decide), up_eq]; rfl
  · rw [up_eq]; rfl
  · rw [up_ne (by decide), up_ne (by decide), up_eq]; rfl
  · have h2 : k = 1 ∨ k = 3 := h
    rcases hk with rfl | rfl <;> rcases h2 with h2 | h2 <;> exact absurd h2 (by decide)
  · rw [up_ne (by omega), up_ne (by omega), up_ne (by omega), up_ne (by omega), up_ne (by omega)]
theorem tkp_0 {mi : MI} {v nu le : Int32} {b : Nat} (hv : v = nI b) : TkP mi (upI (upI (upI mi 0 19 v) 0 18 (nI b)) 0 20 0) (b, b, 0, nu, le) := by
  subst hv
  refine ⟨fun a ha => ?_, ?_, ?_, ?_, fun h => absurd (show (0 : Int32) = 2 from h) (by decide), fun h => ?_, fun j hj => ?_⟩
  · rw [upI_ne ha, upI_ne ha, upI_ne ha]
  · rw [up_ne (by decide), up_eq]; rfl
  · rw [up_ne (by decide), up_ne (by decide), up_eq]; rfl
  · rw [up_eq]; rfl
  · have h2 : (0 : Int32) = 1 ∨ (0 : Int32) = 3 := h
    rcases h2 with h2 | h2 <;> exact absurd h2 (by decide)
  · rw [up_ne (by omega), up_ne (by omega), up_ne (by omega)]

theorem lp_ntB {d : Nat} {mi : MI} {mr : MR} {Q : QT} (hM : MB mr) {tp : Nat} (ht : mi 0 17 = nI tp) (ht96 : tp ≤ 96) {g : Int32} {e0 e : Nat} (hout : WP d mX12_nextToken 72 [.ref 0, .int g, .int (nI e0)] [] shM (upI mi 0 19 (nI e)) mr 0 0 Q) :
    ∀ (k c : Nat), c + k = 96 → rnE (blB tp (mi 13)) c = e → WP d mX12_nextToken 34 [.ref 0, .int g, .int (nI e0)] [] shM (upI mi 0 19 (nI c)) mr 0 0 Q := by
  intro k
  induction k with
  | zero =>
    intro c hk he
    have hf : blB tp (mi 13) c = false := by unfold blB; rw [decide_eq_false (by omega)]; rfl
    rw [rnE_f hf] at he
    subst he
    refine r_aload_n (μ := mX12_nextToken) (pc := 34) dX12_nextToken_34 rfl rfl rfl ?_
    refine r_getI (μ := mX12_nextToken) (pc := 35) dX12_nextToken_35 fpX12_226 rfl rfl (by decide) ?_
    rw [up_eq]
    refine r_aload_n (μ := mX12_nextToken) (pc := 38) dX12_nextToken_38 rfl rfl rfl ?_
    refine r_getI (μ := mX12_nextToken) (pc := 39) dX12_nextToken_39 fpX12_215 rfl rfl (by decide) ?_
    rw [up_ne (by decide), ht]
    refine r_icmp_ge (μ := mX12_nextToken) (pc := 42) (tgt := 72) dX12_nextToken_42 (by decide) (fun h_42 => ?_) (fun h_42 => absurd (nI_le (by omega) (by omega)) h_42)
    exact hout
  | succ k ih =>
    intro c hk he
    refine r_aload_n (μ := mX12_nextToken) (pc := 34) dX12_nextToken_34 rfl rfl rfl ?_
    refine r_getI (μ := mX12_nextToken) (pc := 35) dX12_nextToken_35 fpX12_226 rfl rfl (by decide) ?_
    rw [up_eq]
    refine r_aload_n (μ := mX12_nextToken) (pc := 38) dX12_nextToken_38 rfl rfl rfl ?_
    refine r_getI (μ := mX12_nextToken) (pc := 39) dX12_nextToken_39 fpX12_215 rfl rfl (by decide) ?_
    rw [up_ne (by decide), ht]
    refine r_icmp_ge (μ := mX12_nextToken) (pc := 42) (tgt := 72) dX12_nextToken_42 (by decide) (fun h_42 => ?_) (fun h_42 => ?_)
    · have hf : blB tp (mi 13) c = false := by unfold blB; rw [decide_eq_false (by have := (nI_leI (by omega) (by omega)).mp h_42; omega)]; rfl
      rw [rnE_f hf] at he
      subst he
      exact hout
    · have hc : c < tp := by have := mt (nI_leI (by omega) (by omega)).mpr h_42; omega
      refine r_aload_n (μ := mX12_nextToken) (pc := 45) dX12_nextToken_45 rfl rfl rfl ?_
      refine r_getR (μ := mX12_nextToken) (pc := 46) dX12_nextToken_46 fpX12_46 rfl rfl (by decide) (hM _ _ rfl) ?_
      refine r_aload_n (μ := mX12_nextToken) (pc := 49) dX12_nextToken_49 rfl rfl rfl ?_
      refine r_getI (μ := mX12_nextToken) (pc := 50) dX12_nextToken_50 fpX12_226 rfl rfl (by decide) ?_
      rw [up_eq]
      refine r_iaload (μ := mX12_nextToken) (pc := 53) (j := c) dX12_nextToken_53 rfl rfl (by show c < 96; omega) (by decide) ?_
      rw [upI_ne (by decide)]
      refine r_bipush (μ := mX12_nextToken) (pc := 54) (v := 32) dX12_nextToken_54 bp_32 ?_
      refine r_icmp_ne (μ := mX12_nextToken) (pc := 56) (tgt := 72) dX12_nextToken_56 (by decide) (fun h_56 => ?_) (fun h_56 => ?_)
      · have hf : blB tp (mi 13) c = false := by unfold blB; rw [decide_eq_false (show ¬ mi 13 c = 32 from h_56), Bool.and_false]
        rw [rnE_f hf] at he
        subst he
        exact hout
      · have hf : blB tp (mi 13) c = true := by unfold blB; rw [decide_eq_true (show mi 13 c = 32 from h_56), decide_eq_true hc]; rfl
        rw [rnE_t hf (by omega)] at he
        refine r_aload_n (μ := mX12_nextToken) (pc := 59) dX12_nextToken_59 rfl rfl rfl ?_
        refine r_dup (μ := mX12_nextToken) (pc := 60) dX12_nextToken_60 rfl ?_
        refine r_getI (μ := mX12_nextToken) (pc := 61) dX12_nextToken_61 fpX12_226 rfl rfl (by decide) ?_
        rw [up_eq]
        refine r_iconst (μ := mX12_nextToken) (pc := 64) (v := 1) dX12_nextToken_64 ic_1 ?_
        refine r_iadd (μ := mX12_nextToken) (pc := 65) dX12_nextToken_65 ?_
        refine r_putI (μ := mX12_nextToken) (pc := 66) dX12_nextToken_66 fwX12_226 rfl (by decide) rfl ?_
        refine r_goto (μ := mX12_nextToken) (pc := 69) (tgt := 34) dX12_nextToken_69 (by decide) ?_
        exact WP.LM rfl (by rw [uu, nI_succ]) (ih (c + 1) (by omega) he)

theorem lp_ntL {d : Nat} {mi : MI} {mr : MR} {Q : QT} (hM : MB mr) {tp : Nat} (ht : mi 0 17 = nI tp) (ht96 : tp ≤ 96) {L1 L2 : Value} {e : Nat} (hout : WP (d + 2) mX12_nextToken 152 [.ref 0, L1, L2] [] shM (upI mi 0 19 (nI e)) mr 0 0 Q) :
    ∀ (k c : Nat), c + k = 96 → rnE (ltB tp (mi 13)) c = e → WP (d + 2) mX12_nextToken 128 [.ref 0, L1, L2] [] shM (upI mi 0 19 (nI c)) mr 0 0 Q := by
  intro k
  induction k with
  | zero =>
    intro c hk he
    have hf : ltB tp (mi 13) c = false := by unfold ltB; rw [decide_eq_false (by omega)]; rfl
    rw [rnE_f hf] at he
    subst he
    refine r_aload_n (μ := mX12_nextToken) (pc := 128) dX12_nextToken_128 rfl rfl rfl ?_
    refine r_aload_n (μ := mX12_nextToken) (pc := 129) dX12_nextToken_129 rfl rfl rfl ?_
    refine r_getI (μ := mX12_nextToken) (pc := 130) dX12_nextToken_130 fpX12_226 rfl rfl (by decide) ?_
    rw [up_eq]
    refine vP1 (μ := mX12_nextToken) (pc := 133) (c0 := 12) (q0 := (RX12, TX12, 34)) (μ2 := mX12_isLetter) dX12_nextToken_133 rfl rfl lkX12_235 imX12_isLetter seX12_X12_isLetter_X12_isLetter mwX12_isLetter (Nat.le_of_ble_eq_true rfl) (c_isLetter hM (tp := tp) (by rw [up_ne (by decide)]; exact ht) ht96 (by omega)) ?_
    rw [upI_ne (by decide)]
    refine r_if_eq (μ := mX12_nextToken) (pc := 136) (tgt := 152) dX12_nextToken_136 (by decide) (fun h_136 => ?_) (fun h_136 => absurd (b2i_eq hf) h_136)
    exact hout
  | succ k ih =>
    intro c hk he
    refine r_aload_n (μ := mX12_nextToken) (pc := 128) dX12_nextToken_128 rfl rfl rfl ?_
    refine r_aload_n (μ := mX12_nextToken) (pc := 129) dX12_nextToken_129 rfl rfl rfl ?_
    refine r_getI (μ := mX12_nextToken) (pc := 130) dX12_nextToken_130 fpX12_226 rfl rfl (by decide) ?_
    rw [up_eq]
    refine vP1 (μ := mX12_nextToken) (pc := 133) (c0 := 12) (q0 := (RX12, TX12, 34)) (μ2 := mX12_isLetter) dX12_nextToken_133 rfl rfl lkX12_235 imX12_isLetter seX12_X12_isLetter_X12_isLetter mwX12_isLetter (Nat.le_of_ble_eq_true rfl) (c_isLetter hM (tp := tp) (by rw [up_ne (by decide)]; exact ht) ht96 (by omega)) ?_
    rw [upI_ne (by decide)]
    refine r_if_eq (μ := mX12_nextToken) (pc := 136) (tgt := 152) dX12_nextToken_136 (by decide) (fun h_136 => ?_) (fun h_136 => ?_)
    · have h_136 := b2i_0 h_136
      rw [rnE_f h_136] at he
      subst he
      exact hout
    · have h_136 := b2i_1 h_136
      rw [rnE_t h_136 (by omega)] at he
      refine r_aload_n (μ := mX12_nextToken) (pc := 139) dX12_nextToken_139 rfl rfl rfl ?_
      refine r_dup (μ := mX12_nextToken) (pc := 140) dX12_nextToken_140 rfl ?_
      refine r_getI (μ := mX12_nextToken) (pc := 141) dX12_nextToken_141 fpX12_226 rfl rfl (by decide) ?_
      rw [up_eq]
      refine r_iconst (μ := mX12_nextToken) (pc := 144) (v := 1) dX12_nextToken_144 ic_1 ?_
      refine r_iadd (μ := mX12_nextToken) (pc := 145) dX12_nextToken_145 ?_
      refine r_putI (μ := mX12_nextToken) (pc := 146) dX12_nextToken_146 fwX12_226 rfl (by decide) rfl ?_
      refine r_goto (μ := mX12_nextToken) (pc := 149) (tgt := 128) dX12_nextToken_149 (by decide) ?_
      exact WP.LM rfl (by rw [uu, nI_succ]) (ih (c + 1) (by omega) he)

theorem lp_ntD {d : Nat} {mi : MI} {mr : MR} {Q : QT} (hM : MB mr) {tp : Nat} (ht : mi 0 17 = nI tp) (ht96 : tp ≤ 96) {L1 L2 : Value} {b e : Nat} (hb : mi 0 18 = nI b) (hout : WP (d + 2) mX12_nextToken 282 [.ref 0, L1, L2] [] shM (upI (upI mi 0 21 (numT (mi 13) b (e - b))) 0 19 (nI e)) mr 0 0 Q) :
    ∀ (k c : Nat), c + k = 96 → b ≤ c → rnE (dgB tp (mi 13)) c = e → WP (d + 2) mX12_nextToken 214 [.ref 0, L1, L2] [] shM (upI (upI mi 0 21 (numT (mi 13) b (c - b))) 0 19 (nI c)) mr 0 0 Q := by
  intro k
  induction k with
  | zero =>
    intro c hk hbc he
    have hf : dgB tp (mi 13) c = false := by unfold dgB; rw [decide_eq_false (by omega)]; rfl
    rw [rnE_f hf] at he
    subst he
    refine r_aload_n (μ := mX12_nextToken) (pc := 214) dX12_nextToken_214 rfl rfl rfl ?_
    refine r_aload_n (μ := mX12_nextToken) (pc := 215) dX12_nextToken_215 rfl rfl rfl ?_
    refine r_getI (μ := mX12_nextToken) (pc := 216) dX12_nextToken_216 fpX12_226 rfl rfl (by decide) ?_
    rw [up_eq]
    refine vP1 (μ := mX12_nextToken) (pc := 219) (c0 := 12) (q0 := (RX12, TX12, 34)) (μ2 := mX12_isDigit) dX12_nextToken_219 rfl rfl lkX12_241 imX12_isDigit seX12_X12_isDigit_X12_isDigit mwX12_isDigit (Nat.le_of_ble_eq_true rfl) (c_isDigit hM (tp := tp) (by rw [up_ne (by decide), up_ne (by decide)]; exact ht) ht96 (by omega)) ?_
    rw [upI_ne (by decide), upI_ne (by decide)]
    refine r_if_eq (μ := mX12_nextToken) (pc := 222) (tgt := 282) dX12_nextToken_222 (by decide) (fun h_222 => ?_) (fun h_222 => absurd (b2i_eq hf) h_222)
    exact hout
  | succ k ih =>
    intro c hk hbc he
    have e1 : c + 1 - b = (c - b) + 1 := by omega
    have e3 : b + (c - b) = c := by omega
    refine r_aload_n (μ := mX12_nextToken) (pc := 214) dX12_nextToken_214 rfl rfl rfl ?_
    refine r_aload_n (μ := mX12_nextToken) (pc := 215) dX12_nextToken_215 rfl rfl rfl ?_
    refine r_getI (μ := mX12_nextToken) (pc := 216) dX12_nextToken_216 fpX12_226 rfl rfl (by decide) ?_
    rw [up_eq]
    refine vP1 (μ := mX12_nextToken) (pc := 219) (c0 := 12) (q0 := (RX12, TX12, 34)) (μ2 := mX12_isDigit) dX12_nextToken_219 rfl rfl lkX12_241 imX12_isDigit seX12_X12_isDigit_X12_isDigit mwX12_isDigit (Nat.le_of_ble_eq_true rfl) (c_isDigit hM (tp := tp) (by rw [up_ne (by decide), up_ne (by decide)]; exact ht) ht96 (by omega)) ?_
    rw [upI_ne (by decide), upI_ne (by decide)]
    refine r_if_eq (μ := mX12_nextToken) (pc := 222) (tgt := 282) dX12_nextToken_222 (by decide) (fun h_222 => ?_) (fun h_222 => ?_)
    · have h_222 := b2i_0 h_222
      rw [rnE_f h_222] at he
      subst he
      exact hout
    · have h_222 := b2i_1 h_222
      rw [rnE_t h_222 (by omega)] at he
      refine r_aload_n (μ := mX12_nextToken) (pc := 225) dX12_nextToken_225 rfl rfl rfl ?_
      refine r_aload_n (μ := mX12_nextToken) (pc := 226) dX12_nextToken_226 rfl rfl rfl ?_
      refine r_getI (μ := mX12_nextToken) (pc := 227) dX12_nextToken_227 fpX12_226 rfl rfl (by decide) ?_
      rw [up_eq]
      refine r_aload_n (μ := mX12_nextToken) (pc := 230) dX12_nextToken_230 rfl rfl rfl ?_
      refine r_getI (μ := mX12_nextToken) (pc := 231) dX12_nextToken_231 fpX12_232 rfl rfl (by decide) ?_
      rw [up_ne (by decide), up_ne (by decide), hb]
      refine r_isub (μ := mX12_nextToken) (pc := 234) dX12_nextToken_234 ?_
      rw [pk_sub hbc]
      refine r_iconst (μ := mX12_nextToken) (pc := 235) (v := 4) dX12_nextToken_235 ic_4 ?_
      refine r_icmp_ge (μ := mX12_nextToken) (pc := 236) (tgt := 262) dX12_nextToken_236 (by decide) (fun h_236 => ?_) (fun h_236 => ?_)
      · have hn : numT (mi 13) b (c + 1 - b) = numT (mi 13) b (c - b) := by rw [e1]; exact if_neg (fun z => absurd ((nI_leI (a := 4) (by omega) (by omega)).mp h_236) (by omega))
        refine r_aload_n (μ := mX12_nextToken) (pc := 262) dX12_nextToken_262 rfl rfl rfl ?_
        refine r_getI (μ := mX12_nextToken) (pc := 263) dX12_nextToken_263 fpX12_244 rfl rfl (by decide) ?_
        rw [up_ne (by decide), up_eq]
        refine r_putI (μ := mX12_nextToken) (pc := 266) dX12_nextToken_266 fwX12_244 rfl (by decide) rfl ?_
        refine r_aload_n (μ := mX12_nextToken) (pc := 269) dX12_nextToken_269 rfl rfl rfl ?_
        refine r_dup (μ := mX12_nextToken) (pc := 270) dX12_nextToken_270 rfl ?_
        refine r_getI (μ := mX12_nextToken) (pc := 271) dX12_nextToken_271 fpX12_226 rfl rfl (by decide) ?_
        rw [up_ne (by decide), up_eq]
        refine r_iconst (μ := mX12_nextToken) (pc := 274) (v := 1) dX12_nextToken_274 ic_1 ?_
        refine r_iadd (μ := mX12_nextToken) (pc := 275) dX12_nextToken_275 ?_
        refine r_putI (μ := mX12_nextToken) (pc := 276) dX12_nextToken_276 fwX12_226 rfl (by decide) rfl ?_
        refine r_goto (μ := mX12_nextToken) (pc := 279) (tgt := 214) dX12_nextToken_279 (by decide) ?_
        refine WP.LM rfl ?_ (ih (c + 1) (by omega) (by omega) he)
        rw [hn, nI_succ, ux (k := 19) (j := 21) (by decide), uu, uu]
      · have hn : numT (mi 13) b (c + 1 - b) = 10 * numT (mi 13) b (c - b) + mi 13 c - 48 := by rw [e1]; refine (if_pos (by have := mt (nI_leI (a := 4) (by omega) (by omega)).mpr h_236; omega)).trans ?_; rw [e3]
        refine r_bipush (μ := mX12_nextToken) (pc := 239) (v := 10) dX12_nextToken_239 bp_10 ?_
        refine r_aload_n (μ := mX12_nextToken) (pc := 241) dX12_nextToken_241 rfl rfl rfl ?_
        refine r_getI (μ := mX12_nextToken) (pc := 242) dX12_nextToken_242 fpX12_244 rfl rfl (by decide) ?_
        rw [up_ne (by decide), up_eq]
        refine r_imul (μ := mX12_nextToken) (pc := 245) dX12_nextToken_245 ?_
        refine r_aload_n (μ := mX12_nextToken) (pc := 246) dX12_nextToken_246 rfl rfl rfl ?_
        refine r_getR (μ := mX12_nextToken) (pc := 247) dX12_nextToken_247 fpX12_46 rfl rfl (by decide) (hM _ _ rfl) ?_
        refine r_aload_n (μ := mX12_nextToken) (pc := 250) dX12_nextToken_250 rfl rfl rfl ?_
        refine r_getI (μ := mX12_nextToken) (pc := 251) dX12_nextToken_251 fpX12_226 rfl rfl (by decide) ?_
        rw [up_eq]
        refine r_iaload (μ := mX12_nextToken) (pc := 254) (j := c) dX12_nextToken_254 rfl rfl (by show c < 96; omega) (by decide) ?_
        rw [upI_ne (by decide), upI_ne (by decide)]
        refine r_iadd (μ := mX12_nextToken) (pc := 255) dX12_nextToken_255 ?_
        refine r_bipush (μ := mX12_nextToken) (pc := 256) (v := 48) dX12_nextToken_256 bp_48 ?_
        refine r_isub (μ := mX12_nextToken) (pc := 258) dX12_nextToken_258 ?_
        refine r_goto (μ := mX12_nextToken) (pc := 259) (tgt := 266) dX12_nextToken_259 (by decide) ?_
        refine r_putI (μ := mX12_nextToken) (pc := 266) dX12_nextToken_266 fwX12_244 rfl (by decide) rfl ?_
        refine r_aload_n (μ := mX12_nextToken) (pc := 269) dX12_nextToken_269 rfl rfl rfl ?_
        refine r_dup (μ := mX12_nextToken) (pc := 270) dX12_nextToken_270 rfl ?_
        refine r_getI (μ := mX12_nextToken) (pc := 271) dX12_nextToken_271 fpX12_226 rfl rfl (by decide) ?_
        rw [up_ne (by decide), up_eq]
        refine r_iconst (μ := mX12_nextToken) (pc := 274) (v := 1) dX12_nextToken_274 ic_1 ?_
        refine r_iadd (μ := mX12_nextToken) (pc := 275) dX12_nextToken_275 ?_
        refine r_putI (μ := mX12_nextToken) (pc := 276) dX12_nextToken_276 fwX12_226 rfl (by decide) rfl ?_
        refine r_goto (μ := mX12_nextToken) (pc := 279) (tgt := 214) dX12_nextToken_279 (by decide) ?_
        refine WP.LM rfl ?_ (ih (c + 1) (by omega) (by omega) he)
        rw [hn, nI_succ, ux (k := 19) (j := 21) (by decide), uu, uu]

theorem nxT_0 {tp e c : Nat} {T : Rw} {k : Int32} (hc : rnE (blB tp T) e = c) (h : c = tp) : nxT tp T e k = (c, c, 0, 0, 0) := by
  subst hc; unfold nxT; rw [if_pos h, h]
theorem nxT_l {tp e c x : Nat} {T : Rw} {k : Int32} (hc : rnE (blB tp T) e = c) (h : ¬ c = tp) (hl : ltB tp T c = true) (hx : rnE (ltB tp T) c = x) : nxT tp T e k = (c, x, if glu e k = true ∧ e = c then 4 else 1, 0, if x - c = 1 then T c else 0) := by
  subst hc; subst hx; unfold nxT; rw [if_neg h, if_pos hl]
theorem nxT_d {tp e c x : Nat} {T : Rw} {k : Int32} (hc : rnE (blB tp T) e = c) (h : ¬ c = tp) (hl : ltB tp T c = false) (hd : dgB tp T c = true) (hx : rnE (dgB tp T) c = x) : nxT tp T e k = (c, x, if (glu e k = true ∧ e = c) ∨ 4 < x - c then 4 else 2, numT T c (x - c), 0) := by
  subst hc; subst hx; unfold nxT; rw [if_neg h, if_neg (by rw [hl]; decide), if_pos hd]
theorem nxT_s {tp e c : Nat} {T : Rw} {k : Int32} (hc : rnE (blB tp T) e = c) (h : ¬ c = tp) (hl : ltB tp T c = false) (hd : dgB tp T c = false) : nxT tp T e k = (c, c + 1, 3, 0, T c) := by
  subst hc; unfold nxT; rw [if_neg h, if_neg (by rw [hl]; decide), if_neg (by rw [hd]; decide)]

theorem tkp_s {mi : MI} {le nu : Int32} {c : Nat} : TkP mi (upI (upI (upI (upI (upI mi 0 19 (nI c)) 0 18 (nI c)) 0 20 3) 0 22 le) 0 19 (nI c + 1)) (c, c + 1, 3, nu, le) := by
  refine ⟨fun a ha => ?_, ?_, ?_, ?_, fun h => absurd (show (3 : Int32) = 2 from h) (by decide), fun _ => ?_, fun j hj => ?_⟩
  · rw [upI_ne ha, upI_ne ha, upI_ne ha, upI_ne ha, upI_ne ha]
  · rw [up_ne (by decide), up_ne (by decide), up_ne (by decide), up_eq]; rfl
  · rw [up_eq, ← nI_succ]; rfl
  · rw [up_ne (by decide), up_ne (by decide), up_eq]; rfl
  · rw [up_ne (by decide), up_eq]; rfl
  · rw [up_ne (by omega), up_ne (by omega), up_ne (by omega), up_ne (by omega), up_ne (by omega)]

theorem lp_nt89 {d : Nat} {mi : MI} {mr : MR} {Q : QT} (hM : MB mr) {tp : Nat} (ht : mi 0 17 = nI tp) (ht96 : tp ≤ 96) {e c : Nat} {k : Int32} {x1 x2 : Value} (hx1 : catL x1 = true) (hx2 : catL x2 = true) (hc : rnE (blB tp (mi 13)) e = c) (hctp : c ≤ tp) (hq : ∀ mi2, TkP mi mi2 (nxT tp (mi 13) e k) → Q none shM mi2 mr) :
    WP (d + 2) mX12_nextToken 89 [.ref 0, x1, x2] [.int (b2i (decide (glu e k = true ∧ e = c)))] shM (upI mi 0 19 (nI c)) mr 0 0 Q := by
  refine s_istore_n (μ := mX12_nextToken) (pc := 89) (L2 := [_, _, _]) dX12_nextToken_89 rfl (Nat.le_of_ble_eq_true rfl) (Nat.le_of_ble_eq_true rfl) (by simp only [List.all_cons, List.all_nil, catL_i, catL_r, hx1, hx2, Bool.and_self]) rfl ?_
  refine r_aload_n (μ := mX12_nextToken) (pc := 90) dX12_nextToken_90 rfl rfl rfl ?_
  refine r_aload_n (μ := mX12_nextToken) (pc := 91) dX12_nextToken_91 rfl rfl rfl ?_
  refine r_getI (μ := mX12_nextToken) (pc := 92) dX12_nextToken_92 fpX12_226 rfl rfl (by decide) ?_
  rw [up_eq]
  refine r_putI (μ := mX12_nextToken) (pc := 95) dX12_nextToken_95 fwX12_232 rfl (by decide) rfl ?_
  refine r_aload_n (μ := mX12_nextToken) (pc := 98) dX12_nextToken_98 rfl rfl rfl ?_
  refine r_getI (μ := mX12_nextToken) (pc := 99) dX12_nextToken_99 fpX12_232 rfl rfl (by decide) ?_
  rw [up_eq]
  refine r_aload_n (μ := mX12_nextToken) (pc := 102) dX12_nextToken_102 rfl rfl rfl ?_
  refine r_getI (μ := mX12_nextToken) (pc := 103) dX12_nextToken_103 fpX12_215 rfl rfl (by decide) ?_
  rw [up_ne (by decide), up_ne (by decide), ht]
  refine r_icmp_ne (μ := mX12_nextToken) (pc := 106) (tgt := 117) dX12_nextToken_106 (by decide) (fun h_106 => ?_) (fun h_106 => ?_)
  · have hne : ¬ c = tp := fun z => h_106 (by rw [z])
    refine r_aload_n (μ := mX12_nextToken) (pc := 117) dX12_nextToken_117 rfl rfl rfl ?_
    refine r_aload_n (μ := mX12_nextToken) (pc := 118) dX12_nextToken_118 rfl rfl rfl ?_
    refine r_getI (μ := mX12_nextToken) (pc := 119) dX12_nextToken_119 fpX12_232 rfl rfl (by decide) ?_
    rw [up_eq]
    refine vP1 (μ := mX12_nextToken) (pc := 122) (c0 := 12) (q0 := (RX12, TX12, 34)) (μ2 := mX12_isLetter) dX12_nextToken_122 rfl rfl lkX12_235 imX12_isLetter seX12_X12_isLetter_X12_isLetter mwX12_isLetter (Nat.le_of_ble_eq_true rfl) (c_isLetter hM (tp := tp) (by rw [up_ne (by decide), up_ne (by decide)]; exact ht) ht96 (by omega)) ?_
    rw [upI_ne (by decide), upI_ne (by decide)]
    refine r_if_eq (μ := mX12_nextToken) (pc := 125) (tgt := 198) dX12_nextToken_125 (by decide) (fun h_125 => ?_) (fun h_125 => ?_)
    · have h_125 := b2i_0 h_125
      have hl := h_125
      refine r_aload_n (μ := mX12_nextToken) (pc := 198) dX12_nextToken_198 rfl rfl rfl ?_
      refine r_aload_n (μ := mX12_nextToken) (pc := 199) dX12_nextToken_199 rfl rfl rfl ?_
      refine r_getI (μ := mX12_nextToken) (pc := 200) dX12_nextToken_200 fpX12_232 rfl rfl (by decide) ?_
      rw [up_eq]
      refine vP1 (μ := mX12_nextToken) (pc := 203) (c0 := 12) (q0 := (RX12, TX12, 34)) (μ2 := mX12_isDigit) dX12_nextToken_203 rfl rfl lkX12_241 imX12_isDigit seX12_X12_isDigit_X12_isDigit mwX12_isDigit (Nat.le_of_ble_eq_true rfl) (c_isDigit hM (tp := tp) (by rw [up_ne (by decide), up_ne (by decide)]; exact ht) ht96 (by omega)) ?_
      rw [upI_ne (by decide), upI_ne (by decide)]
      refine r_if_eq (μ := mX12_nextToken) (pc := 206) (tgt := 311) dX12_nextToken_206 (by decide) (fun h_206 => ?_) (fun h_206 => ?_)
      · have h_206 := b2i_0 h_206
        have hd := h_206
        refine r_aload_n (μ := mX12_nextToken) (pc := 311) dX12_nextToken_311 rfl rfl rfl ?_
        refine r_iconst (μ := mX12_nextToken) (pc := 312) (v := 3) dX12_nextToken_312 ic_3 ?_
        refine r_putI (μ := mX12_nextToken) (pc := 313) dX12_nextToken_313 fwX12_229 rfl (by decide) rfl ?_
        refine r_aload_n (μ := mX12_nextToken) (pc := 316) dX12_nextToken_316 rfl rfl rfl ?_
        refine r_aload_n (μ := mX12_nextToken) (pc := 317) dX12_nextToken_317 rfl rfl rfl ?_
        refine r_getR (μ := mX12_nextToken) (pc := 318) dX12_nextToken_318 fpX12_46 rfl rfl (by decide) (hM _ _ rfl) ?_
        refine r_aload_n (μ := mX12_nextToken) (pc := 321) dX12_nextToken_321 rfl rfl rfl ?_
        refine r_getI (μ := mX12_nextToken) (pc := 322) dX12_nextToken_322 fpX12_232 rfl rfl (by decide) ?_
        rw [up_ne (by decide), up_eq]
        refine r_iaload (μ := mX12_nextToken) (pc := 325) (j := c) dX12_nextToken_325 rfl rfl (by show c < 96; omega) (by decide) ?_
        rw [upI_ne (by decide), upI_ne (by decide), upI_ne (by decide)]
        refine r_putI (μ := mX12_nextToken) (pc := 326) dX12_nextToken_326 fwX12_238 rfl (by decide) rfl ?_
        refine r_aload_n (μ := mX12_nextToken) (pc := 329) dX12_nextToken_329 rfl rfl rfl ?_
        refine r_dup (μ := mX12_nextToken) (pc := 330) dX12_nextToken_330 rfl ?_
        refine r_getI (μ := mX12_nextToken) (pc := 331) dX12_nextToken_331 fpX12_226 rfl rfl (by decide) ?_
        rw [up_ne (by decide), up_ne (by decide), up_ne (by decide), up_eq]
        refine r_iconst (μ := mX12_nextToken) (pc := 334) (v := 1) dX12_nextToken_334 ic_1 ?_
        refine r_iadd (μ := mX12_nextToken) (pc := 335) dX12_nextToken_335 ?_
        refine r_putI (μ := mX12_nextToken) (pc := 336) dX12_nextToken_336 fwX12_226 rfl (by decide) rfl ?_
        exact r_vret (μ := mX12_nextToken) (pc := 339) dX12_nextToken_339 rfl (by first | exact hq _ (by rw [nxT_0 hc heq]; exact tkp_0 rfl) | exact hq _ (by rw [nxT_s hc hne hl hd]; exact tkp_s))
      · have h_206 := b2i_1 h_206
        have hd := h_206
        refine r_aload_n (μ := mX12_nextToken) (pc := 209) dX12_nextToken_209 rfl rfl rfl ?_
        refine r_iconst (μ := mX12_nextToken) (pc := 210) (v := 0) dX12_nextToken_210 ic_0 ?_
        refine r_putI (μ := mX12_nextToken) (pc := 211) dX12_nextToken_211 fwX12_244 rfl (by decide) rfl ?_
        have h13 : upI (upI mi 0 19 (nI c)) 0 18 (nI c) 13 = mi 13 := by rw [upI_ne (by decide), upI_ne (by decide)]
        obtain ⟨x, hx⟩ : ∃ x, rnE (dgB tp (mi 13)) c = x := ⟨_, rfl⟩
        have hcx := (rnE_le dgB_lt hctp : _ ∧ rnE (dgB tp (mi 13)) c ≤ tp)
        rw [hx] at hcx
        obtain ⟨hcx, hxtp⟩ := hcx
        refine WP.LM rfl ?_ (lp_ntD (mi := (upI (upI mi 0 19 (nI c)) 0 18 (nI c))) hM (by rw [up_ne (by decide), up_ne (by decide)]; exact ht) ht96 (b := c) (e := x) up_eq ?_ (96 - c) c (by omega) (Nat.le_refl _) (by rw [h13]; exact hx))
        · rw [show c - c = 0 by omega]; exact (us (by rw [up_ne (by decide), up_ne (by decide), up_eq])).symm
        rw [h13]
        refine r_aload_n (μ := mX12_nextToken) (pc := 282) dX12_nextToken_282 rfl rfl rfl ?_
        refine r_iload_n (μ := mX12_nextToken) (pc := 283) dX12_nextToken_283 rfl rfl ?_
        refine r_if_ne (μ := mX12_nextToken) (pc := 284) (tgt := 300) dX12_nextToken_284 (by decide) (fun h_284 => ?_) (fun h_284 => ?_)
        · have hg : (glu e k = true ∧ e = c) ∨ 4 < x - c := Or.inl (of_decide_eq_true (b2i_1 h_284))
          refine r_iconst (μ := mX12_nextToken) (pc := 300) (v := 4) dX12_nextToken_300 ic_4 ?_
          refine r_goto (μ := mX12_nextToken) (pc := 301) (tgt := 305) dX12_nextToken_301 (by decide) ?_
          refine r_putI (μ := mX12_nextToken) (pc := 305) dX12_nextToken_305 fwX12_229 rfl (by decide) rfl ?_
          refine r_goto (μ := mX12_nextToken) (pc := 308) (tgt := 339) dX12_nextToken_308 (by decide) ?_
          exact r_vret (μ := mX12_nextToken) (pc := 339) dX12_nextToken_339 rfl (hq _ (by rw [nxT_d hc hne hl hd hx]; first | (rw [if_pos hg]; exact tkp_d (by decide)) | (rw [if_neg hg]; exact tkp_d (by decide))))
        · refine r_aload_n (μ := mX12_nextToken) (pc := 287) dX12_nextToken_287 rfl rfl rfl ?_
          refine r_getI (μ := mX12_nextToken) (pc := 288) dX12_nextToken_288 fpX12_226 rfl rfl (by decide) ?_
          rw [up_eq]
          refine r_aload_n (μ := mX12_nextToken) (pc := 291) dX12_nextToken_291 rfl rfl rfl ?_
          refine r_getI (μ := mX12_nextToken) (pc := 292) dX12_nextToken_292 fpX12_232 rfl rfl (by decide) ?_
          rw [up_ne (by decide), up_ne (by decide), up_eq]
          refine r_isub (μ := mX12_nextToken) (pc := 295) dX12_nextToken_295 ?_
          rw [pk_sub hcx]
          refine r_iconst (μ := mX12_nextToken) (pc := 296) (v := 4) dX12_nextToken_296 ic_4 ?_
          refine r_icmp_le (μ := mX12_nextToken) (pc := 297) (tgt := 304) dX12_nextToken_297 (by decide) (fun h_297 => ?_) (fun h_297 => ?_)
          · have hg : ¬ ((glu e k = true ∧ e = c) ∨ 4 < x - c) := fun z => z.elim (fun z => absurd ((decide_eq_true z).symm.trans (b2i_0 h_284)) (by decide)) (fun z => absurd ((nI_leI (b := 4) (by omega) (by omega)).mp h_297) (by omega))
            refine r_iconst (μ := mX12_nextToken) (pc := 304) (v := 2) dX12_nextToken_304 ic_2 ?_
            refine r_putI (μ := mX12_nextToken) (pc := 305) dX12_nextToken_305 fwX12_229 rfl (by decide) rfl ?_
            refine r_goto (μ := mX12_nextToken) (pc := 308) (tgt := 339) dX12_nextToken_308 (by decide) ?_
            exact r_vret (μ := mX12_nextToken) (pc := 339) dX12_nextToken_339 rfl (hq _ (by rw [nxT_d hc hne hl hd hx]; first | (rw [if_pos hg]; exact tkp_d (by decide)) | (rw [if_neg hg]; exact tkp_d (by decide))))
          · have hg : (glu e k = true ∧ e = c) ∨ 4 < x - c := Or.inr (by have := mt (nI_leI (b := 4) (by omega) (by omega)).mpr h_297; omega)
            refine r_iconst (μ := mX12_nextToken) (pc := 300) (v := 4) dX12_nextToken_300 ic_4 ?_
            refine r_goto (μ := mX12_nextToken) (pc := 301) (tgt := 305) dX12_nextToken_301 (by decide) ?_
            refine r_putI (μ := mX12_nextToken) (pc := 305) dX12_nextToken_305 fwX12_229 rfl (by decide) rfl ?_
            refine r_goto (μ := mX12_nextToken) (pc := 308) (tgt := 339) dX12_nextToken_308 (by decide) ?_
            exact r_vret (μ := mX12_nextToken) (pc := 339) dX12_nextToken_339 rfl (hq _ (by rw [nxT_d hc hne hl hd hx]; first | (rw [if_pos hg]; exact tkp_d (by decide)) | (rw [if_neg hg]; exact tkp_d (by decide))))
    · have h_125 := b2i_1 h_125
      have hl := h_125
      have h13 : upI (upI mi 0 19 (nI c)) 0 18 (nI c) 13 = mi 13 := by rw [upI_ne (by decide), upI_ne (by decide)]
      obtain ⟨x, hx⟩ : ∃ x, rnE (ltB tp (mi 13)) c = x := ⟨_, rfl⟩
      have hcx := (rnE_le ltB_lt hctp : _ ∧ rnE (ltB tp (mi 13)) c ≤ tp)
      rw [hx] at hcx
      obtain ⟨hcx, hxtp⟩ := hcx
      refine WP.LM rfl (us (by rw [up_ne (by decide), up_eq])).symm (lp_ntL (mi := (upI (upI mi 0 19 (nI c)) 0 18 (nI c))) hM (by rw [up_ne (by decide), up_ne (by decide)]; exact ht) ht96 (e := x) ?_ (96 - c) c (by omega) (by rw [h13]; exact hx))
      refine r_aload_n (μ := mX12_nextToken) (pc := 152) dX12_nextToken_152 rfl rfl rfl ?_
      refine r_iload_n (μ := mX12_nextToken) (pc := 153) dX12_nextToken_153 rfl rfl ?_
      refine r_if_eq (μ := mX12_nextToken) (pc := 154) (tgt := 161) dX12_nextToken_154 (by decide) (fun h_154 => ?_) (fun h_154 => ?_)
      · have hg : ¬ (glu e k = true ∧ e = c) := fun z => absurd ((decide_eq_true z).symm.trans (b2i_0 h_154)) (by decide)
        refine r_iconst (μ := mX12_nextToken) (pc := 161) (v := 1) dX12_nextToken_161 ic_1 ?_
        refine r_putI (μ := mX12_nextToken) (pc := 162) dX12_nextToken_162 fwX12_229 rfl (by decide) rfl ?_
        refine r_aload_n (μ := mX12_nextToken) (pc := 165) dX12_nextToken_165 rfl rfl rfl ?_
        refine r_aload_n (μ := mX12_nextToken) (pc := 166) dX12_nextToken_166 rfl rfl rfl ?_
        refine r_getI (μ := mX12_nextToken) (pc := 167) dX12_nextToken_167 fpX12_226 rfl rfl (by decide) ?_
        rw [up_ne (by decide), up_eq]
        refine r_aload_n (μ := mX12_nextToken) (pc := 170) dX12_nextToken_170 rfl rfl rfl ?_
        refine r_getI (μ := mX12_nextToken) (pc := 171) dX12_nextToken_171 fpX12_232 rfl rfl (by decide) ?_
        rw [up_ne (by decide), up_ne (by decide), up_eq]
        refine r_isub (μ := mX12_nextToken) (pc := 174) dX12_nextToken_174 ?_
        rw [pk_sub hcx]
        refine r_iconst (μ := mX12_nextToken) (pc := 175) (v := 1) dX12_nextToken_175 ic_1 ?_
        refine r_icmp_ne (μ := mX12_nextToken) (pc := 176) (tgt := 191) dX12_nextToken_176 (by decide) (fun h_176 => ?_) (fun h_176 => ?_)
        · have h1 : ¬ x - c = 1 := fun z => h_176 (by rw [z]; rfl)
          refine r_iconst (μ := mX12_nextToken) (pc := 191) (v := 0) dX12_nextToken_191 ic_0 ?_
          refine r_putI (μ := mX12_nextToken) (pc := 192) dX12_nextToken_192 fwX12_238 rfl (by decide) rfl ?_
          refine r_goto (μ := mX12_nextToken) (pc := 195) (tgt := 339) dX12_nextToken_195 (by decide) ?_
          exact r_vret (μ := mX12_nextToken) (pc := 339) dX12_nextToken_339 rfl (hq _ (by rw [nxT_l hc hne hl hx]; first | (rw [if_pos hg, if_pos h1]; exact tkp_5 (by decide)) | (rw [if_pos hg, if_neg h1]; exact tkp_5 (by decide)) | (rw [if_neg hg, if_pos h1]; exact tkp_5 (by decide)) | (rw [if_neg hg, if_neg h1]; exact tkp_5 (by decide))))
        · have h1 : x - c = 1 := (nI_eq (b := 1) (by omega) (by omega)).mp h_176
          refine r_aload_n (μ := mX12_nextToken) (pc := 179) dX12_nextToken_179 rfl rfl rfl ?_
          refine r_getR (μ := mX12_nextToken) (pc := 180) dX12_nextToken_180 fpX12_46 rfl rfl (by decide) (hM _ _ rfl) ?_
          refine r_aload_n (μ := mX12_nextToken) (pc := 183) dX12_nextToken_183 rfl rfl rfl ?_
          refine r_getI (μ := mX12_nextToken) (pc := 184) dX12_nextToken_184 fpX12_232 rfl rfl (by decide) ?_
          rw [up_ne (by decide), up_ne (by decide), up_eq]
          refine r_iaload (μ := mX12_nextToken) (pc := 187) (j := c) dX12_nextToken_187 rfl rfl (by show c < 96; omega) (by decide) ?_
          rw [upI_ne (by decide), upI_ne (by decide), upI_ne (by decide), upI_ne (by decide)]
          refine r_goto (μ := mX12_nextToken) (pc := 188) (tgt := 192) dX12_nextToken_188 (by decide) ?_
          refine r_putI (μ := mX12_nextToken) (pc := 192) dX12_nextToken_192 fwX12_238 rfl (by decide) rfl ?_
          refine r_goto (μ := mX12_nextToken) (pc := 195) (tgt := 339) dX12_nextToken_195 (by decide) ?_
          exact r_vret (μ := mX12_nextToken) (pc := 339) dX12_nextToken_339 rfl (hq _ (by rw [nxT_l hc hne hl hx]; first | (rw [if_pos hg, if_pos h1]; exact tkp_5 (by decide)) | (rw [if_pos hg, if_neg h1]; exact tkp_5 (by decide)) | (rw [if_neg hg, if_pos h1]; exact tkp_5 (by decide)) | (rw [if_neg hg, if_neg h1]; exact tkp_5 (by decide))))
      · have hg : glu e k = true ∧ e = c := of_decide_eq_true (b2i_1 h_154)
        refine r_iconst (μ := mX12_nextToken) (pc := 157) (v := 4) dX12_nextToken_157 ic_4 ?_
        refine r_goto (μ := mX12_nextToken) (pc := 158) (tgt := 162) dX12_nextToken_158 (by decide) ?_
        refine r_putI (μ := mX12_nextToken) (pc := 162) dX12_nextToken_162 fwX12_229 rfl (by decide) rfl ?_
        refine r_aload_n (μ := mX12_nextToken) (pc := 165) dX12_nextToken_165 rfl rfl rfl ?_
        refine r_aload_n (μ := mX12_nextToken) (pc := 166) dX12_nextToken_166 rfl rfl rfl ?_
        refine r_getI (μ := mX12_nextToken) (pc := 167) dX12_nextToken_167 fpX12_226 rfl rfl (by decide) ?_
        rw [up_ne (by decide), up_eq]
        refine r_aload_n (μ := mX12_nextToken) (pc := 170) dX12_nextToken_170 rfl rfl rfl ?_
        refine r_getI (μ := mX12_nextToken) (pc := 171) dX12_nextToken_171 fpX12_232 rfl rfl (by decide) ?_
        rw [up_ne (by decide), up_ne (by decide), up_eq]
        refine r_isub (μ := mX12_nextToken) (pc := 174) dX12_nextToken_174 ?_
        rw [pk_sub hcx]
        refine r_iconst (μ := mX12_nextToken) (pc := 175) (v := 1) dX12_nextToken_175 ic_1 ?_
        refine r_icmp_ne (μ := mX12_nextToken) (pc := 176) (tgt := 191) dX12_nextToken_176 (by decide) (fun h_176 => ?_) (fun h_176 => ?_)
        · have h1 : ¬ x - c = 1 := fun z => h_176 (by rw [z]; rfl)
          refine r_iconst (μ := mX12_nextToken) (pc := 191) (v := 0) dX12_nextToken_191 ic_0 ?_
          refine r_putI (μ := mX12_nextToken) (pc := 192) dX12_nextToken_192 fwX12_238 rfl (by decide) rfl ?_
          refine r_goto (μ := mX12_nextToken) (pc := 195) (tgt := 339) dX12_nextToken_195 (by decide) ?_
          exact r_vret (μ := mX12_nextToken) (pc := 339) dX12_nextToken_339 rfl (hq _ (by rw [nxT_l hc hne hl hx]; first | (rw [if_pos hg, if_pos h1]; exact tkp_5 (by decide)) | (rw [if_pos hg, if_neg h1]; exact tkp_5 (by decide)) | (rw [if_neg hg, if_pos h1]; exact tkp_5 (by decide)) | (rw [if_neg hg, if_neg h1]; exact tkp_5 (by decide))))
        · have h1 : x - c = 1 := (nI_eq (b := 1) (by omega) (by omega)).mp h_176
          refine r_aload_n (μ := mX12_nextToken) (pc := 179) dX12_nextToken_179 rfl rfl rfl ?_
          refine r_getR (μ := mX12_nextToken) (pc := 180) dX12_nextToken_180 fpX12_46 rfl rfl (by decide) (hM _ _ rfl) ?_
          refine r_aload_n (μ := mX12_nextToken) (pc := 183) dX12_nextToken_183 rfl rfl rfl ?_
          refine r_getI (μ := mX12_nextToken) (pc := 184) dX12_nextToken_184 fpX12_232 rfl rfl (by decide) ?_
          rw [up_ne (by decide), up_ne (by decide), up_eq]
          refine r_iaload (μ := mX12_nextToken) (pc := 187) (j := c) dX12_nextToken_187 rfl rfl (by show c < 96; omega) (by decide) ?_
          rw [upI_ne (by decide), upI_ne (by decide), upI_ne (by decide), upI_ne (by decide)]
          refine r_goto (μ := mX12_nextToken) (pc := 188) (tgt := 192) dX12_nextToken_188 (by decide) ?_
          refine r_putI (μ := mX12_nextToken) (pc := 192) dX12_nextToken_192 fwX12_238 rfl (by decide) rfl ?_
          refine r_goto (μ := mX12_nextToken) (pc := 195) (tgt := 339) dX12_nextToken_195 (by decide) ?_
          exact r_vret (μ := mX12_nextToken) (pc := 339) dX12_nextToken_339 rfl (hq _ (by rw [nxT_l hc hne hl hx]; first | (rw [if_pos hg, if_pos h1]; exact tkp_5 (by decide)) | (rw [if_pos hg, if_neg h1]; exact tkp_5 (by decide)) | (rw [if_neg hg, if_pos h1]; exact tkp_5 (by decide)) | (rw [if_neg hg, if_neg h1]; exact tkp_5 (by decide))))
  · have heq : c = tp := (nI_eq (by omega) (by omega)).mp h_106
    refine r_aload_n (μ := mX12_nextToken) (pc := 109) dX12_nextToken_109 rfl rfl rfl ?_
    refine r_iconst (μ := mX12_nextToken) (pc := 110) (v := 0) dX12_nextToken_110 ic_0 ?_
    refine r_putI (μ := mX12_nextToken) (pc := 111) dX12_nextToken_111 fwX12_229 rfl (by decide) rfl ?_
    refine r_goto (μ := mX12_nextToken) (pc := 114) (tgt := 339) dX12_nextToken_114 (by decide) ?_
    exact r_vret (μ := mX12_nextToken) (pc := 339) dX12_nextToken_339 rfl (by first | exact hq _ (by rw [nxT_0 hc heq]; exact tkp_0 rfl) | exact hq _ (by rw [nxT_s hc hne hl hd]; exact tkp_s))

theorem lp_nt28 {d : Nat} {mi : MI} {mr : MR} {Q : QT} (hM : MB mr) {tp : Nat} (ht : mi 0 17 = nI tp) (ht96 : tp ≤ 96) {e : Nat} {k : Int32} (he : mi 0 19 = nI e) (hetp : e ≤ tp) (hq : ∀ mi2, TkP mi mi2 (nxT tp (mi 13) e k) → Q none shM mi2 mr) :
    WP (d + 2) mX12_nextToken 28 [.ref 0, hole, hole] [.int (b2i (glu e k))] shM mi mr 0 0 Q := by
  obtain ⟨c, hc⟩ : ∃ c, rnE (blB tp (mi 13)) e = c := ⟨_, rfl⟩
  have hcx := (rnE_le blB_lt hetp : _ ∧ rnE (blB tp (mi 13)) e ≤ tp)
  rw [hc] at hcx
  refine s_istore_n (μ := mX12_nextToken) (pc := 28) (L2 := [_, _, _]) dX12_nextToken_28 rfl (Nat.le_of_ble_eq_true rfl) (Nat.le_of_ble_eq_true rfl) rfl rfl ?_
  refine r_aload_n (μ := mX12_nextToken) (pc := 29) dX12_nextToken_29 rfl rfl rfl ?_
  refine r_getI (μ := mX12_nextToken) (pc := 30) dX12_nextToken_30 fpX12_226 rfl rfl (by decide) ?_
  rw [he]
  refine s_istore_n (μ := mX12_nextToken) (pc := 33) (L2 := [_, _, _]) dX12_nextToken_33 rfl (Nat.le_of_ble_eq_true rfl) (Nat.le_of_ble_eq_true rfl) rfl rfl ?_
  refine WP.LM rfl (us he).symm (lp_ntB hM ht ht96 (e := c) ?_ (96 - e) e (by omega) hc)
  refine r_iload_n (μ := mX12_nextToken) (pc := 72) dX12_nextToken_72 rfl rfl ?_
  refine r_if_eq (μ := mX12_nextToken) (pc := 73) (tgt := 88) dX12_nextToken_73 (by decide) (fun h_73 => ?_) (fun h_73 => ?_)
  · have hz : decide (glu e k = true ∧ e = c) = false := decide_eq_false (fun z => absurd (z.1.symm.trans (b2i_0 h_73)) (by decide))
    refine r_iconst (μ := mX12_nextToken) (pc := 88) (v := 0) dX12_nextToken_88 ic_0 ?_
    refine WP.S (show _ = [Value.int (b2i (decide (glu e k = true ∧ e = c)))] by rw [hz]; rfl) ?_
    exact lp_nt89 hM ht ht96 rfl rfl hc hcx.2 hq
  · refine r_iload_n (μ := mX12_nextToken) (pc := 76) dX12_nextToken_76 rfl rfl ?_
    refine r_aload_n (μ := mX12_nextToken) (pc := 77) dX12_nextToken_77 rfl rfl rfl ?_
    refine r_getI (μ := mX12_nextToken) (pc := 78) dX12_nextToken_78 fpX12_226 rfl rfl (by decide) ?_
    rw [up_eq]
    refine r_icmp_ne (μ := mX12_nextToken) (pc := 81) (tgt := 88) dX12_nextToken_81 (by decide) (fun h_81 => ?_) (fun h_81 => ?_)
    · have hz : decide (glu e k = true ∧ e = c) = false := decide_eq_false (fun z => h_81 (by rw [z.2]))
      refine r_iconst (μ := mX12_nextToken) (pc := 88) (v := 0) dX12_nextToken_88 ic_0 ?_
      refine WP.S (show _ = [Value.int (b2i (decide (glu e k = true ∧ e = c)))] by rw [hz]; rfl) ?_
      exact lp_nt89 hM ht ht96 rfl rfl hc hcx.2 hq
    · have hz : decide (glu e k = true ∧ e = c) = true := decide_eq_true ⟨b2i_1 h_73, (nI_eq (by omega) (by omega)).mp h_81⟩
      refine r_iconst (μ := mX12_nextToken) (pc := 84) (v := 1) dX12_nextToken_84 ic_1 ?_
      refine r_goto (μ := mX12_nextToken) (pc := 85) (tgt := 89) dX12_nextToken_85 (by decide) ?_
      refine WP.S (show _ = [Value.int (b2i (decide (glu e k = true ∧ e = c)))] by rw [hz]; rfl) ?_
      exact lp_nt89 hM ht ht96 rfl rfl hc hcx.2 hq

theorem c_nextToken {d : Nat} {mi : MI} {mr : MR} (hM : MB mr) {tp e : Nat} {k : Int32} (ht : mi 0 17 = nI tp) (ht96 : tp ≤ 96) (he : mi 0 19 = nI e) (hetp : e ≤ tp) (hk : mi 0 20 = k) : CP (d + 2) mX12_nextToken [.ref 0] shM mi mr 0 0 (PV shM mr (fun mi2 => TkP mi mi2 (nxT tp (mi 13) e k))) := by
  refine CP.of (L := [_, _, _]) (by decide) rfl rfl (Nat.le_of_ble_eq_true rfl) ?_
  refine r_aload_n (μ := mX12_nextToken) (pc := 0) dX12_nextToken_0 rfl rfl rfl ?_
  refine r_getI (μ := mX12_nextToken) (pc := 1) dX12_nextToken_1 fpX12_226 rfl rfl (by decide) ?_
  rw [he]
  refine r_if_le (μ := mX12_nextToken) (pc := 4) (tgt := 27) dX12_nextToken_4 (by decide) (fun h_4 => ?_) (fun h_4 => ?_)
  · have hz : glu e k = false := by unfold glu; rw [decide_eq_false (by have := (nI_leI (b := 0) (by omega) (by omega)).mp h_4; omega)]; rfl
    refine r_iconst (μ := mX12_nextToken) (pc := 27) (v := 0) dX12_nextToken_27 ic_0 ?_
    refine WP.S (show _ = [Value.int (b2i (glu e k))] by rw [hz]; rfl) ?_
    exact lp_nt28 hM ht ht96 he hetp (fun mi2 h => PV_i h)
  · have h4 : 0 < e := by have := mt (nI_leI (b := 0) (by omega) (by omega)).mpr h_4; omega
    refine r_aload_n (μ := mX12_nextToken) (pc := 7) dX12_nextToken_7 rfl rfl rfl ?_
    refine r_getI (μ := mX12_nextToken) (pc := 8) dX12_nextToken_8 fpX12_229 rfl rfl (by decide) ?_
    rw [hk]
    refine r_iconst (μ := mX12_nextToken) (pc := 11) (v := 1) dX12_nextToken_11 ic_1 ?_
    refine r_icmp_eq (μ := mX12_nextToken) (pc := 12) (tgt := 23) dX12_nextToken_12 (by decide) (fun h_12 => ?_) (fun h_12 => ?_)
    · have hz : glu e k = true := by unfold glu; rw [decide_eq_true h4, decide_eq_true h_12]; rfl
      refine r_iconst (μ := mX12_nextToken) (pc := 23) (v := 1) dX12_nextToken_23 ic_1 ?_
      refine r_goto (μ := mX12_nextToken) (pc := 24) (tgt := 28) dX12_nextToken_24 (by decide) ?_
      refine WP.S (show _ = [Value.int (b2i (glu e k))] by rw [hz]; rfl) ?_
      exact lp_nt28 hM ht ht96 he hetp (fun mi2 h => PV_i h)
    · refine r_aload_n (μ := mX12_nextToken) (pc := 15) dX12_nextToken_15 rfl rfl rfl ?_
      refine r_getI (μ := mX12_nextToken) (pc := 16) dX12_nextToken_16 fpX12_229 rfl rfl (by decide) ?_
      rw [hk]
      refine r_iconst (μ := mX12_nextToken) (pc := 19) (v := 2) dX12_nextToken_19 ic_2 ?_
      refine r_icmp_ne (μ := mX12_nextToken) (pc := 20) (tgt := 27) dX12_nextToken_20 (by decide) (fun h_20 => ?_) (fun h_20 => ?_)
      · have hz : glu e k = false := by unfold glu; rw [decide_eq_false h_12, decide_eq_false h_20]; simp
        refine r_iconst (μ := mX12_nextToken) (pc := 27) (v := 0) dX12_nextToken_27 ic_0 ?_
        refine WP.S (show _ = [Value.int (b2i (glu e k))] by rw [hz]; rfl) ?_
        exact lp_nt28 hM ht ht96 he hetp (fun mi2 h => PV_i h)
      · have hz : glu e k = true := by unfold glu; rw [decide_eq_true h4, decide_eq_true h_20]; simp
        refine r_iconst (μ := mX12_nextToken) (pc := 23) (v := 1) dX12_nextToken_23 ic_1 ?_
        refine r_goto (μ := mX12_nextToken) (pc := 24) (tgt := 28) dX12_nextToken_24 (by decide) ?_
        refine WP.S (show _ = [Value.int (b2i (glu e k))] by rw [hz]; rfl) ?_
        exact lp_nt28 hM ht ht96 he hetp (fun mi2 h => PV_i h)

