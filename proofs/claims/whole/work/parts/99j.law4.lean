section
variable {p : Program} {l : Launch} {e : Env} {s : State} {m : MethodId} {args : Array Value} {below : List Frame} {meth : Method} {c : Code} {H : Heap} {locs : List Loc} {cells slots : Nat} {ls : Array Slot} {QQ : State → Prop} {g : LG} {sh : List Sh} {mi : MI} {mr : MR} {M : MI} {Mr : MR} {b L i : Nat} {xs : Nat → Int32}
theorem vp_j {j : Nat} (hi : i + 6 ≤ L) (hL : L ≤ 3072) (hj : j < 6) {v : Int32} (hv : v = nI j) : vp_in (nI i + v) L := by
  rw [hv, show nI i + nI j = nI (i + j) from nI_add i j]
  exact vp_in_nI (by omega) (by omega)

theorem lo_ledge (hx : p.tables.exec = Jvm.exec) (hb : c.code = code) (hml : c.maxLocals = 4) (hown : s.vm.findClass RL = some m.cls) (hg : LGr g s) (hX : va_X b L xs s s.heap) (hbl : b < s.heap.size) (hi : i + 6 ≤ L) (hL : L ≤ 3072) (hl : lv_has ls 4 [(0, .ref b), (1, .ref s.heap.size), (2, .ref (s.heap.size + 76)), (3, .int (nI i))]) (hrel : REL sh mi mr M Mr) (h : LSt g s.heap.size H sh mi mr M Mr) (hS : va_S (fun q => s.heap.size ≤ q) s.heap H locs) (hc : cells + 2 ≤ 600000) (hs : slots + 99 ≤ 7302250) (k : ∀ (sh2 : List Sh) (mi2 : MI) (mr2 : MR) (M2 : MI) (H1 : Heap) (locs1 : List Loc) (cells1 slots1 : Nat), REL sh2 mi2 mr2 M2 Mr → LSt g s.heap.size H1 sh2 mi2 mr2 M2 Mr → va_S (fun q => s.heap.size ≤ q) s.heap H1 locs1 → cells1 ≤ cells + 2 → slots1 ≤ slots + 99 → W p l e room_1 s m args below meth c H1 locs1 cells1 slots1 QQ (F0 m 1623 ls [])) : W p l e room_1 s m args below meth c H locs cells slots QQ (F0 m 228 ls []) := by
  obtain ⟨r, Rc, Rm, mc, ms, ⟨hmc, hms⟩, cpC, cpM, hfin⟩ := sim_ledge hrel (xs (nI i + 1).toNatClampNeg) (xs (nI i + 2).toNatClampNeg)
  refine lv_aload_n hx hb dL_law_228 rfl (lv_at hl 1 rfl) ?_
  refine lv_aload_n hx hb dL_law_229 rfl (lv_at hl 0 rfl) ?_
  refine lv_iload_n hx hb dL_law_230 rfl (lv_at hl 3 rfl) ?_
  refine lv_iconst (v := 1) hx hb dL_law_231 (by decide) ?_
  refine lv_iadd hx hb dL_law_232 ?_
  refine va_sld hx hb hX hbl (Nat.not_le.mpr hbl) hS (vp_j (j := 1) hi hL (by decide) rfl) dL_law_233 ?_
  refine lv_aload_n hx hb dL_law_234 rfl (lv_at hl 0 rfl) ?_
  refine lv_iload_n hx hb dL_law_235 rfl (lv_at hl 3 rfl) ?_
  refine lv_iconst (v := 2) hx hb dL_law_236 (by decide) ?_
  refine lv_iadd hx hb dL_law_237 ?_
  refine va_sld hx hb hX hbl (Nat.not_le.mpr hbl) hS (vp_j (j := 2) hi hL (by decide) rfl) dL_law_238 ?_
  refine lawC (S := []) hx hb hml hown hg h hrel.1.1 hS hl.1 cpC dL_law_239 rfl lkL_13 imX11_ledge seX11_X11_ledge_X11_ledge mwX11_ledge (by omega) (by omega) rfl (by decide) (fun sh2 mi2 mr2 H1 locs1 hRc h1 hS1 => ?_)
  refine lv_aload_n hx hb dL_law_242 rfl (lv_at hl 2 rfl) ?_
  refine lv_aload_n hx hb dL_law_243 rfl (lv_at hl 0 rfl) ?_
  refine lv_iload_n hx hb dL_law_244 rfl (lv_at hl 3 rfl) ?_
  refine lv_iconst (v := 1) hx hb dL_law_245 (by decide) ?_
  refine lv_iadd hx hb dL_law_246 ?_
  refine va_sld hx hb hX hbl (Nat.not_le.mpr hbl) hS1 (vp_j (j := 1) hi hL (by decide) rfl) dL_law_247 ?_
  refine lv_aload_n hx hb dL_law_248 rfl (lv_at hl 0 rfl) ?_
  refine lv_iload_n hx hb dL_law_249 rfl (lv_at hl 3 rfl) ?_
  refine lv_iconst (v := 2) hx hb dL_law_250 (by decide) ?_
  refine lv_iadd hx hb dL_law_251 ?_
  refine va_sld hx hb hX hbl (Nat.not_le.mpr hbl) hS1 (vp_j (j := 2) hi hL (by decide) rfl) dL_law_252 ?_
  refine lawM (S := [.int r]) hx hb hml hown hg h1 hS1 hl.1 cpM dL_law_253 rfl lkL_17 imX12_ledge seX12_X12_ledge_X12_ledge mwX12_ledge (by omega) (by omega) rfl (Nat.le_of_ble_eq_true rfl) (fun M2 H2 locs2 hRm h2 hS2 => ?_)
  refine lv_icmp_eq (tgt := 1623) hx hb dL_law_256 (by decide) (fun _ => ?_) (fun z => absurd rfl z)
  exact k sh2 mi2 mr2 M2 H2 locs2 _ _ (hfin sh2 mi2 mr2 M2 hRc hRm).1 h2 hS2 (by omega) (by omega)

theorem lo_ledgeTold (hx : p.tables.exec = Jvm.exec) (hb : c.code = code) (hml : c.maxLocals = 4) (hown : s.vm.findClass RL = some m.cls) (hg : LGr g s) (hX : va_X b L xs s s.heap) (hbl : b < s.heap.size) (hi : i + 6 ≤ L) (hL : L ≤ 3072) (hl : lv_has ls 4 [(0, .ref b), (1, .ref s.heap.size), (2, .ref (s.heap.size + 76)), (3, .int (nI i))]) (hrel : REL sh mi mr M Mr) (h : LSt g s.heap.size H sh mi mr M Mr) (hS : va_S (fun q => s.heap.size ≤ q) s.heap H locs) (hc : cells + 2 ≤ 600000) (hs : slots + 99 ≤ 7302250) (k : ∀ (sh2 : List Sh) (mi2 : MI) (mr2 : MR) (M2 : MI) (H1 : Heap) (locs1 : List Loc) (cells1 slots1 : Nat), REL sh2 mi2 mr2 M2 Mr → LSt g s.heap.size H1 sh2 mi2 mr2 M2 Mr → va_S (fun q => s.heap.size ≤ q) s.heap H1 locs1 → cells1 ≤ cells + 2 → slots1 ≤ slots + 99 → W p l e room_1 s m args below meth c H1 locs1 cells1 slots1 QQ (F0 m 1623 ls [])) : W p l e room_1 s m args below meth c H locs cells slots QQ (F0 m 261 ls []) := by
  obtain ⟨r, Rc, Rm, mc, ms, ⟨hmc, hms⟩, cpC, cpM, hfin⟩ := sim_ledgeTold hrel (xs (nI i + 1).toNatClampNeg) (xs (nI i + 2).toNatClampNeg)
  refine lv_aload_n hx hb dL_law_261 rfl (lv_at hl 1 rfl) ?_
  refine lv_aload_n hx hb dL_law_262 rfl (lv_at hl 0 rfl) ?_
  refine lv_iload_n hx hb dL_law_263 rfl (lv_at hl 3 rfl) ?_
  refine lv_iconst (v := 1) hx hb dL_law_264 (by decide) ?_
  refine lv_iadd hx hb dL_law_265 ?_
  refine va_sld hx hb hX hbl (Nat.not_le.mpr hbl) hS (vp_j (j := 1) hi hL (by decide) rfl) dL_law_266 ?_
  refine lv_aload_n hx hb dL_law_267 rfl (lv_at hl 0 rfl) ?_
  refine lv_iload_n hx hb dL_law_268 rfl (lv_at hl 3 rfl) ?_
  refine lv_iconst (v := 2) hx hb dL_law_269 (by decide) ?_
  refine lv_iadd hx hb dL_law_270 ?_
  refine va_sld hx hb hX hbl (Nat.not_le.mpr hbl) hS (vp_j (j := 2) hi hL (by decide) rfl) dL_law_271 ?_
  refine lawC (S := []) hx hb hml hown hg h hrel.1.1 hS hl.1 cpC dL_law_272 rfl lkL_18 imX11_ledgeTold seX11_X11_ledgeTold_X11_ledgeTold mwX11_ledgeTold (by omega) (by omega) rfl (by decide) (fun sh2 mi2 mr2 H1 locs1 hRc h1 hS1 => ?_)
  refine lv_aload_n hx hb dL_law_275 rfl (lv_at hl 2 rfl) ?_
  refine lv_aload_n hx hb dL_law_276 rfl (lv_at hl 0 rfl) ?_
  refine lv_iload_n hx hb dL_law_277 rfl (lv_at hl 3 rfl) ?_
  refine lv_iconst (v := 1) hx hb dL_law_278 (by decide) ?_
  refine lv_iadd hx hb dL_law_279 ?_
  refine va_sld hx hb hX hbl (Nat.not_le.mpr hbl) hS1 (vp_j (j := 1) hi hL (by decide) rfl) dL_law_280 ?_
  refine lv_aload_n hx hb dL_law_281 rfl (lv_at hl 0 rfl) ?_
  refine lv_iload_n hx hb dL_law_282 rfl (lv_at hl 3 rfl) ?_
  refine lv_iconst (v := 2) hx hb dL_law_283 (by decide) ?_
  refine lv_iadd hx hb dL_law_284 ?_
  refine va_sld hx hb hX hbl (Nat.not_le.mpr hbl) hS1 (vp_j (j := 2) hi hL (by decide) rfl) dL_law_285 ?_
  refine lawM (S := [.int r]) hx hb hml hown hg h1 hS1 hl.1 cpM dL_law_286 rfl lkL_21 imX12_ledgeTold seX12_X12_ledgeTold_X12_ledgeTold mwX12_ledgeTold (by omega) (by omega) rfl (Nat.le_of_ble_eq_true rfl) (fun M2 H2 locs2 hRm h2 hS2 => ?_)
  refine lv_icmp_eq (tgt := 1623) hx hb dL_law_289 (by decide) (fun _ => ?_) (fun z => absurd rfl z)
  exact k sh2 mi2 mr2 M2 H2 locs2 _ _ (hfin sh2 mi2 mr2 M2 hRc hRm).1 h2 hS2 (by omega) (by omega)

theorem lo_change (hx : p.tables.exec = Jvm.exec) (hb : c.code = code) (hml : c.maxLocals = 4) (hown : s.vm.findClass RL = some m.cls) (hg : LGr g s) (hX : va_X b L xs s s.heap) (hbl : b < s.heap.size) (hi : i + 6 ≤ L) (hL : L ≤ 3072) (hl : lv_has ls 4 [(0, .ref b), (1, .ref s.heap.size), (2, .ref (s.heap.size + 76)), (3, .int (nI i))]) (hrel : REL sh mi mr M Mr) (h : LSt g s.heap.size H sh mi mr M Mr) (hS : va_S (fun q => s.heap.size ≤ q) s.heap H locs) (hc : cells + 2 ≤ 600000) (hs : slots + 99 ≤ 7302250) (k : ∀ (sh2 : List Sh) (mi2 : MI) (mr2 : MR) (M2 : MI) (H1 : Heap) (locs1 : List Loc) (cells1 slots1 : Nat), REL sh2 mi2 mr2 M2 Mr → LSt g s.heap.size H1 sh2 mi2 mr2 M2 Mr → va_S (fun q => s.heap.size ≤ q) s.heap H1 locs1 → cells1 ≤ cells + 2 → slots1 ≤ slots + 99 → W p l e room_1 s m args below meth c H1 locs1 cells1 slots1 QQ (F0 m 1623 ls [])) : W p l e room_1 s m args below meth c H locs cells slots QQ (F0 m 294 ls []) := by
  obtain ⟨r, Rc, Rm, mc, ms, ⟨hmc, hms⟩, cpC, cpM, hfin⟩ := sim_change hrel (xs (nI i + 1).toNatClampNeg) (xs (nI i + 2).toNatClampNeg) (xs (nI i + 3).toNatClampNeg)
  refine lv_aload_n hx hb dL_law_294 rfl (lv_at hl 1 rfl) ?_
  refine lv_aload_n hx hb dL_law_295 rfl (lv_at hl 0 rfl) ?_
  refine lv_iload_n hx hb dL_law_296 rfl (lv_at hl 3 rfl) ?_
  refine lv_iconst (v := 1) hx hb dL_law_297 (by decide) ?_
  refine lv_iadd hx hb dL_law_298 ?_
  refine va_sld hx hb hX hbl (Nat.not_le.mpr hbl) hS (vp_j (j := 1) hi hL (by decide) rfl) dL_law_299 ?_
  refine lv_aload_n hx hb dL_law_300 rfl (lv_at hl 0 rfl) ?_
  refine lv_iload_n hx hb dL_law_301 rfl (lv_at hl 3 rfl) ?_
  refine lv_iconst (v := 2) hx hb dL_law_302 (by decide) ?_
  refine lv_iadd hx hb dL_law_303 ?_
  refine va_sld hx hb hX hbl (Nat.not_le.mpr hbl) hS (vp_j (j := 2) hi hL (by decide) rfl) dL_law_304 ?_
  refine lv_aload_n hx hb dL_law_305 rfl (lv_at hl 0 rfl) ?_
  refine lv_iload_n hx hb dL_law_306 rfl (lv_at hl 3 rfl) ?_
  refine lv_iconst (v := 3) hx hb dL_law_307 (by decide) ?_
  refine lv_iadd hx hb dL_law_308 ?_
  refine va_sld hx hb hX hbl (Nat.not_le.mpr hbl) hS (vp_j (j := 3) hi hL (by decide) rfl) dL_law_309 ?_
  refine lawC (S := []) hx hb hml hown hg h hrel.1.1 hS hl.1 cpC dL_law_310 rfl lkL_22 imX11_change seX11_X11_change_X11_change mwX11_change (by omega) (by omega) rfl (by decide) (fun sh2 mi2 mr2 H1 locs1 hRc h1 hS1 => ?_)
  refine lv_aload_n hx hb dL_law_313 rfl (lv_at hl 2 rfl) ?_
  refine lv_aload_n hx hb dL_law_314 rfl (lv_at hl 0 rfl) ?_
  refine lv_iload_n hx hb dL_law_315 rfl (lv_at hl 3 rfl) ?_
  refine lv_iconst (v := 1) hx hb dL_law_316 (by decide) ?_
  refine lv_iadd hx hb dL_law_317 ?_
  refine va_sld hx hb hX hbl (Nat.not_le.mpr hbl) hS1 (vp_j (j := 1) hi hL (by decide) rfl) dL_law_318 ?_
  refine lv_aload_n hx hb dL_law_319 rfl (lv_at hl 0 rfl) ?_
  refine lv_iload_n hx hb dL_law_320 rfl (lv_at hl 3 rfl) ?_
  refine lv_iconst (v := 2) hx hb dL_law_321 (by decide) ?_
  refine lv_iadd hx hb dL_law_322 ?_
  refine va_sld hx hb hX hbl (Nat.not_le.mpr hbl) hS1 (vp_j (j := 2) hi hL (by decide) rfl) dL_law_323 ?_
  refine lv_aload_n hx hb dL_law_324 rfl (lv_at hl 0 rfl) ?_
  refine lv_iload_n hx hb dL_law_325 rfl (lv_at hl 3 rfl) ?_
  refine lv_iconst (v := 3) hx hb dL_law_326 (by decide) ?_
  refine lv_iadd hx hb dL_law_327 ?_
  refine va_sld hx hb hX hbl (Nat.not_le.mpr hbl) hS1 (vp_j (j := 3) hi hL (by decide) rfl) dL_law_328 ?_
  refine lawM (S := [.int r]) hx hb hml hown hg h1 hS1 hl.1 cpM dL_law_329 rfl lkL_26 imX12_change seX12_X12_change_X12_change mwX12_change (by omega) (by omega) rfl (Nat.le_of_ble_eq_true rfl) (fun M2 H2 locs2 hRm h2 hS2 => ?_)
  refine lv_icmp_eq (tgt := 1623) hx hb dL_law_332 (by decide) (fun _ => ?_) (fun z => absurd rfl z)
  exact k sh2 mi2 mr2 M2 H2 locs2 _ _ (hfin sh2 mi2 mr2 M2 hRc hRm).1 h2 hS2 (by omega) (by omega)

theorem lo_deal (hx : p.tables.exec = Jvm.exec) (hb : c.code = code) (hml : c.maxLocals = 4) (hown : s.vm.findClass RL = some m.cls) (hg : LGr g s) (hX : va_X b L xs s s.heap) (hbl : b < s.heap.size) (hi : i + 6 ≤ L) (hL : L ≤ 3072) (hl : lv_has ls 4 [(0, .ref b), (1, .ref s.heap.size), (2, .ref (s.heap.size + 76)), (3, .int (nI i))]) (hrel : REL sh mi mr M Mr) (h : LSt g s.heap.size H sh mi mr M Mr) (hS : va_S (fun q => s.heap.size ≤ q) s.heap H locs) (hc : cells + 2 ≤ 600000) (hs : slots + 99 ≤ 7302250) (k : ∀ (sh2 : List Sh) (mi2 : MI) (mr2 : MR) (M2 : MI) (H1 : Heap) (locs1 : List Loc) (cells1 slots1 : Nat), REL sh2 mi2 mr2 M2 Mr → LSt g s.heap.size H1 sh2 mi2 mr2 M2 Mr → va_S (fun q => s.heap.size ≤ q) s.heap H1 locs1 → cells1 ≤ cells + 2 → slots1 ≤ slots + 99 → W p l e room_1 s m args below meth c H1 locs1 cells1 slots1 QQ (F0 m 1623 ls [])) : W p l e room_1 s m args below meth c H locs cells slots QQ (F0 m 337 ls []) := by
  obtain ⟨r, Rc, Rm, mc, ms, ⟨hmc, hms⟩, cpC, cpM, hfin⟩ := sim_deal hrel (xs (nI i + 1).toNatClampNeg)
  refine lv_aload_n hx hb dL_law_337 rfl (lv_at hl 1 rfl) ?_
  refine lv_aload_n hx hb dL_law_338 rfl (lv_at hl 0 rfl) ?_
  refine lv_iload_n hx hb dL_law_339 rfl (lv_at hl 3 rfl) ?_
  refine lv_iconst (v := 1) hx hb dL_law_340 (by decide) ?_
  refine lv_iadd hx hb dL_law_341 ?_
  refine va_sld hx hb hX hbl (Nat.not_le.mpr hbl) hS (vp_j (j := 1) hi hL (by decide) rfl) dL_law_342 ?_
  refine lawC (S := []) hx hb hml hown hg h hrel.1.1 hS hl.1 cpC dL_law_343 rfl lkL_27 imX11_deal seX11_X11_deal_X11_deal mwX11_deal (by omega) (by omega) rfl (by decide) (fun sh2 mi2 mr2 H1 locs1 hRc h1 hS1 => ?_)
  refine lv_aload_n hx hb dL_law_346 rfl (lv_at hl 2 rfl) ?_
  refine lv_aload_n hx hb dL_law_347 rfl (lv_at hl 0 rfl) ?_
  refine lv_iload_n hx hb dL_law_348 rfl (lv_at hl 3 rfl) ?_
  refine lv_iconst (v := 1) hx hb dL_law_349 (by decide) ?_
  refine lv_iadd hx hb dL_law_350 ?_
  refine va_sld hx hb hX hbl (Nat.not_le.mpr hbl) hS1 (vp_j (j := 1) hi hL (by decide) rfl) dL_law_351 ?_
  refine lawM (S := [.int r]) hx hb hml hown hg h1 hS1 hl.1 cpM dL_law_352 rfl lkL_31 imX12_deal seX12_X12_deal_X12_deal mwX12_deal (by omega) (by omega) rfl (Nat.le_of_ble_eq_true rfl) (fun M2 H2 locs2 hRm h2 hS2 => ?_)
  refine lv_icmp_eq (tgt := 1623) hx hb dL_law_355 (by decide) (fun _ => ?_) (fun z => absurd rfl z)
  exact k sh2 mi2 mr2 M2 H2 locs2 _ _ (hfin sh2 mi2 mr2 M2 hRc hRm).1 h2 hS2 (by omega) (by omega)

theorem lo_seed (hx : p.tables.exec = Jvm.exec) (hb : c.code = code) (hml : c.maxLocals = 4) (hown : s.vm.findClass RL = some m.cls) (hg : LGr g s) (hX : va_X b L xs s s.heap) (hbl : b < s.heap.size) (hi : i + 6 ≤ L) (hL : L ≤ 3072) (hl : lv_has ls 4 [(0, .ref b), (1, .ref s.heap.size), (2, .ref (s.heap.size + 76)), (3, .int (nI i))]) (hrel : REL sh mi mr M Mr) (h : LSt g s.heap.size H sh mi mr M Mr) (hS : va_S (fun q => s.heap.size ≤ q) s.heap H locs) (hc : cells + 2 ≤ 600000) (hs : slots + 99 ≤ 7302250) (k : ∀ (sh2 : List Sh) (mi2 : MI) (mr2 : MR) (M2 : MI) (H1 : Heap) (locs1 : List Loc) (cells1 slots1 : Nat), REL sh2 mi2 mr2 M2 Mr → LSt g s.heap.size H1 sh2 mi2 mr2 M2 Mr → va_S (fun q => s.heap.size ≤ q) s.heap H1 locs1 → cells1 ≤ cells + 2 → slots1 ≤ slots + 99 → W p l e room_1 s m args below meth c H1 locs1 cells1 slots1 QQ (F0 m 1623 ls [])) : W p l e room_1 s m args below meth c H locs cells slots QQ (F0 m 360 ls []) := by
  obtain ⟨r, Rc, Rm, mc, ms, ⟨hmc, hms⟩, cpC, cpM, hfin⟩ := sim_seed hrel (xs (nI i + 1).toNatClampNeg)
  refine lv_aload_n hx hb dL_law_360 rfl (lv_at hl 1 rfl) ?_
  refine lv_aload_n hx hb dL_law_361 rfl (lv_at hl 0 rfl) ?_
  refine lv_iload_n hx hb dL_law_362 rfl (lv_at hl 3 rfl) ?_
  refine lv_iconst (v := 1) hx hb dL_law_363 (by decide) ?_
  refine lv_iadd hx hb dL_law_364 ?_
  refine va_sld hx hb hX hbl (Nat.not_le.mpr hbl) hS (vp_j (j := 1) hi hL (by decide) rfl) dL_law_365 ?_
  refine lawC (S := []) hx hb hml hown hg h hrel.1.1 hS hl.1 cpC dL_law_366 rfl lkL_32 imX11_seed seX11_X11_seed_X11_seed mwX11_seed (by omega) (by omega) rfl (by decide) (fun sh2 mi2 mr2 H1 locs1 hRc h1 hS1 => ?_)
  refine lv_aload_n hx hb dL_law_369 rfl (lv_at hl 2 rfl) ?_
  refine lv_aload_n hx hb dL_law_370 rfl (lv_at hl 0 rfl) ?_
  refine lv_iload_n hx hb dL_law_371 rfl (lv_at hl 3 rfl) ?_
  refine lv_iconst (v := 1) hx hb dL_law_372 (by decide) ?_
  refine lv_iadd hx hb dL_law_373 ?_
  refine va_sld hx hb hX hbl (Nat.not_le.mpr hbl) hS1 (vp_j (j := 1) hi hL (by decide) rfl) dL_law_374 ?_
  refine lawM (S := [.int r]) hx hb hml hown hg h1 hS1 hl.1 cpM dL_law_375 rfl lkL_35 imX12_seed seX12_X12_seed_X12_seed mwX12_seed (by omega) (by omega) rfl (Nat.le_of_ble_eq_true rfl) (fun M2 H2 locs2 hRm h2 hS2 => ?_)
  refine lv_icmp_eq (tgt := 1623) hx hb dL_law_378 (by decide) (fun _ => ?_) (fun z => absurd rfl z)
  exact k sh2 mi2 mr2 M2 H2 locs2 _ _ (hfin sh2 mi2 mr2 M2 hRc hRm).1 h2 hS2 (by omega) (by omega)

theorem lo_ladder (hx : p.tables.exec = Jvm.exec) (hb : c.code = code) (hml : c.maxLocals = 4) (hown : s.vm.findClass RL = some m.cls) (hg : LGr g s) (hX : va_X b L xs s s.heap) (hbl : b < s.heap.size) (hi : i + 6 ≤ L) (hL : L ≤ 3072) (hl : lv_has ls 4 [(0, .ref b), (1, .ref s.heap.size), (2, .ref (s.heap.size + 76)), (3, .int (nI i))]) (hrel : REL sh mi mr M Mr) (h : LSt g s.heap.size H sh mi mr M Mr) (hS : va_S (fun q => s.heap.size ≤ q) s.heap H locs) (hc : cells + 2 ≤ 600000) (hs : slots + 99 ≤ 7302250) (k : ∀ (sh2 : List Sh) (mi2 : MI) (mr2 : MR) (M2 : MI) (H1 : Heap) (locs1 : List Loc) (cells1 slots1 : Nat), REL sh2 mi2 mr2 M2 Mr → LSt g s.heap.size H1 sh2 mi2 mr2 M2 Mr → va_S (fun q => s.heap.size ≤ q) s.heap H1 locs1 → cells1 ≤ cells + 2 → slots1 ≤ slots + 99 → W p l e room_1 s m args below meth c H1 locs1 cells1 slots1 QQ (F0 m 1623 ls [])) : W p l e room_1 s m args below meth c H locs cells slots QQ (F0 m 383 ls []) := by
  obtain ⟨r, Rc, Rm, mc, ms, ⟨hmc, hms⟩, cpC, cpM, hfin⟩ := sim_ladder hrel (xs (nI i + 1).toNatClampNeg) (xs (nI i + 2).toNatClampNeg) (xs (nI i + 3).toNatClampNeg) (xs (nI i + 4).toNatClampNeg)
  refine lv_aload_n hx hb dL_law_383 rfl (lv_at hl 1 rfl) ?_
  refine lv_aload_n hx hb dL_law_384 rfl (lv_at hl 0 rfl) ?_
  refine lv_iload_n hx hb dL_law_385 rfl (lv_at hl 3 rfl) ?_
  refine lv_iconst (v := 1) hx hb dL_law_386 (by decide) ?_
  refine lv_iadd hx hb dL_law_387 ?_
  refine va_sld hx hb hX hbl (Nat.not_le.mpr hbl) hS (vp_j (j := 1) hi hL (by decide) rfl) dL_law_388 ?_
  refine lv_aload_n hx hb dL_law_389 rfl (lv_at hl 0 rfl) ?_
  refine lv_iload_n hx hb dL_law_390 rfl (lv_at hl 3 rfl) ?_
  refine lv_iconst (v := 2) hx hb dL_law_391 (by decide) ?_
  refine lv_iadd hx hb dL_law_392 ?_
  refine va_sld hx hb hX hbl (Nat.not_le.mpr hbl) hS (vp_j (j := 2) hi hL (by decide) rfl) dL_law_393 ?_
  refine lv_aload_n hx hb dL_law_394 rfl (lv_at hl 0 rfl) ?_
  refine lv_iload_n hx hb dL_law_395 rfl (lv_at hl 3 rfl) ?_
  refine lv_iconst (v := 3) hx hb dL_law_396 (by decide) ?_
  refine lv_iadd hx hb dL_law_397 ?_
  refine va_sld hx hb hX hbl (Nat.not_le.mpr hbl) hS (vp_j (j := 3) hi hL (by decide) rfl) dL_law_398 ?_
  refine lv_aload_n hx hb dL_law_399 rfl (lv_at hl 0 rfl) ?_
  refine lv_iload_n hx hb dL_law_400 rfl (lv_at hl 3 rfl) ?_
  refine lv_iconst (v := 4) hx hb dL_law_401 (by decide) ?_
  refine lv_iadd hx hb dL_law_402 ?_
  refine va_sld hx hb hX hbl (Nat.not_le.mpr hbl) hS (vp_j (j := 4) hi hL (by decide) rfl) dL_law_403 ?_
  refine lawC (S := []) hx hb hml hown hg h hrel.1.1 hS hl.1 cpC dL_law_404 rfl lkL_36 imX11_ladder seX11_X11_ladder_X11_ladder mwX11_ladder (by omega) (by omega) rfl (by decide) (fun sh2 mi2 mr2 H1 locs1 hRc h1 hS1 => ?_)
  refine lv_aload_n hx hb dL_law_407 rfl (lv_at hl 2 rfl) ?_
  refine lv_aload_n hx hb dL_law_408 rfl (lv_at hl 0 rfl) ?_
  refine lv_iload_n hx hb dL_law_409 rfl (lv_at hl 3 rfl) ?_
  refine lv_iconst (v := 1) hx hb dL_law_410 (by decide) ?_
  refine lv_iadd hx hb dL_law_411 ?_
  refine va_sld hx hb hX hbl (Nat.not_le.mpr hbl) hS1 (vp_j (j := 1) hi hL (by decide) rfl) dL_law_412 ?_
  refine lv_aload_n hx hb dL_law_413 rfl (lv_at hl 0 rfl) ?_
  refine lv_iload_n hx hb dL_law_414 rfl (lv_at hl 3 rfl) ?_
  refine lv_iconst (v := 2) hx hb dL_law_415 (by decide) ?_
  refine lv_iadd hx hb dL_law_416 ?_
  refine va_sld hx hb hX hbl (Nat.not_le.mpr hbl) hS1 (vp_j (j := 2) hi hL (by decide) rfl) dL_law_417 ?_
  refine lv_aload_n hx hb dL_law_418 rfl (lv_at hl 0 rfl) ?_
  refine lv_iload_n hx hb dL_law_419 rfl (lv_at hl 3 rfl) ?_
  refine lv_iconst (v := 3) hx hb dL_law_420 (by decide) ?_
  refine lv_iadd hx hb dL_law_421 ?_
  refine va_sld hx hb hX hbl (Nat.not_le.mpr hbl) hS1 (vp_j (j := 3) hi hL (by decide) rfl) dL_law_422 ?_
  refine lv_aload_n hx hb dL_law_423 rfl (lv_at hl 0 rfl) ?_
  refine lv_iload_n hx hb dL_law_424 rfl (lv_at hl 3 rfl) ?_
  refine lv_iconst (v := 4) hx hb dL_law_425 (by decide) ?_
  refine lv_iadd hx hb dL_law_426 ?_
  refine va_sld hx hb hX hbl (Nat.not_le.mpr hbl) hS1 (vp_j (j := 4) hi hL (by decide) rfl) dL_law_427 ?_
  refine lawM (S := [.int r]) hx hb hml hown hg h1 hS1 hl.1 cpM dL_law_428 rfl lkL_40 imX12_ladder seX12_X12_ladder_X12_ladder mwX12_ladder (by omega) (by omega) rfl (Nat.le_of_ble_eq_true rfl) (fun M2 H2 locs2 hRm h2 hS2 => ?_)
  refine lv_icmp_eq (tgt := 1623) hx hb dL_law_431 (by decide) (fun _ => ?_) (fun z => absurd rfl z)
  exact k sh2 mi2 mr2 M2 H2 locs2 _ _ (hfin sh2 mi2 mr2 M2 hRc hRm).1 h2 hS2 (by omega) (by omega)

theorem lo_told (hx : p.tables.exec = Jvm.exec) (hb : c.code = code) (hml : c.maxLocals = 4) (hown : s.vm.findClass RL = some m.cls) (hg : LGr g s) (hX : va_X b L xs s s.heap) (hbl : b < s.heap.size) (hi : i + 6 ≤ L) (hL : L ≤ 3072) (hl : lv_has ls 4 [(0, .ref b), (1, .ref s.heap.size), (2, .ref (s.heap.size + 76)), (3, .int (nI i))]) (hrel : REL sh mi mr M Mr) (h : LSt g s.heap.size H sh mi mr M Mr) (hS : va_S (fun q => s.heap.size ≤ q) s.heap H locs) (hc : cells + 2 ≤ 600000) (hs : slots + 99 ≤ 7302250) (k : ∀ (sh2 : List Sh) (mi2 : MI) (mr2 : MR) (M2 : MI) (H1 : Heap) (locs1 : List Loc) (cells1 slots1 : Nat), REL sh2 mi2 mr2 M2 Mr → LSt g s.heap.size H1 sh2 mi2 mr2 M2 Mr → va_S (fun q => s.heap.size ≤ q) s.heap H1 locs1 → cells1 ≤ cells + 2 → slots1 ≤ slots + 99 → W p l e room_1 s m args below meth c H1 locs1 cells1 slots1 QQ (F0 m 1623 ls [])) : W p l e room_1 s m args below meth c H locs cells slots QQ (F0 m 436 ls []) := by
  obtain ⟨r, Rc, Rm, mc, ms, ⟨hmc, hms⟩, cpC, cpM, hfin⟩ := sim_told hrel (xs (nI i + 1).toNatClampNeg) (xs (nI i + 2).toNatClampNeg)
  refine lv_aload_n hx hb dL_law_436 rfl (lv_at hl 1 rfl) ?_
  refine lv_aload_n hx hb dL_law_437 rfl (lv_at hl 0 rfl) ?_
  refine lv_iload_n hx hb dL_law_438 rfl (lv_at hl 3 rfl) ?_
  refine lv_iconst (v := 1) hx hb dL_law_439 (by decide) ?_
  refine lv_iadd hx hb dL_law_440 ?_
  refine va_sld hx hb hX hbl (Nat.not_le.mpr hbl) hS (vp_j (j := 1) hi hL (by decide) rfl) dL_law_441 ?_
  refine lv_aload_n hx hb dL_law_442 rfl (lv_at hl 0 rfl) ?_
  refine lv_iload_n hx hb dL_law_443 rfl (lv_at hl 3 rfl) ?_
  refine lv_iconst (v := 2) hx hb dL_law_444 (by decide) ?_
  refine lv_iadd hx hb dL_law_445 ?_
  refine va_sld hx hb hX hbl (Nat.not_le.mpr hbl) hS (vp_j (j := 2) hi hL (by decide) rfl) dL_law_446 ?_
  refine lawC (S := []) hx hb hml hown hg h hrel.1.1 hS hl.1 cpC dL_law_447 rfl lkL_41 imX11_told seX11_X11_told_X11_told mwX11_told (by omega) (by omega) rfl (by decide) (fun sh2 mi2 mr2 H1 locs1 hRc h1 hS1 => ?_)
  refine lv_aload_n hx hb dL_law_450 rfl (lv_at hl 2 rfl) ?_
  refine lv_aload_n hx hb dL_law_451 rfl (lv_at hl 0 rfl) ?_
  refine lv_iload_n hx hb dL_law_452 rfl (lv_at hl 3 rfl) ?_
  refine lv_iconst (v := 1) hx hb dL_law_453 (by decide) ?_
  refine lv_iadd hx hb dL_law_454 ?_
  refine va_sld hx hb hX hbl (Nat.not_le.mpr hbl) hS1 (vp_j (j := 1) hi hL (by decide) rfl) dL_law_455 ?_
  refine lv_aload_n hx hb dL_law_456 rfl (lv_at hl 0 rfl) ?_
  refine lv_iload_n hx hb dL_law_457 rfl (lv_at hl 3 rfl) ?_
  refine lv_iconst (v := 2) hx hb dL_law_458 (by decide) ?_
  refine lv_iadd hx hb dL_law_459 ?_
  refine va_sld hx hb hX hbl (Nat.not_le.mpr hbl) hS1 (vp_j (j := 2) hi hL (by decide) rfl) dL_law_460 ?_
  refine lawM (S := [.int r]) hx hb hml hown hg h1 hS1 hl.1 cpM dL_law_461 rfl lkL_44 imX12_told seX12_X12_told_X12_told mwX12_told (by omega) (by omega) rfl (Nat.le_of_ble_eq_true rfl) (fun M2 H2 locs2 hRm h2 hS2 => ?_)
  refine lv_icmp_eq (tgt := 1623) hx hb dL_law_464 (by decide) (fun _ => ?_) (fun z => absurd rfl z)
  exact k sh2 mi2 mr2 M2 H2 locs2 _ _ (hfin sh2 mi2 mr2 M2 hRc hRm).1 h2 hS2 (by omega) (by omega)

theorem lo_as (hx : p.tables.exec = Jvm.exec) (hb : c.code = code) (hml : c.maxLocals = 4) (hown : s.vm.findClass RL = some m.cls) (hg : LGr g s) (hX : va_X b L xs s s.heap) (hbl : b < s.heap.size) (hi : i + 6 ≤ L) (hL : L ≤ 3072) (hl : lv_has ls 4 [(0, .ref b), (1, .ref s.heap.size), (2, .ref (s.heap.size + 76)), (3, .int (nI i))]) (hrel : REL sh mi mr M Mr) (h : LSt g s.heap.size H sh mi mr M Mr) (hS : va_S (fun q => s.heap.size ≤ q) s.heap H locs) (hc : cells + 2 ≤ 600000) (hs : slots + 99 ≤ 7302250) (k : ∀ (sh2 : List Sh) (mi2 : MI) (mr2 : MR) (M2 : MI) (H1 : Heap) (locs1 : List Loc) (cells1 slots1 : Nat), REL sh2 mi2 mr2 M2 Mr → LSt g s.heap.size H1 sh2 mi2 mr2 M2 Mr → va_S (fun q => s.heap.size ≤ q) s.heap H1 locs1 → cells1 ≤ cells + 2 → slots1 ≤ slots + 99 → W p l e room_1 s m args below meth c H1 locs1 cells1 slots1 QQ (F0 m 1623 ls [])) : W p l e room_1 s m args below meth c H locs cells slots QQ (F0 m 469 ls []) := by
  obtain ⟨r, Rc, Rm, mc, ms, ⟨hmc, hms⟩, cpC, cpM, hfin⟩ := sim_as hrel (xs (nI i + 1).toNatClampNeg) (xs (nI i + 2).toNatClampNeg)
  refine lv_aload_n hx hb dL_law_469 rfl (lv_at hl 1 rfl) ?_
  refine lv_aload_n hx hb dL_law_470 rfl (lv_at hl 0 rfl) ?_
  refine lv_iload_n hx hb dL_law_471 rfl (lv_at hl 3 rfl) ?_
  refine lv_iconst (v := 1) hx hb dL_law_472 (by decide) ?_
  refine lv_iadd hx hb dL_law_473 ?_
  refine va_sld hx hb hX hbl (Nat.not_le.mpr hbl) hS (vp_j (j := 1) hi hL (by decide) rfl) dL_law_474 ?_
  refine lv_aload_n hx hb dL_law_475 rfl (lv_at hl 0 rfl) ?_
  refine lv_iload_n hx hb dL_law_476 rfl (lv_at hl 3 rfl) ?_
  refine lv_iconst (v := 2) hx hb dL_law_477 (by decide) ?_
  refine lv_iadd hx hb dL_law_478 ?_
  refine va_sld hx hb hX hbl (Nat.not_le.mpr hbl) hS (vp_j (j := 2) hi hL (by decide) rfl) dL_law_479 ?_
  refine lawC (S := []) hx hb hml hown hg h hrel.1.1 hS hl.1 cpC dL_law_480 rfl lkL_45 imX11_as seX11_X11_as_X11_as mwX11_as (by omega) (by omega) rfl (by decide) (fun sh2 mi2 mr2 H1 locs1 hRc h1 hS1 => ?_)
  refine lv_aload_n hx hb dL_law_483 rfl (lv_at hl 2 rfl) ?_
  refine lv_aload_n hx hb dL_law_484 rfl (lv_at hl 0 rfl) ?_
  refine lv_iload_n hx hb dL_law_485 rfl (lv_at hl 3 rfl) ?_
  refine lv_iconst (v := 1) hx hb dL_law_486 (by decide) ?_
  refine lv_iadd hx hb dL_law_487 ?_
  refine va_sld hx hb hX hbl (Nat.not_le.mpr hbl) hS1 (vp_j (j := 1) hi hL (by decide) rfl) dL_law_488 ?_
  refine lv_aload_n hx hb dL_law_489 rfl (lv_at hl 0 rfl) ?_
  refine lv_iload_n hx hb dL_law_490 rfl (lv_at hl 3 rfl) ?_
  refine lv_iconst (v := 2) hx hb dL_law_491 (by decide) ?_
  refine lv_iadd hx hb dL_law_492 ?_
  refine va_sld hx hb hX hbl (Nat.not_le.mpr hbl) hS1 (vp_j (j := 2) hi hL (by decide) rfl) dL_law_493 ?_
  refine lawM (S := [.int r]) hx hb hml hown hg h1 hS1 hl.1 cpM dL_law_494 rfl lkL_48 imX12_as seX12_X12_as_X12_as mwX12_as (by omega) (by omega) rfl (Nat.le_of_ble_eq_true rfl) (fun M2 H2 locs2 hRm h2 hS2 => ?_)
  refine lv_icmp_eq (tgt := 1623) hx hb dL_law_497 (by decide) (fun _ => ?_) (fun z => absurd rfl z)
  exact k sh2 mi2 mr2 M2 H2 locs2 _ _ (hfin sh2 mi2 mr2 M2 hRc hRm).1 h2 hS2 (by omega) (by omega)

theorem lo_turns (hx : p.tables.exec = Jvm.exec) (hb : c.code = code) (hml : c.maxLocals = 4) (hown : s.vm.findClass RL = some m.cls) (hg : LGr g s) (hX : va_X b L xs s s.heap) (hbl : b < s.heap.size) (hi : i + 6 ≤ L) (hL : L ≤ 3072) (hl : lv_has ls 4 [(0, .ref b), (1, .ref s.heap.size), (2, .ref (s.heap.size + 76)), (3, .int (nI i))]) (hrel : REL sh mi mr M Mr) (h : LSt g s.heap.size H sh mi mr M Mr) (hS : va_S (fun q => s.heap.size ≤ q) s.heap H locs) (hc : cells + 2 ≤ 600000) (hs : slots + 99 ≤ 7302250) (k : ∀ (sh2 : List Sh) (mi2 : MI) (mr2 : MR) (M2 : MI) (H1 : Heap) (locs1 : List Loc) (cells1 slots1 : Nat), REL sh2 mi2 mr2 M2 Mr → LSt g s.heap.size H1 sh2 mi2 mr2 M2 Mr → va_S (fun q => s.heap.size ≤ q) s.heap H1 locs1 → cells1 ≤ cells + 2 → slots1 ≤ slots + 99 → W p l e room_1 s m args below meth c H1 locs1 cells1 slots1 QQ (F0 m 1623 ls [])) : W p l e room_1 s m args below meth c H locs cells slots QQ (F0 m 502 ls []) := by
  obtain ⟨r, Rc, Rm, mc, ms, ⟨hmc, hms⟩, cpC, cpM, hfin⟩ := sim_turns hrel (xs (nI i + 1).toNatClampNeg) (xs (nI i + 2).toNatClampNeg)
  refine lv_aload_n hx hb dL_law_502 rfl (lv_at hl 1 rfl) ?_
  refine lv_aload_n hx hb dL_law_503 rfl (lv_at hl 0 rfl) ?_
  refine lv_iload_n hx hb dL_law_504 rfl (lv_at hl 3 rfl) ?_
  refine lv_iconst (v := 1) hx hb dL_law_505 (by decide) ?_
  refine lv_iadd hx hb dL_law_506 ?_
  refine va_sld hx hb hX hbl (Nat.not_le.mpr hbl) hS (vp_j (j := 1) hi hL (by decide) rfl) dL_law_507 ?_
  refine lv_aload_n hx hb dL_law_508 rfl (lv_at hl 0 rfl) ?_
  refine lv_iload_n hx hb dL_law_509 rfl (lv_at hl 3 rfl) ?_
  refine lv_iconst (v := 2) hx hb dL_law_510 (by decide) ?_
  refine lv_iadd hx hb dL_law_511 ?_
  refine va_sld hx hb hX hbl (Nat.not_le.mpr hbl) hS (vp_j (j := 2) hi hL (by decide) rfl) dL_law_512 ?_
  refine lawC (S := []) hx hb hml hown hg h hrel.1.1 hS hl.1 cpC dL_law_513 rfl lkL_49 imX11_turns seX11_X11_turns_X11_turns mwX11_turns (by omega) (by omega) rfl (by decide) (fun sh2 mi2 mr2 H1 locs1 hRc h1 hS1 => ?_)
  refine lv_aload_n hx hb dL_law_516 rfl (lv_at hl 2 rfl) ?_
  refine lv_aload_n hx hb dL_law_517 rfl (lv_at hl 0 rfl) ?_
  refine lv_iload_n hx hb dL_law_518 rfl (lv_at hl 3 rfl) ?_
  refine lv_iconst (v := 1) hx hb dL_law_519 (by decide) ?_
  refine lv_iadd hx hb dL_law_520 ?_
  refine va_sld hx hb hX hbl (Nat.not_le.mpr hbl) hS1 (vp_j (j := 1) hi hL (by decide) rfl) dL_law_521 ?_
  refine lv_aload_n hx hb dL_law_522 rfl (lv_at hl 0 rfl) ?_
  refine lv_iload_n hx hb dL_law_523 rfl (lv_at hl 3 rfl) ?_
  refine lv_iconst (v := 2) hx hb dL_law_524 (by decide) ?_
  refine lv_iadd hx hb dL_law_525 ?_
  refine va_sld hx hb hX hbl (Nat.not_le.mpr hbl) hS1 (vp_j (j := 2) hi hL (by decide) rfl) dL_law_526 ?_
  refine lawM (S := [.int r]) hx hb hml hown hg h1 hS1 hl.1 cpM dL_law_527 rfl lkL_52 imX12_turns seX12_X12_turns_X12_turns mwX12_turns (by omega) (by omega) rfl (Nat.le_of_ble_eq_true rfl) (fun M2 H2 locs2 hRm h2 hS2 => ?_)
  refine lv_icmp_eq (tgt := 1623) hx hb dL_law_530 (by decide) (fun _ => ?_) (fun z => absurd rfl z)
  exact k sh2 mi2 mr2 M2 H2 locs2 _ _ (hfin sh2 mi2 mr2 M2 hRc hRm).1 h2 hS2 (by omega) (by omega)

theorem lo_cut (hx : p.tables.exec = Jvm.exec) (hb : c.code = code) (hml : c.maxLocals = 4) (hown : s.vm.findClass RL = some m.cls) (hg : LGr g s) (hX : va_X b L xs s s.heap) (hbl : b < s.heap.size) (hi : i + 6 ≤ L) (hL : L ≤ 3072) (hl : lv_has ls 4 [(0, .ref b), (1, .ref s.heap.size), (2, .ref (s.heap.size + 76)), (3, .int (nI i))]) (hrel : REL sh mi mr M Mr) (h : LSt g s.heap.size H sh mi mr M Mr) (hS : va_S (fun q => s.heap.size ≤ q) s.heap H locs) (hc : cells + 2 ≤ 600000) (hs : slots + 99 ≤ 7302250) (k : ∀ (sh2 : List Sh) (mi2 : MI) (mr2 : MR) (M2 : MI) (H1 : Heap) (locs1 : List Loc) (cells1 slots1 : Nat), REL sh2 mi2 mr2 M2 Mr → LSt g s.heap.size H1 sh2 mi2 mr2 M2 Mr → va_S (fun q => s.heap.size ≤ q) s.heap H1 locs1 → cells1 ≤ cells + 2 → slots1 ≤ slots + 99 → W p l e room_1 s m args below meth c H1 locs1 cells1 slots1 QQ (F0 m 1623 ls [])) : W p l e room_1 s m args below meth c H locs cells slots QQ (F0 m 535 ls []) := by
  obtain ⟨r, Rc, Rm, mc, ms, ⟨hmc, hms⟩, cpC, cpM, hfin⟩ := sim_cut hrel (xs (nI i + 1).toNatClampNeg) (xs (nI i + 2).toNatClampNeg)
  refine lv_aload_n hx hb dL_law_535 rfl (lv_at hl 1 rfl) ?_
  refine lv_aload_n hx hb dL_law_536 rfl (lv_at hl 0 rfl) ?_
  refine lv_iload_n hx hb dL_law_537 rfl (lv_at hl 3 rfl) ?_
  refine lv_iconst (v := 1) hx hb dL_law_538 (by decide) ?_
  refine lv_iadd hx hb dL_law_539 ?_
  refine va_sld hx hb hX hbl (Nat.not_le.mpr hbl) hS (vp_j (j := 1) hi hL (by decide) rfl) dL_law_540 ?_
  refine lv_aload_n hx hb dL_law_541 rfl (lv_at hl 0 rfl) ?_
  refine lv_iload_n hx hb dL_law_542 rfl (lv_at hl 3 rfl) ?_
  refine lv_iconst (v := 2) hx hb dL_law_543 (by decide) ?_
  refine lv_iadd hx hb dL_law_544 ?_
  refine va_sld hx hb hX hbl (Nat.not_le.mpr hbl) hS (vp_j (j := 2) hi hL (by decide) rfl) dL_law_545 ?_
  refine lawC (S := []) hx hb hml hown hg h hrel.1.1 hS hl.1 cpC dL_law_546 rfl lkL_53 imX11_cut seX11_X11_cut_X11_cut mwX11_cut (by omega) (by omega) rfl (by decide) (fun sh2 mi2 mr2 H1 locs1 hRc h1 hS1 => ?_)
  refine lv_aload_n hx hb dL_law_549 rfl (lv_at hl 2 rfl) ?_
  refine lv_aload_n hx hb dL_law_550 rfl (lv_at hl 0 rfl) ?_
  refine lv_iload_n hx hb dL_law_551 rfl (lv_at hl 3 rfl) ?_
  refine lv_iconst (v := 1) hx hb dL_law_552 (by decide) ?_
  refine lv_iadd hx hb dL_law_553 ?_
  refine va_sld hx hb hX hbl (Nat.not_le.mpr hbl) hS1 (vp_j (j := 1) hi hL (by decide) rfl) dL_law_554 ?_
  refine lv_aload_n hx hb dL_law_555 rfl (lv_at hl 0 rfl) ?_
  refine lv_iload_n hx hb dL_law_556 rfl (lv_at hl 3 rfl) ?_
  refine lv_iconst (v := 2) hx hb dL_law_557 (by decide) ?_
  refine lv_iadd hx hb dL_law_558 ?_
  refine va_sld hx hb hX hbl (Nat.not_le.mpr hbl) hS1 (vp_j (j := 2) hi hL (by decide) rfl) dL_law_559 ?_
  refine lawM (S := [.int r]) hx hb hml hown hg h1 hS1 hl.1 cpM dL_law_560 rfl lkL_56 imX12_cut seX12_X12_cut_X12_cut mwX12_cut (by omega) (by omega) rfl (Nat.le_of_ble_eq_true rfl) (fun M2 H2 locs2 hRm h2 hS2 => ?_)
  refine lv_icmp_eq (tgt := 1623) hx hb dL_law_563 (by decide) (fun _ => ?_) (fun z => absurd rfl z)
  exact k sh2 mi2 mr2 M2 H2 locs2 _ _ (hfin sh2 mi2 mr2 M2 hRc hRm).1 h2 hS2 (by omega) (by omega)

theorem lo_needs (hx : p.tables.exec = Jvm.exec) (hb : c.code = code) (hml : c.maxLocals = 4) (hown : s.vm.findClass RL = some m.cls) (hg : LGr g s) (hX : va_X b L xs s s.heap) (hbl : b < s.heap.size) (hi : i + 6 ≤ L) (hL : L ≤ 3072) (hl : lv_has ls 4 [(0, .ref b), (1, .ref s.heap.size), (2, .ref (s.heap.size + 76)), (3, .int (nI i))]) (hrel : REL sh mi mr M Mr) (h : LSt g s.heap.size H sh mi mr M Mr) (hS : va_S (fun q => s.heap.size ≤ q) s.heap H locs) (hc : cells + 2 ≤ 600000) (hs : slots + 99 ≤ 7302250) (k : ∀ (sh2 : List Sh) (mi2 : MI) (mr2 : MR) (M2 : MI) (H1 : Heap) (locs1 : List Loc) (cells1 slots1 : Nat), REL sh2 mi2 mr2 M2 Mr → LSt g s.heap.size H1 sh2 mi2 mr2 M2 Mr → va_S (fun q => s.heap.size ≤ q) s.heap H1 locs1 → cells1 ≤ cells + 2 → slots1 ≤ slots + 99 → W p l e room_1 s m args below meth c H1 locs1 cells1 slots1 QQ (F0 m 1623 ls [])) : W p l e room_1 s m args below meth c H locs cells slots QQ (F0 m 568 ls []) := by
  obtain ⟨r, Rc, Rm, mc, ms, ⟨hmc, hms⟩, cpC, cpM, hfin⟩ := sim_needs hrel (xs (nI i + 1).toNatClampNeg) (xs (nI i + 2).toNatClampNeg)
  refine lv_aload_n hx hb dL_law_568 rfl (lv_at hl 1 rfl) ?_
  refine lv_aload_n hx hb dL_law_569 rfl (lv_at hl 0 rfl) ?_
  refine lv_iload_n hx hb dL_law_570 rfl (lv_at hl 3 rfl) ?_
  refine lv_iconst (v := 1) hx hb dL_law_571 (by decide) ?_
  refine lv_iadd hx hb dL_law_572 ?_
  refine va_sld hx hb hX hbl (Nat.not_le.mpr hbl) hS (vp_j (j := 1) hi hL (by decide) rfl) dL_law_573 ?_
  refine lv_aload_n hx hb dL_law_574 rfl (lv_at hl 0 rfl) ?_
  refine lv_iload_n hx hb dL_law_575 rfl (lv_at hl 3 rfl) ?_
  refine lv_iconst (v := 2) hx hb dL_law_576 (by decide) ?_
  refine lv_iadd hx hb dL_law_577 ?_
  refine va_sld hx hb hX hbl (Nat.not_le.mpr hbl) hS (vp_j (j := 2) hi hL (by decide) rfl) dL_law_578 ?_
  refine lawC (S := []) hx hb hml hown hg h hrel.1.1 hS hl.1 cpC dL_law_579 rfl lkL_57 imX11_needs seX11_X11_needs_X11_needs mwX11_needs (by omega) (by omega) rfl (by decide) (fun sh2 mi2 mr2 H1 locs1 hRc h1 hS1 => ?_)
  refine lv_aload_n hx hb dL_law_582 rfl (lv_at hl 2 rfl) ?_
  refine lv_aload_n hx hb dL_law_583 rfl (lv_at hl 0 rfl) ?_
  refine lv_iload_n hx hb dL_law_584 rfl (lv_at hl 3 rfl) ?_
  refine lv_iconst (v := 1) hx hb dL_law_585 (by decide) ?_
  refine lv_iadd hx hb dL_law_586 ?_
  refine va_sld hx hb hX hbl (Nat.not_le.mpr hbl) hS1 (vp_j (j := 1) hi hL (by decide) rfl) dL_law_587 ?_
  refine lv_aload_n hx hb dL_law_588 rfl (lv_at hl 0 rfl) ?_
  refine lv_iload_n hx hb dL_law_589 rfl (lv_at hl 3 rfl) ?_
  refine lv_iconst (v := 2) hx hb dL_law_590 (by decide) ?_
  refine lv_iadd hx hb dL_law_591 ?_
  refine va_sld hx hb hX hbl (Nat.not_le.mpr hbl) hS1 (vp_j (j := 2) hi hL (by decide) rfl) dL_law_592 ?_
  refine lawM (S := [.int r]) hx hb hml hown hg h1 hS1 hl.1 cpM dL_law_593 rfl lkL_60 imX12_needs seX12_X12_needs_X12_needs mwX12_needs (by omega) (by omega) rfl (Nat.le_of_ble_eq_true rfl) (fun M2 H2 locs2 hRm h2 hS2 => ?_)
  refine lv_icmp_eq (tgt := 1623) hx hb dL_law_596 (by decide) (fun _ => ?_) (fun z => absurd rfl z)
  exact k sh2 mi2 mr2 M2 H2 locs2 _ _ (hfin sh2 mi2 mr2 M2 hRc hRm).1 h2 hS2 (by omega) (by omega)

theorem lo_person (hx : p.tables.exec = Jvm.exec) (hb : c.code = code) (hml : c.maxLocals = 4) (hown : s.vm.findClass RL = some m.cls) (hg : LGr g s) (hX : va_X b L xs s s.heap) (hbl : b < s.heap.size) (hi : i + 6 ≤ L) (hL : L ≤ 3072) (hl : lv_has ls 4 [(0, .ref b), (1, .ref s.heap.size), (2, .ref (s.heap.size + 76)), (3, .int (nI i))]) (hrel : REL sh mi mr M Mr) (h : LSt g s.heap.size H sh mi mr M Mr) (hS : va_S (fun q => s.heap.size ≤ q) s.heap H locs) (hc : cells + 2 ≤ 600000) (hs : slots + 99 ≤ 7302250) (k : ∀ (sh2 : List Sh) (mi2 : MI) (mr2 : MR) (M2 : MI) (H1 : Heap) (locs1 : List Loc) (cells1 slots1 : Nat), REL sh2 mi2 mr2 M2 Mr → LSt g s.heap.size H1 sh2 mi2 mr2 M2 Mr → va_S (fun q => s.heap.size ≤ q) s.heap H1 locs1 → cells1 ≤ cells + 2 → slots1 ≤ slots + 99 → W p l e room_1 s m args below meth c H1 locs1 cells1 slots1 QQ (F0 m 1623 ls [])) : W p l e room_1 s m args below meth c H locs cells slots QQ (F0 m 601 ls []) := by
  obtain ⟨r, Rc, Rm, mc, ms, ⟨hmc, hms⟩, cpC, cpM, hfin⟩ := sim_person hrel (xs (nI i + 1).toNatClampNeg) (xs (nI i + 2).toNatClampNeg)
  refine lv_aload_n hx hb dL_law_601 rfl (lv_at hl 1 rfl) ?_
  refine lv_aload_n hx hb dL_law_602 rfl (lv_at hl 0 rfl) ?_
  refine lv_iload_n hx hb dL_law_603 rfl (lv_at hl 3 rfl) ?_
  refine lv_iconst (v := 1) hx hb dL_law_604 (by decide) ?_
  refine lv_iadd hx hb dL_law_605 ?_
  refine va_sld hx hb hX hbl (Nat.not_le.mpr hbl) hS (vp_j (j := 1) hi hL (by decide) rfl) dL_law_606 ?_
  refine lv_aload_n hx hb dL_law_607 rfl (lv_at hl 0 rfl) ?_
  refine lv_iload_n hx hb dL_law_608 rfl (lv_at hl 3 rfl) ?_
  refine lv_iconst (v := 2) hx hb dL_law_609 (by decide) ?_
  refine lv_iadd hx hb dL_law_610 ?_
  refine va_sld hx hb hX hbl (Nat.not_le.mpr hbl) hS (vp_j (j := 2) hi hL (by decide) rfl) dL_law_611 ?_
  refine lawC (S := []) hx hb hml hown hg h hrel.1.1 hS hl.1 cpC dL_law_612 rfl lkL_61 imX11_person seX11_X11_person_X11_person mwX11_person (by omega) (by omega) rfl (by decide) (fun sh2 mi2 mr2 H1 locs1 hRc h1 hS1 => ?_)
  refine lv_aload_n hx hb dL_law_615 rfl (lv_at hl 2 rfl) ?_
  refine lv_aload_n hx hb dL_law_616 rfl (lv_at hl 0 rfl) ?_
  refine lv_iload_n hx hb dL_law_617 rfl (lv_at hl 3 rfl) ?_
  refine lv_iconst (v := 1) hx hb dL_law_618 (by decide) ?_
  refine lv_iadd hx hb dL_law_619 ?_
  refine va_sld hx hb hX hbl (Nat.not_le.mpr hbl) hS1 (vp_j (j := 1) hi hL (by decide) rfl) dL_law_620 ?_
  refine lv_aload_n hx hb dL_law_621 rfl (lv_at hl 0 rfl) ?_
  refine lv_iload_n hx hb dL_law_622 rfl (lv_at hl 3 rfl) ?_
  refine lv_iconst (v := 2) hx hb dL_law_623 (by decide) ?_
  refine lv_iadd hx hb dL_law_624 ?_
  refine va_sld hx hb hX hbl (Nat.not_le.mpr hbl) hS1 (vp_j (j := 2) hi hL (by decide) rfl) dL_law_625 ?_
  refine lawM (S := [.int r]) hx hb hml hown hg h1 hS1 hl.1 cpM dL_law_626 rfl lkL_64 imX12_person seX12_X12_person_X12_person mwX12_person (by omega) (by omega) rfl (Nat.le_of_ble_eq_true rfl) (fun M2 H2 locs2 hRm h2 hS2 => ?_)
  refine lv_icmp_eq (tgt := 1623) hx hb dL_law_629 (by decide) (fun _ => ?_) (fun z => absurd rfl z)
  exact k sh2 mi2 mr2 M2 H2 locs2 _ _ (hfin sh2 mi2 mr2 M2 hRc hRm).1 h2 hS2 (by omega) (by omega)

theorem lo_personTold (hx : p.tables.exec = Jvm.exec) (hb : c.code = code) (hml : c.maxLocals = 4) (hown : s.vm.findClass RL = some m.cls) (hg : LGr g s) (hX : va_X b L xs s s.heap) (hbl : b < s.heap.size) (hi : i + 6 ≤ L) (hL : L ≤ 3072) (hl : lv_has ls 4 [(0, .ref b), (1, .ref s.heap.size), (2, .ref (s.heap.size + 76)), (3, .int (nI i))]) (hrel : REL sh mi mr M Mr) (h : LSt g s.heap.size H sh mi mr M Mr) (hS : va_S (fun q => s.heap.size ≤ q) s.heap H locs) (hc : cells + 2 ≤ 600000) (hs : slots + 99 ≤ 7302250) (k : ∀ (sh2 : List Sh) (mi2 : MI) (mr2 : MR) (M2 : MI) (H1 : Heap) (locs1 : List Loc) (cells1 slots1 : Nat), REL sh2 mi2 mr2 M2 Mr → LSt g s.heap.size H1 sh2 mi2 mr2 M2 Mr → va_S (fun q => s.heap.size ≤ q) s.heap H1 locs1 → cells1 ≤ cells + 2 → slots1 ≤ slots + 99 → W p l e room_1 s m args below meth c H1 locs1 cells1 slots1 QQ (F0 m 1623 ls [])) : W p l e room_1 s m args below meth c H locs cells slots QQ (F0 m 634 ls []) := by
  obtain ⟨r, Rc, Rm, mc, ms, ⟨hmc, hms⟩, cpC, cpM, hfin⟩ := sim_personTold hrel (xs (nI i + 1).toNatClampNeg) (xs (nI i + 2).toNatClampNeg)
  refine lv_aload_n hx hb dL_law_634 rfl (lv_at hl 1 rfl) ?_
  refine lv_aload_n hx hb dL_law_635 rfl (lv_at hl 0 rfl) ?_
  refine lv_iload_n hx hb dL_law_636 rfl (lv_at hl 3 rfl) ?_
  refine lv_iconst (v := 1) hx hb dL_law_637 (by decide) ?_
  refine lv_iadd hx hb dL_law_638 ?_
  refine va_sld hx hb hX hbl (Nat.not_le.mpr hbl) hS (vp_j (j := 1) hi hL (by decide) rfl) dL_law_639 ?_
  refine lv_aload_n hx hb dL_law_640 rfl (lv_at hl 0 rfl) ?_
  refine lv_iload_n hx hb dL_law_641 rfl (lv_at hl 3 rfl) ?_
  refine lv_iconst (v := 2) hx hb dL_law_642 (by decide) ?_
  refine lv_iadd hx hb dL_law_643 ?_
  refine va_sld hx hb hX hbl (Nat.not_le.mpr hbl) hS (vp_j (j := 2) hi hL (by decide) rfl) dL_law_644 ?_
  refine lawC (S := []) hx hb hml hown hg h hrel.1.1 hS hl.1 cpC dL_law_645 rfl lkL_65 imX11_personTold seX11_X11_personTold_X11_personTold mwX11_personTold (by omega) (by omega) rfl (by decide) (fun sh2 mi2 mr2 H1 locs1 hRc h1 hS1 => ?_)
  refine lv_aload_n hx hb dL_law_648 rfl (lv_at hl 2 rfl) ?_
  refine lv_aload_n hx hb dL_law_649 rfl (lv_at hl 0 rfl) ?_
  refine lv_iload_n hx hb dL_law_650 rfl (lv_at hl 3 rfl) ?_
  refine lv_iconst (v := 1) hx hb dL_law_651 (by decide) ?_
  refine lv_iadd hx hb dL_law_652 ?_
  refine va_sld hx hb hX hbl (Nat.not_le.mpr hbl) hS1 (vp_j (j := 1) hi hL (by decide) rfl) dL_law_653 ?_
  refine lv_aload_n hx hb dL_law_654 rfl (lv_at hl 0 rfl) ?_
  refine lv_iload_n hx hb dL_law_655 rfl (lv_at hl 3 rfl) ?_
  refine lv_iconst (v := 2) hx hb dL_law_656 (by decide) ?_
  refine lv_iadd hx hb dL_law_657 ?_
  refine va_sld hx hb hX hbl (Nat.not_le.mpr hbl) hS1 (vp_j (j := 2) hi hL (by decide) rfl) dL_law_658 ?_
  refine lawM (S := [.int r]) hx hb hml hown hg h1 hS1 hl.1 cpM dL_law_659 rfl lkL_68 imX12_personTold seX12_X12_personTold_X12_personTold mwX12_personTold (by omega) (by omega) rfl (Nat.le_of_ble_eq_true rfl) (fun M2 H2 locs2 hRm h2 hS2 => ?_)
  refine lv_icmp_eq (tgt := 1623) hx hb dL_law_662 (by decide) (fun _ => ?_) (fun z => absurd rfl z)
  exact k sh2 mi2 mr2 M2 H2 locs2 _ _ (hfin sh2 mi2 mr2 M2 hRc hRm).1 h2 hS2 (by omega) (by omega)

theorem lo_set (hx : p.tables.exec = Jvm.exec) (hb : c.code = code) (hml : c.maxLocals = 4) (hown : s.vm.findClass RL = some m.cls) (hg : LGr g s) (hX : va_X b L xs s s.heap) (hbl : b < s.heap.size) (hi : i + 6 ≤ L) (hL : L ≤ 3072) (hl : lv_has ls 4 [(0, .ref b), (1, .ref s.heap.size), (2, .ref (s.heap.size + 76)), (3, .int (nI i))]) (hrel : REL sh mi mr M Mr) (h : LSt g s.heap.size H sh mi mr M Mr) (hS : va_S (fun q => s.heap.size ≤ q) s.heap H locs) (hc : cells + 2 ≤ 600000) (hs : slots + 99 ≤ 7302250) (k : ∀ (sh2 : List Sh) (mi2 : MI) (mr2 : MR) (M2 : MI) (H1 : Heap) (locs1 : List Loc) (cells1 slots1 : Nat), REL sh2 mi2 mr2 M2 Mr → LSt g s.heap.size H1 sh2 mi2 mr2 M2 Mr → va_S (fun q => s.heap.size ≤ q) s.heap H1 locs1 → cells1 ≤ cells + 2 → slots1 ≤ slots + 99 → W p l e room_1 s m args below meth c H1 locs1 cells1 slots1 QQ (F0 m 1623 ls [])) : W p l e room_1 s m args below meth c H locs cells slots QQ (F0 m 667 ls []) := by
  obtain ⟨r, Rc, Rm, mc, ms, ⟨hmc, hms⟩, cpC, cpM, hfin⟩ := sim_set hrel (xs (nI i + 1).toNatClampNeg) (xs (nI i + 2).toNatClampNeg) (xs (nI i + 3).toNatClampNeg)
  refine lv_aload_n hx hb dL_law_667 rfl (lv_at hl 1 rfl) ?_
  refine lv_aload_n hx hb dL_law_668 rfl (lv_at hl 0 rfl) ?_
  refine lv_iload_n hx hb dL_law_669 rfl (lv_at hl 3 rfl) ?_
  refine lv_iconst (v := 1) hx hb dL_law_670 (by decide) ?_
  refine lv_iadd hx hb dL_law_671 ?_
  refine va_sld hx hb hX hbl (Nat.not_le.mpr hbl) hS (vp_j (j := 1) hi hL (by decide) rfl) dL_law_672 ?_
  refine lv_aload_n hx hb dL_law_673 rfl (lv_at hl 0 rfl) ?_
  refine lv_iload_n hx hb dL_law_674 rfl (lv_at hl 3 rfl) ?_
  refine lv_iconst (v := 2) hx hb dL_law_675 (by decide) ?_
  refine lv_iadd hx hb dL_law_676 ?_
  refine va_sld hx hb hX hbl (Nat.not_le.mpr hbl) hS (vp_j (j := 2) hi hL (by decide) rfl) dL_law_677 ?_
  refine lv_aload_n hx hb dL_law_678 rfl (lv_at hl 0 rfl) ?_
  refine lv_iload_n hx hb dL_law_679 rfl (lv_at hl 3 rfl) ?_
  refine lv_iconst (v := 3) hx hb dL_law_680 (by decide) ?_
  refine lv_iadd hx hb dL_law_681 ?_
  refine va_sld hx hb hX hbl (Nat.not_le.mpr hbl) hS (vp_j (j := 3) hi hL (by decide) rfl) dL_law_682 ?_
  refine lawC (S := []) hx hb hml hown hg h hrel.1.1 hS hl.1 cpC dL_law_683 rfl lkL_69 imX11_set seX11_X11_set_X11_set mwX11_set (by omega) (by omega) rfl (by decide) (fun sh2 mi2 mr2 H1 locs1 hRc h1 hS1 => ?_)
  refine lv_aload_n hx hb dL_law_686 rfl (lv_at hl 2 rfl) ?_
  refine lv_aload_n hx hb dL_law_687 rfl (lv_at hl 0 rfl) ?_
  refine lv_iload_n hx hb dL_law_688 rfl (lv_at hl 3 rfl) ?_
  refine lv_iconst (v := 1) hx hb dL_law_689 (by decide) ?_
  refine lv_iadd hx hb dL_law_690 ?_
  refine va_sld hx hb hX hbl (Nat.not_le.mpr hbl) hS1 (vp_j (j := 1) hi hL (by decide) rfl) dL_law_691 ?_
  refine lv_aload_n hx hb dL_law_692 rfl (lv_at hl 0 rfl) ?_
  refine lv_iload_n hx hb dL_law_693 rfl (lv_at hl 3 rfl) ?_
  refine lv_iconst (v := 2) hx hb dL_law_694 (by decide) ?_
  refine lv_iadd hx hb dL_law_695 ?_
  refine va_sld hx hb hX hbl (Nat.not_le.mpr hbl) hS1 (vp_j (j := 2) hi hL (by decide) rfl) dL_law_696 ?_
  refine lv_aload_n hx hb dL_law_697 rfl (lv_at hl 0 rfl) ?_
  refine lv_iload_n hx hb dL_law_698 rfl (lv_at hl 3 rfl) ?_
  refine lv_iconst (v := 3) hx hb dL_law_699 (by decide) ?_
  refine lv_iadd hx hb dL_law_700 ?_
  refine va_sld hx hb hX hbl (Nat.not_le.mpr hbl) hS1 (vp_j (j := 3) hi hL (by decide) rfl) dL_law_701 ?_
  refine lawM (S := [.int r]) hx hb hml hown hg h1 hS1 hl.1 cpM dL_law_702 rfl lkL_72 imX12_set seX12_X12_set_X12_set mwX12_set (by omega) (by omega) rfl (Nat.le_of_ble_eq_true rfl) (fun M2 H2 locs2 hRm h2 hS2 => ?_)
  refine lv_icmp_eq (tgt := 1623) hx hb dL_law_705 (by decide) (fun _ => ?_) (fun z => absurd rfl z)
  exact k sh2 mi2 mr2 M2 H2 locs2 _ _ (hfin sh2 mi2 mr2 M2 hRc hRm).1 h2 hS2 (by omega) (by omega)

theorem lo_may (hx : p.tables.exec = Jvm.exec) (hb : c.code = code) (hml : c.maxLocals = 4) (hown : s.vm.findClass RL = some m.cls) (hg : LGr g s) (hX : va_X b L xs s s.heap) (hbl : b < s.heap.size) (hi : i + 6 ≤ L) (hL : L ≤ 3072) (hl : lv_has ls 4 [(0, .ref b), (1, .ref s.heap.size), (2, .ref (s.heap.size + 76)), (3, .int (nI i))]) (hrel : REL sh mi mr M Mr) (h : LSt g s.heap.size H sh mi mr M Mr) (hS : va_S (fun q => s.heap.size ≤ q) s.heap H locs) (hc : cells + 2 ≤ 600000) (hs : slots + 99 ≤ 7302250) (k : ∀ (sh2 : List Sh) (mi2 : MI) (mr2 : MR) (M2 : MI) (H1 : Heap) (locs1 : List Loc) (cells1 slots1 : Nat), REL sh2 mi2 mr2 M2 Mr → LSt g s.heap.size H1 sh2 mi2 mr2 M2 Mr → va_S (fun q => s.heap.size ≤ q) s.heap H1 locs1 → cells1 ≤ cells + 2 → slots1 ≤ slots + 99 → W p l e room_1 s m args below meth c H1 locs1 cells1 slots1 QQ (F0 m 1623 ls [])) : W p l e room_1 s m args below meth c H locs cells slots QQ (F0 m 710 ls []) := by
  obtain ⟨r, Rc, Rm, mc, ms, ⟨hmc, hms⟩, cpC, cpM, hfin⟩ := sim_may hrel (xs (nI i + 1).toNatClampNeg) (xs (nI i + 2).toNatClampNeg)
  refine lv_aload_n hx hb dL_law_710 rfl (lv_at hl 1 rfl) ?_
  refine lv_aload_n hx hb dL_law_711 rfl (lv_at hl 0 rfl) ?_
  refine lv_iload_n hx hb dL_law_712 rfl (lv_at hl 3 rfl) ?_
  refine lv_iconst (v := 1) hx hb dL_law_713 (by decide) ?_
  refine lv_iadd hx hb dL_law_714 ?_
  refine va_sld hx hb hX hbl (Nat.not_le.mpr hbl) hS (vp_j (j := 1) hi hL (by decide) rfl) dL_law_715 ?_
  refine lv_aload_n hx hb dL_law_716 rfl (lv_at hl 0 rfl) ?_
  refine lv_iload_n hx hb dL_law_717 rfl (lv_at hl 3 rfl) ?_
  refine lv_iconst (v := 2) hx hb dL_law_718 (by decide) ?_
  refine lv_iadd hx hb dL_law_719 ?_
  refine va_sld hx hb hX hbl (Nat.not_le.mpr hbl) hS (vp_j (j := 2) hi hL (by decide) rfl) dL_law_720 ?_
  refine lawC (S := []) hx hb hml hown hg h hrel.1.1 hS hl.1 cpC dL_law_721 rfl lkL_73 imX11_may seX11_X11_may_X11_may mwX11_may (by omega) (by omega) rfl (by decide) (fun sh2 mi2 mr2 H1 locs1 hRc h1 hS1 => ?_)
  refine lv_aload_n hx hb dL_law_724 rfl (lv_at hl 2 rfl) ?_
  refine lv_aload_n hx hb dL_law_725 rfl (lv_at hl 0 rfl) ?_
  refine lv_iload_n hx hb dL_law_726 rfl (lv_at hl 3 rfl) ?_
  refine lv_iconst (v := 1) hx hb dL_law_727 (by decide) ?_
  refine lv_iadd hx hb dL_law_728 ?_
  refine va_sld hx hb hX hbl (Nat.not_le.mpr hbl) hS1 (vp_j (j := 1) hi hL (by decide) rfl) dL_law_729 ?_
  refine lv_aload_n hx hb dL_law_730 rfl (lv_at hl 0 rfl) ?_
  refine lv_iload_n hx hb dL_law_731 rfl (lv_at hl 3 rfl) ?_
  refine lv_iconst (v := 2) hx hb dL_law_732 (by decide) ?_
  refine lv_iadd hx hb dL_law_733 ?_
  refine va_sld hx hb hX hbl (Nat.not_le.mpr hbl) hS1 (vp_j (j := 2) hi hL (by decide) rfl) dL_law_734 ?_
  refine lawM (S := [.int r]) hx hb hml hown hg h1 hS1 hl.1 cpM dL_law_735 rfl lkL_76 imX12_may seX12_X12_may_X12_may mwX12_may (by omega) (by omega) rfl (Nat.le_of_ble_eq_true rfl) (fun M2 H2 locs2 hRm h2 hS2 => ?_)
  refine lv_icmp_eq (tgt := 1623) hx hb dL_law_738 (by decide) (fun _ => ?_) (fun z => absurd rfl z)
  exact k sh2 mi2 mr2 M2 H2 locs2 _ _ (hfin sh2 mi2 mr2 M2 hRc hRm).1 h2 hS2 (by omega) (by omega)

theorem lo_move (hx : p.tables.exec = Jvm.exec) (hb : c.code = code) (hml : c.maxLocals = 4) (hown : s.vm.findClass RL = some m.cls) (hg : LGr g s) (hX : va_X b L xs s s.heap) (hbl : b < s.heap.size) (hi : i + 6 ≤ L) (hL : L ≤ 3072) (hl : lv_has ls 4 [(0, .ref b), (1, .ref s.heap.size), (2, .ref (s.heap.size + 76)), (3, .int (nI i))]) (hrel : REL sh mi mr M Mr) (h : LSt g s.heap.size H sh mi mr M Mr) (hS : va_S (fun q => s.heap.size ≤ q) s.heap H locs) (hc : cells + 2 ≤ 600000) (hs : slots + 99 ≤ 7302250) (k : ∀ (sh2 : List Sh) (mi2 : MI) (mr2 : MR) (M2 : MI) (H1 : Heap) (locs1 : List Loc) (cells1 slots1 : Nat), REL sh2 mi2 mr2 M2 Mr → LSt g s.heap.size H1 sh2 mi2 mr2 M2 Mr → va_S (fun q => s.heap.size ≤ q) s.heap H1 locs1 → cells1 ≤ cells + 2 → slots1 ≤ slots + 99 → W p l e room_1 s m args below meth c H1 locs1 cells1 slots1 QQ (F0 m 1623 ls [])) : W p l e room_1 s m args below meth c H locs cells slots QQ (F0 m 743 ls []) := by
  obtain ⟨r, Rc, Rm, mc, ms, ⟨hmc, hms⟩, cpC, cpM, hfin⟩ := sim_move hrel (xs (nI i + 1).toNatClampNeg) (xs (nI i + 2).toNatClampNeg) (xs (nI i + 3).toNatClampNeg)
  refine lv_aload_n hx hb dL_law_743 rfl (lv_at hl 1 rfl) ?_
  refine lv_aload_n hx hb dL_law_744 rfl (lv_at hl 0 rfl) ?_
  refine lv_iload_n hx hb dL_law_745 rfl (lv_at hl 3 rfl) ?_
  refine lv_iconst (v := 1) hx hb dL_law_746 (by decide) ?_
  refine lv_iadd hx hb dL_law_747 ?_
  refine va_sld hx hb hX hbl (Nat.not_le.mpr hbl) hS (vp_j (j := 1) hi hL (by decide) rfl) dL_law_748 ?_
  refine lv_aload_n hx hb dL_law_749 rfl (lv_at hl 0 rfl) ?_
  refine lv_iload_n hx hb dL_law_750 rfl (lv_at hl 3 rfl) ?_
  refine lv_iconst (v := 2) hx hb dL_law_751 (by decide) ?_
  refine lv_iadd hx hb dL_law_752 ?_
  refine va_sld hx hb hX hbl (Nat.not_le.mpr hbl) hS (vp_j (j := 2) hi hL (by decide) rfl) dL_law_753 ?_
  refine lv_aload_n hx hb dL_law_754 rfl (lv_at hl 0 rfl) ?_
  refine lv_iload_n hx hb dL_law_755 rfl (lv_at hl 3 rfl) ?_
  refine lv_iconst (v := 3) hx hb dL_law_756 (by decide) ?_
  refine lv_iadd hx hb dL_law_757 ?_
  refine va_sld hx hb hX hbl (Nat.not_le.mpr hbl) hS (vp_j (j := 3) hi hL (by decide) rfl) dL_law_758 ?_
  refine lawC (S := []) hx hb hml hown hg h hrel.1.1 hS hl.1 cpC dL_law_759 rfl lkL_77 imX11_move seX11_X11_move_X11_move mwX11_move (by omega) (by omega) rfl (by decide) (fun sh2 mi2 mr2 H1 locs1 hRc h1 hS1 => ?_)
  refine lv_aload_n hx hb dL_law_762 rfl (lv_at hl 2 rfl) ?_
  refine lv_aload_n hx hb dL_law_763 rfl (lv_at hl 0 rfl) ?_
  refine lv_iload_n hx hb dL_law_764 rfl (lv_at hl 3 rfl) ?_
  refine lv_iconst (v := 1) hx hb dL_law_765 (by decide) ?_
  refine lv_iadd hx hb dL_law_766 ?_
  refine va_sld hx hb hX hbl (Nat.not_le.mpr hbl) hS1 (vp_j (j := 1) hi hL (by decide) rfl) dL_law_767 ?_
  refine lv_aload_n hx hb dL_law_768 rfl (lv_at hl 0 rfl) ?_
  refine lv_iload_n hx hb dL_law_769 rfl (lv_at hl 3 rfl) ?_
  refine lv_iconst (v := 2) hx hb dL_law_770 (by decide) ?_
  refine lv_iadd hx hb dL_law_771 ?_
  refine va_sld hx hb hX hbl (Nat.not_le.mpr hbl) hS1 (vp_j (j := 2) hi hL (by decide) rfl) dL_law_772 ?_
  refine lv_aload_n hx hb dL_law_773 rfl (lv_at hl 0 rfl) ?_
  refine lv_iload_n hx hb dL_law_774 rfl (lv_at hl 3 rfl) ?_
  refine lv_iconst (v := 3) hx hb dL_law_775 (by decide) ?_
  refine lv_iadd hx hb dL_law_776 ?_
  refine va_sld hx hb hX hbl (Nat.not_le.mpr hbl) hS1 (vp_j (j := 3) hi hL (by decide) rfl) dL_law_777 ?_
  refine lawM (S := [.int r]) hx hb hml hown hg h1 hS1 hl.1 cpM dL_law_778 rfl lkL_80 imX12_move seX12_X12_move_X12_move mwX12_move (by omega) (by omega) rfl (Nat.le_of_ble_eq_true rfl) (fun M2 H2 locs2 hRm h2 hS2 => ?_)
  refine lv_icmp_eq (tgt := 1623) hx hb dL_law_781 (by decide) (fun _ => ?_) (fun z => absurd rfl z)
  exact k sh2 mi2 mr2 M2 H2 locs2 _ _ (hfin sh2 mi2 mr2 M2 hRc hRm).1 h2 hS2 (by omega) (by omega)

theorem lo_climb (hx : p.tables.exec = Jvm.exec) (hb : c.code = code) (hml : c.maxLocals = 4) (hown : s.vm.findClass RL = some m.cls) (hg : LGr g s) (hX : va_X b L xs s s.heap) (hbl : b < s.heap.size) (hi : i + 6 ≤ L) (hL : L ≤ 3072) (hl : lv_has ls 4 [(0, .ref b), (1, .ref s.heap.size), (2, .ref (s.heap.size + 76)), (3, .int (nI i))]) (hrel : REL sh mi mr M Mr) (h : LSt g s.heap.size H sh mi mr M Mr) (hS : va_S (fun q => s.heap.size ≤ q) s.heap H locs) (hc : cells + 2 ≤ 600000) (hs : slots + 99 ≤ 7302250) (k : ∀ (sh2 : List Sh) (mi2 : MI) (mr2 : MR) (M2 : MI) (H1 : Heap) (locs1 : List Loc) (cells1 slots1 : Nat), REL sh2 mi2 mr2 M2 Mr → LSt g s.heap.size H1 sh2 mi2 mr2 M2 Mr → va_S (fun q => s.heap.size ≤ q) s.heap H1 locs1 → cells1 ≤ cells + 2 → slots1 ≤ slots + 99 → W p l e room_1 s m args below meth c H1 locs1 cells1 slots1 QQ (F0 m 1623 ls [])) : W p l e room_1 s m args below meth c H locs cells slots QQ (F0 m 786 ls []) := by
  obtain ⟨r, Rc, Rm, mc, ms, ⟨hmc, hms⟩, cpC, cpM, hfin⟩ := sim_climb hrel (xs (nI i + 1).toNatClampNeg) (xs (nI i + 2).toNatClampNeg)
  refine lv_aload_n hx hb dL_law_786 rfl (lv_at hl 1 rfl) ?_
  refine lv_aload_n hx hb dL_law_787 rfl (lv_at hl 0 rfl) ?_
  refine lv_iload_n hx hb dL_law_788 rfl (lv_at hl 3 rfl) ?_
  refine lv_iconst (v := 1) hx hb dL_law_789 (by decide) ?_
  refine lv_iadd hx hb dL_law_790 ?_
  refine va_sld hx hb hX hbl (Nat.not_le.mpr hbl) hS (vp_j (j := 1) hi hL (by decide) rfl) dL_law_791 ?_
  refine lv_aload_n hx hb dL_law_792 rfl (lv_at hl 0 rfl) ?_
  refine lv_iload_n hx hb dL_law_793 rfl (lv_at hl 3 rfl) ?_
  refine lv_iconst (v := 2) hx hb dL_law_794 (by decide) ?_
  refine lv_iadd hx hb dL_law_795 ?_
  refine va_sld hx hb hX hbl (Nat.not_le.mpr hbl) hS (vp_j (j := 2) hi hL (by decide) rfl) dL_law_796 ?_
  refine lawC (S := []) hx hb hml hown hg h hrel.1.1 hS hl.1 cpC dL_law_797 rfl lkL_81 imX11_climb seX11_X11_climb_X11_climb mwX11_climb (by omega) (by omega) rfl (by decide) (fun sh2 mi2 mr2 H1 locs1 hRc h1 hS1 => ?_)
  refine lv_aload_n hx hb dL_law_800 rfl (lv_at hl 2 rfl) ?_
  refine lv_aload_n hx hb dL_law_801 rfl (lv_at hl 0 rfl) ?_
  refine lv_iload_n hx hb dL_law_802 rfl (lv_at hl 3 rfl) ?_
  refine lv_iconst (v := 1) hx hb dL_law_803 (by decide) ?_
  refine lv_iadd hx hb dL_law_804 ?_
  refine va_sld hx hb hX hbl (Nat.not_le.mpr hbl) hS1 (vp_j (j := 1) hi hL (by decide) rfl) dL_law_805 ?_
  refine lv_aload_n hx hb dL_law_806 rfl (lv_at hl 0 rfl) ?_
  refine lv_iload_n hx hb dL_law_807 rfl (lv_at hl 3 rfl) ?_
  refine lv_iconst (v := 2) hx hb dL_law_808 (by decide) ?_
  refine lv_iadd hx hb dL_law_809 ?_
  refine va_sld hx hb hX hbl (Nat.not_le.mpr hbl) hS1 (vp_j (j := 2) hi hL (by decide) rfl) dL_law_810 ?_
  refine lawM (S := [.int r]) hx hb hml hown hg h1 hS1 hl.1 cpM dL_law_811 rfl lkL_84 imX12_climb seX12_X12_climb_X12_climb mwX12_climb (by omega) (by omega) rfl (Nat.le_of_ble_eq_true rfl) (fun M2 H2 locs2 hRm h2 hS2 => ?_)
  refine lv_icmp_eq (tgt := 1623) hx hb dL_law_814 (by decide) (fun _ => ?_) (fun z => absurd rfl z)
  exact k sh2 mi2 mr2 M2 H2 locs2 _ _ (hfin sh2 mi2 mr2 M2 hRc hRm).1 h2 hS2 (by omega) (by omega)

theorem lo_thieves (hx : p.tables.exec = Jvm.exec) (hb : c.code = code) (hml : c.maxLocals = 4) (hown : s.vm.findClass RL = some m.cls) (hg : LGr g s) (hX : va_X b L xs s s.heap) (hbl : b < s.heap.size) (hi : i + 6 ≤ L) (hL : L ≤ 3072) (hl : lv_has ls 4 [(0, .ref b), (1, .ref s.heap.size), (2, .ref (s.heap.size + 76)), (3, .int (nI i))]) (hrel : REL sh mi mr M Mr) (h : LSt g s.heap.size H sh mi mr M Mr) (hS : va_S (fun q => s.heap.size ≤ q) s.heap H locs) (hc : cells + 2 ≤ 600000) (hs : slots + 99 ≤ 7302250) (k : ∀ (sh2 : List Sh) (mi2 : MI) (mr2 : MR) (M2 : MI) (H1 : Heap) (locs1 : List Loc) (cells1 slots1 : Nat), REL sh2 mi2 mr2 M2 Mr → LSt g s.heap.size H1 sh2 mi2 mr2 M2 Mr → va_S (fun q => s.heap.size ≤ q) s.heap H1 locs1 → cells1 ≤ cells + 2 → slots1 ≤ slots + 99 → W p l e room_1 s m args below meth c H1 locs1 cells1 slots1 QQ (F0 m 1623 ls [])) : W p l e room_1 s m args below meth c H locs cells slots QQ (F0 m 819 ls []) := by
  obtain ⟨r, Rc, Rm, mc, ms, ⟨hmc, hms⟩, cpC, cpM, hfin⟩ := sim_thieves hrel (xs (nI i + 1).toNatClampNeg)
  refine lv_aload_n hx hb dL_law_819 rfl (lv_at hl 1 rfl) ?_
  refine lv_aload_n hx hb dL_law_820 rfl (lv_at hl 0 rfl) ?_
  refine lv_iload_n hx hb dL_law_821 rfl (lv_at hl 3 rfl) ?_
  refine lv_iconst (v := 1) hx hb dL_law_822 (by decide) ?_
  refine lv_iadd hx hb dL_law_823 ?_
  refine va_sld hx hb hX hbl (Nat.not_le.mpr hbl) hS (vp_j (j := 1) hi hL (by decide) rfl) dL_law_824 ?_
  refine lawC (S := []) hx hb hml hown hg h hrel.1.1 hS hl.1 cpC dL_law_825 rfl lkL_85 imX11_thieves seX11_X11_thieves_X11_thieves mwX11_thieves (by omega) (by omega) rfl (by decide) (fun sh2 mi2 mr2 H1 locs1 hRc h1 hS1 => ?_)
  refine lv_aload_n hx hb dL_law_828 rfl (lv_at hl 2 rfl) ?_
  refine lv_aload_n hx hb dL_law_829 rfl (lv_at hl 0 rfl) ?_
  refine lv_iload_n hx hb dL_law_830 rfl (lv_at hl 3 rfl) ?_
  refine lv_iconst (v := 1) hx hb dL_law_831 (by decide) ?_
  refine lv_iadd hx hb dL_law_832 ?_
  refine va_sld hx hb hX hbl (Nat.not_le.mpr hbl) hS1 (vp_j (j := 1) hi hL (by decide) rfl) dL_law_833 ?_
  refine lawM (S := [.int r]) hx hb hml hown hg h1 hS1 hl.1 cpM dL_law_834 rfl lkL_88 imX12_thieves seX12_X12_thieves_X12_thieves mwX12_thieves (by omega) (by omega) rfl (Nat.le_of_ble_eq_true rfl) (fun M2 H2 locs2 hRm h2 hS2 => ?_)
  refine lv_icmp_eq (tgt := 1623) hx hb dL_law_837 (by decide) (fun _ => ?_) (fun z => absurd rfl z)
  exact k sh2 mi2 mr2 M2 H2 locs2 _ _ (hfin sh2 mi2 mr2 M2 hRc hRm).1 h2 hS2 (by omega) (by omega)

theorem lo_nights (hx : p.tables.exec = Jvm.exec) (hb : c.code = code) (hml : c.maxLocals = 4) (hown : s.vm.findClass RL = some m.cls) (hg : LGr g s) (hX : va_X b L xs s s.heap) (hbl : b < s.heap.size) (hi : i + 6 ≤ L) (hL : L ≤ 3072) (hl : lv_has ls 4 [(0, .ref b), (1, .ref s.heap.size), (2, .ref (s.heap.size + 76)), (3, .int (nI i))]) (hrel : REL sh mi mr M Mr) (h : LSt g s.heap.size H sh mi mr M Mr) (hS : va_S (fun q => s.heap.size ≤ q) s.heap H locs) (hc : cells + 2 ≤ 600000) (hs : slots + 99 ≤ 7302250) (k : ∀ (sh2 : List Sh) (mi2 : MI) (mr2 : MR) (M2 : MI) (H1 : Heap) (locs1 : List Loc) (cells1 slots1 : Nat), REL sh2 mi2 mr2 M2 Mr → LSt g s.heap.size H1 sh2 mi2 mr2 M2 Mr → va_S (fun q => s.heap.size ≤ q) s.heap H1 locs1 → cells1 ≤ cells + 2 → slots1 ≤ slots + 99 → W p l e room_1 s m args below meth c H1 locs1 cells1 slots1 QQ (F0 m 1623 ls [])) : W p l e room_1 s m args below meth c H locs cells slots QQ (F0 m 842 ls []) := by
  obtain ⟨r, Rc, Rm, mc, ms, ⟨hmc, hms⟩, cpC, cpM, hfin⟩ := sim_nights hrel (xs (nI i + 1).toNatClampNeg)
  refine lv_aload_n hx hb dL_law_842 rfl (lv_at hl 1 rfl) ?_
  refine lv_aload_n hx hb dL_law_843 rfl (lv_at hl 0 rfl) ?_
  refine lv_iload_n hx hb dL_law_844 rfl (lv_at hl 3 rfl) ?_
  refine lv_iconst (v := 1) hx hb dL_law_845 (by decide) ?_
  refine lv_iadd hx hb dL_law_846 ?_
  refine va_sld hx hb hX hbl (Nat.not_le.mpr hbl) hS (vp_j (j := 1) hi hL (by decide) rfl) dL_law_847 ?_
  refine lawC (S := []) hx hb hml hown hg h hrel.1.1 hS hl.1 cpC dL_law_848 rfl lkL_89 imX11_nights seX11_X11_nights_X11_nights mwX11_nights (by omega) (by omega) rfl (by decide) (fun sh2 mi2 mr2 H1 locs1 hRc h1 hS1 => ?_)
  refine lv_aload_n hx hb dL_law_851 rfl (lv_at hl 2 rfl) ?_
  refine lv_aload_n hx hb dL_law_852 rfl (lv_at hl 0 rfl) ?_
  refine lv_iload_n hx hb dL_law_853 rfl (lv_at hl 3 rfl) ?_
  refine lv_iconst (v := 1) hx hb dL_law_854 (by decide) ?_
  refine lv_iadd hx hb dL_law_855 ?_
  refine va_sld hx hb hX hbl (Nat.not_le.mpr hbl) hS1 (vp_j (j := 1) hi hL (by decide) rfl) dL_law_856 ?_
  refine lawM (S := [.int r]) hx hb hml hown hg h1 hS1 hl.1 cpM dL_law_857 rfl lkL_92 imX12_nights seX12_X12_nights_X12_nights mwX12_nights (by omega) (by omega) rfl (Nat.le_of_ble_eq_true rfl) (fun M2 H2 locs2 hRm h2 hS2 => ?_)
  refine lv_icmp_eq (tgt := 1623) hx hb dL_law_860 (by decide) (fun _ => ?_) (fun z => absurd rfl z)
  exact k sh2 mi2 mr2 M2 H2 locs2 _ _ (hfin sh2 mi2 mr2 M2 hRc hRm).1 h2 hS2 (by omega) (by omega)

theorem lo_way (hx : p.tables.exec = Jvm.exec) (hb : c.code = code) (hml : c.maxLocals = 4) (hown : s.vm.findClass RL = some m.cls) (hg : LGr g s) (hX : va_X b L xs s s.heap) (hbl : b < s.heap.size) (hi : i + 6 ≤ L) (hL : L ≤ 3072) (hl : lv_has ls 4 [(0, .ref b), (1, .ref s.heap.size), (2, .ref (s.heap.size + 76)), (3, .int (nI i))]) (hrel : REL sh mi mr M Mr) (h : LSt g s.heap.size H sh mi mr M Mr) (hS : va_S (fun q => s.heap.size ≤ q) s.heap H locs) (hc : cells + 2 ≤ 600000) (hs : slots + 99 ≤ 7302250) (k : ∀ (sh2 : List Sh) (mi2 : MI) (mr2 : MR) (M2 : MI) (H1 : Heap) (locs1 : List Loc) (cells1 slots1 : Nat), REL sh2 mi2 mr2 M2 Mr → LSt g s.heap.size H1 sh2 mi2 mr2 M2 Mr → va_S (fun q => s.heap.size ≤ q) s.heap H1 locs1 → cells1 ≤ cells + 2 → slots1 ≤ slots + 99 → W p l e room_1 s m args below meth c H1 locs1 cells1 slots1 QQ (F0 m 1623 ls [])) : W p l e room_1 s m args below meth c H locs cells slots QQ (F0 m 865 ls []) := by
  obtain ⟨r, Rc, Rm, mc, ms, ⟨hmc, hms⟩, cpC, cpM, hfin⟩ := sim_way hrel (xs (nI i + 1).toNatClampNeg) (xs (nI i + 2).toNatClampNeg) (xs (nI i + 3).toNatClampNeg)
  refine lv_aload_n hx hb dL_law_865 rfl (lv_at hl 1 rfl) ?_
  refine lv_aload_n hx hb dL_law_866 rfl (lv_at hl 0 rfl) ?_
  refine lv_iload_n hx hb dL_law_867 rfl (lv_at hl 3 rfl) ?_
  refine lv_iconst (v := 1) hx hb dL_law_868 (by decide) ?_
  refine lv_iadd hx hb dL_law_869 ?_
  refine va_sld hx hb hX hbl (Nat.not_le.mpr hbl) hS (vp_j (j := 1) hi hL (by decide) rfl) dL_law_870 ?_
  refine lv_aload_n hx hb dL_law_871 rfl (lv_at hl 0 rfl) ?_
  refine lv_iload_n hx hb dL_law_872 rfl (lv_at hl 3 rfl) ?_
  refine lv_iconst (v := 2) hx hb dL_law_873 (by decide) ?_
  refine lv_iadd hx hb dL_law_874 ?_
  refine va_sld hx hb hX hbl (Nat.not_le.mpr hbl) hS (vp_j (j := 2) hi hL (by decide) rfl) dL_law_875 ?_
  refine lv_aload_n hx hb dL_law_876 rfl (lv_at hl 0 rfl) ?_
  refine lv_iload_n hx hb dL_law_877 rfl (lv_at hl 3 rfl) ?_
  refine lv_iconst (v := 3) hx hb dL_law_878 (by decide) ?_
  refine lv_iadd hx hb dL_law_879 ?_
  refine va_sld hx hb hX hbl (Nat.not_le.mpr hbl) hS (vp_j (j := 3) hi hL (by decide) rfl) dL_law_880 ?_
  refine lawC (S := []) hx hb hml hown hg h hrel.1.1 hS hl.1 cpC dL_law_881 rfl lkL_93 imX11_way seX11_X11_way_X11_way mwX11_way (by omega) (by omega) rfl (by decide) (fun sh2 mi2 mr2 H1 locs1 hRc h1 hS1 => ?_)
  refine lv_aload_n hx hb dL_law_884 rfl (lv_at hl 2 rfl) ?_
  refine lv_aload_n hx hb dL_law_885 rfl (lv_at hl 0 rfl) ?_
  refine lv_iload_n hx hb dL_law_886 rfl (lv_at hl 3 rfl) ?_
  refine lv_iconst (v := 1) hx hb dL_law_887 (by decide) ?_
  refine lv_iadd hx hb dL_law_888 ?_
  refine va_sld hx hb hX hbl (Nat.not_le.mpr hbl) hS1 (vp_j (j := 1) hi hL (by decide) rfl) dL_law_889 ?_
  refine lv_aload_n hx hb dL_law_890 rfl (lv_at hl 0 rfl) ?_
  refine lv_iload_n hx hb dL_law_891 rfl (lv_at hl 3 rfl) ?_
  refine lv_iconst (v := 2) hx hb dL_law_892 (by decide) ?_
  refine lv_iadd hx hb dL_law_893 ?_
  refine va_sld hx hb hX hbl (Nat.not_le.mpr hbl) hS1 (vp_j (j := 2) hi hL (by decide) rfl) dL_law_894 ?_
  refine lv_aload_n hx hb dL_law_895 rfl (lv_at hl 0 rfl) ?_
  refine lv_iload_n hx hb dL_law_896 rfl (lv_at hl 3 rfl) ?_
  refine lv_iconst (v := 3) hx hb dL_law_897 (by decide) ?_
  refine lv_iadd hx hb dL_law_898 ?_
  refine va_sld hx hb hX hbl (Nat.not_le.mpr hbl) hS1 (vp_j (j := 3) hi hL (by decide) rfl) dL_law_899 ?_
  refine lawM (S := [.int r]) hx hb hml hown hg h1 hS1 hl.1 cpM dL_law_900 rfl lkL_96 imX12_way seX12_X12_way_X12_way mwX12_way (by omega) (by omega) rfl (Nat.le_of_ble_eq_true rfl) (fun M2 H2 locs2 hRm h2 hS2 => ?_)
  refine lv_icmp_eq (tgt := 1623) hx hb dL_law_903 (by decide) (fun _ => ?_) (fun z => absurd rfl z)
  exact k sh2 mi2 mr2 M2 H2 locs2 _ _ (hfin sh2 mi2 mr2 M2 hRc hRm).1 h2 hS2 (by omega) (by omega)

theorem lo_reached (hx : p.tables.exec = Jvm.exec) (hb : c.code = code) (hml : c.maxLocals = 4) (hown : s.vm.findClass RL = some m.cls) (hg : LGr g s) (hX : va_X b L xs s s.heap) (hbl : b < s.heap.size) (hi : i + 6 ≤ L) (hL : L ≤ 3072) (hl : lv_has ls 4 [(0, .ref b), (1, .ref s.heap.size), (2, .ref (s.heap.size + 76)), (3, .int (nI i))]) (hrel : REL sh mi mr M Mr) (h : LSt g s.heap.size H sh mi mr M Mr) (hS : va_S (fun q => s.heap.size ≤ q) s.heap H locs) (hc : cells + 2 ≤ 600000) (hs : slots + 99 ≤ 7302250) (k : ∀ (sh2 : List Sh) (mi2 : MI) (mr2 : MR) (M2 : MI) (H1 : Heap) (locs1 : List Loc) (cells1 slots1 : Nat), REL sh2 mi2 mr2 M2 Mr → LSt g s.heap.size H1 sh2 mi2 mr2 M2 Mr → va_S (fun q => s.heap.size ≤ q) s.heap H1 locs1 → cells1 ≤ cells + 2 → slots1 ≤ slots + 99 → W p l e room_1 s m args below meth c H1 locs1 cells1 slots1 QQ (F0 m 1623 ls [])) : W p l e room_1 s m args below meth c H locs cells slots QQ (F0 m 908 ls []) := by
  obtain ⟨r, Rc, Rm, mc, ms, ⟨hmc, hms⟩, cpC, cpM, hfin⟩ := sim_reached hrel (xs (nI i + 1).toNatClampNeg)
  refine lv_aload_n hx hb dL_law_908 rfl (lv_at hl 1 rfl) ?_
  refine lv_aload_n hx hb dL_law_909 rfl (lv_at hl 0 rfl) ?_
  refine lv_iload_n hx hb dL_law_910 rfl (lv_at hl 3 rfl) ?_
  refine lv_iconst (v := 1) hx hb dL_law_911 (by decide) ?_
  refine lv_iadd hx hb dL_law_912 ?_
  refine va_sld hx hb hX hbl (Nat.not_le.mpr hbl) hS (vp_j (j := 1) hi hL (by decide) rfl) dL_law_913 ?_
  refine lawC (S := []) hx hb hml hown hg h hrel.1.1 hS hl.1 cpC dL_law_914 rfl lkL_97 imX11_reached seX11_X11_reached_X11_reached mwX11_reached (by omega) (by omega) rfl (by decide) (fun sh2 mi2 mr2 H1 locs1 hRc h1 hS1 => ?_)
  refine lv_aload_n hx hb dL_law_917 rfl (lv_at hl 2 rfl) ?_
  refine lv_aload_n hx hb dL_law_918 rfl (lv_at hl 0 rfl) ?_
  refine lv_iload_n hx hb dL_law_919 rfl (lv_at hl 3 rfl) ?_
  refine lv_iconst (v := 1) hx hb dL_law_920 (by decide) ?_
  refine lv_iadd hx hb dL_law_921 ?_
  refine va_sld hx hb hX hbl (Nat.not_le.mpr hbl) hS1 (vp_j (j := 1) hi hL (by decide) rfl) dL_law_922 ?_
  refine lawM (S := [.int r]) hx hb hml hown hg h1 hS1 hl.1 cpM dL_law_923 rfl lkL_100 imX12_reached seX12_X12_reached_X12_reached mwX12_reached (by omega) (by omega) rfl (Nat.le_of_ble_eq_true rfl) (fun M2 H2 locs2 hRm h2 hS2 => ?_)
  refine lv_icmp_eq (tgt := 1623) hx hb dL_law_926 (by decide) (fun _ => ?_) (fun z => absurd rfl z)
  exact k sh2 mi2 mr2 M2 H2 locs2 _ _ (hfin sh2 mi2 mr2 M2 hRc hRm).1 h2 hS2 (by omega) (by omega)

theorem lo_needed (hx : p.tables.exec = Jvm.exec) (hb : c.code = code) (hml : c.maxLocals = 4) (hown : s.vm.findClass RL = some m.cls) (hg : LGr g s) (hX : va_X b L xs s s.heap) (hbl : b < s.heap.size) (hi : i + 6 ≤ L) (hL : L ≤ 3072) (hl : lv_has ls 4 [(0, .ref b), (1, .ref s.heap.size), (2, .ref (s.heap.size + 76)), (3, .int (nI i))]) (hrel : REL sh mi mr M Mr) (h : LSt g s.heap.size H sh mi mr M Mr) (hS : va_S (fun q => s.heap.size ≤ q) s.heap H locs) (hc : cells + 2 ≤ 600000) (hs : slots + 99 ≤ 7302250) (k : ∀ (sh2 : List Sh) (mi2 : MI) (mr2 : MR) (M2 : MI) (H1 : Heap) (locs1 : List Loc) (cells1 slots1 : Nat), REL sh2 mi2 mr2 M2 Mr → LSt g s.heap.size H1 sh2 mi2 mr2 M2 Mr → va_S (fun q => s.heap.size ≤ q) s.heap H1 locs1 → cells1 ≤ cells + 2 → slots1 ≤ slots + 99 → W p l e room_1 s m args below meth c H1 locs1 cells1 slots1 QQ (F0 m 1623 ls [])) : W p l e room_1 s m args below meth c H locs cells slots QQ (F0 m 931 ls []) := by
  obtain ⟨r, Rc, Rm, mc, ms, ⟨hmc, hms⟩, cpC, cpM, hfin⟩ := sim_needed hrel (xs (nI i + 1).toNatClampNeg) (xs (nI i + 2).toNatClampNeg)
  refine lv_aload_n hx hb dL_law_931 rfl (lv_at hl 1 rfl) ?_
  refine lv_aload_n hx hb dL_law_932 rfl (lv_at hl 0 rfl) ?_
  refine lv_iload_n hx hb dL_law_933 rfl (lv_at hl 3 rfl) ?_
  refine lv_iconst (v := 1) hx hb dL_law_934 (by decide) ?_
  refine lv_iadd hx hb dL_law_935 ?_
  refine va_sld hx hb hX hbl (Nat.not_le.mpr hbl) hS (vp_j (j := 1) hi hL (by decide) rfl) dL_law_936 ?_
  refine lv_aload_n hx hb dL_law_937 rfl (lv_at hl 0 rfl) ?_
  refine lv_iload_n hx hb dL_law_938 rfl (lv_at hl 3 rfl) ?_
  refine lv_iconst (v := 2) hx hb dL_law_939 (by decide) ?_
  refine lv_iadd hx hb dL_law_940 ?_
  refine va_sld hx hb hX hbl (Nat.not_le.mpr hbl) hS (vp_j (j := 2) hi hL (by decide) rfl) dL_law_941 ?_
  refine lawC (S := []) hx hb hml hown hg h hrel.1.1 hS hl.1 cpC dL_law_942 rfl lkL_101 imX11_needed seX11_X11_needed_X11_needed mwX11_needed (by omega) (by omega) rfl (by decide) (fun sh2 mi2 mr2 H1 locs1 hRc h1 hS1 => ?_)
  refine lv_aload_n hx hb dL_law_945 rfl (lv_at hl 2 rfl) ?_
  refine lv_aload_n hx hb dL_law_946 rfl (lv_at hl 0 rfl) ?_
  refine lv_iload_n hx hb dL_law_947 rfl (lv_at hl 3 rfl) ?_
  refine lv_iconst (v := 1) hx hb dL_law_948 (by decide) ?_
  refine lv_iadd hx hb dL_law_949 ?_
  refine va_sld hx hb hX hbl (Nat.not_le.mpr hbl) hS1 (vp_j (j := 1) hi hL (by decide) rfl) dL_law_950 ?_
  refine lv_aload_n hx hb dL_law_951 rfl (lv_at hl 0 rfl) ?_
  refine lv_iload_n hx hb dL_law_952 rfl (lv_at hl 3 rfl) ?_
  refine lv_iconst (v := 2) hx hb dL_law_953 (by decide) ?_
  refine lv_iadd hx hb dL_law_954 ?_
  refine va_sld hx hb hX hbl (Nat.not_le.mpr hbl) hS1 (vp_j (j := 2) hi hL (by decide) rfl) dL_law_955 ?_
  refine lawM (S := [.int r]) hx hb hml hown hg h1 hS1 hl.1 cpM dL_law_956 rfl lkL_104 imX12_needed seX12_X12_needed_X12_needed mwX12_needed (by omega) (by omega) rfl (Nat.le_of_ble_eq_true rfl) (fun M2 H2 locs2 hRm h2 hS2 => ?_)
  refine lv_icmp_eq (tgt := 1623) hx hb dL_law_959 (by decide) (fun _ => ?_) (fun z => absurd rfl z)
  exact k sh2 mi2 mr2 M2 H2 locs2 _ _ (hfin sh2 mi2 mr2 M2 hRc hRm).1 h2 hS2 (by omega) (by omega)

theorem lo_meeting (hx : p.tables.exec = Jvm.exec) (hb : c.code = code) (hml : c.maxLocals = 4) (hown : s.vm.findClass RL = some m.cls) (hg : LGr g s) (hX : va_X b L xs s s.heap) (hbl : b < s.heap.size) (hi : i + 6 ≤ L) (hL : L ≤ 3072) (hl : lv_has ls 4 [(0, .ref b), (1, .ref s.heap.size), (2, .ref (s.heap.size + 76)), (3, .int (nI i))]) (hrel : REL sh mi mr M Mr) (h : LSt g s.heap.size H sh mi mr M Mr) (hS : va_S (fun q => s.heap.size ≤ q) s.heap H locs) (hc : cells + 2 ≤ 600000) (hs : slots + 99 ≤ 7302250) (k : ∀ (sh2 : List Sh) (mi2 : MI) (mr2 : MR) (M2 : MI) (H1 : Heap) (locs1 : List Loc) (cells1 slots1 : Nat), REL sh2 mi2 mr2 M2 Mr → LSt g s.heap.size H1 sh2 mi2 mr2 M2 Mr → va_S (fun q => s.heap.size ≤ q) s.heap H1 locs1 → cells1 ≤ cells + 2 → slots1 ≤ slots + 99 → W p l e room_1 s m args below meth c H1 locs1 cells1 slots1 QQ (F0 m 1623 ls [])) : W p l e room_1 s m args below meth c H locs cells slots QQ (F0 m 964 ls []) := by
  obtain ⟨r, Rc, Rm, mc, ms, ⟨hmc, hms⟩, cpC, cpM, hfin⟩ := sim_meeting hrel 
  refine lv_aload_n hx hb dL_law_964 rfl (lv_at hl 1 rfl) ?_
  refine lawC (S := []) hx hb hml hown hg h hrel.1.1 hS hl.1 cpC dL_law_965 rfl lkL_105 imX11_meeting seX11_X11_meeting_X11_meeting mwX11_meeting (by omega) (by omega) rfl (by decide) (fun sh2 mi2 mr2 H1 locs1 hRc h1 hS1 => ?_)
  refine lv_aload_n hx hb dL_law_968 rfl (lv_at hl 2 rfl) ?_
  refine lawM (S := [.int r]) hx hb hml hown hg h1 hS1 hl.1 cpM dL_law_969 rfl lkL_109 imX12_meeting seX12_X12_meeting_X12_meeting mwX12_meeting (by omega) (by omega) rfl (Nat.le_of_ble_eq_true rfl) (fun M2 H2 locs2 hRm h2 hS2 => ?_)
  refine lv_icmp_eq (tgt := 1623) hx hb dL_law_972 (by decide) (fun _ => ?_) (fun z => absurd rfl z)
  exact k sh2 mi2 mr2 M2 H2 locs2 _ _ (hfin sh2 mi2 mr2 M2 hRc hRm).1 h2 hS2 (by omega) (by omega)

theorem lo_above (hx : p.tables.exec = Jvm.exec) (hb : c.code = code) (hml : c.maxLocals = 4) (hown : s.vm.findClass RL = some m.cls) (hg : LGr g s) (hX : va_X b L xs s s.heap) (hbl : b < s.heap.size) (hi : i + 6 ≤ L) (hL : L ≤ 3072) (hl : lv_has ls 4 [(0, .ref b), (1, .ref s.heap.size), (2, .ref (s.heap.size + 76)), (3, .int (nI i))]) (hrel : REL sh mi mr M Mr) (h : LSt g s.heap.size H sh mi mr M Mr) (hS : va_S (fun q => s.heap.size ≤ q) s.heap H locs) (hc : cells + 2 ≤ 600000) (hs : slots + 99 ≤ 7302250) (k : ∀ (sh2 : List Sh) (mi2 : MI) (mr2 : MR) (M2 : MI) (H1 : Heap) (locs1 : List Loc) (cells1 slots1 : Nat), REL sh2 mi2 mr2 M2 Mr → LSt g s.heap.size H1 sh2 mi2 mr2 M2 Mr → va_S (fun q => s.heap.size ≤ q) s.heap H1 locs1 → cells1 ≤ cells + 2 → slots1 ≤ slots + 99 → W p l e room_1 s m args below meth c H1 locs1 cells1 slots1 QQ (F0 m 1623 ls [])) : W p l e room_1 s m args below meth c H locs cells slots QQ (F0 m 977 ls []) := by
  obtain ⟨r, Rc, Rm, mc, ms, ⟨hmc, hms⟩, cpC, cpM, hfin⟩ := sim_above hrel 
  refine lv_aload_n hx hb dL_law_977 rfl (lv_at hl 1 rfl) ?_
  refine lawC (S := []) hx hb hml hown hg h hrel.1.1 hS hl.1 cpC dL_law_978 rfl lkL_110 imX11_above seX11_X11_above_X11_above mwX11_above (by omega) (by omega) rfl (by decide) (fun sh2 mi2 mr2 H1 locs1 hRc h1 hS1 => ?_)
  refine lv_aload_n hx hb dL_law_981 rfl (lv_at hl 2 rfl) ?_
  refine lawM (S := [.int r]) hx hb hml hown hg h1 hS1 hl.1 cpM dL_law_982 rfl lkL_113 imX12_above seX12_X12_above_X12_above mwX12_above (by omega) (by omega) rfl (Nat.le_of_ble_eq_true rfl) (fun M2 H2 locs2 hRm h2 hS2 => ?_)
  refine lv_icmp_eq (tgt := 1623) hx hb dL_law_985 (by decide) (fun _ => ?_) (fun z => absurd rfl z)
  exact k sh2 mi2 mr2 M2 H2 locs2 _ _ (hfin sh2 mi2 mr2 M2 hRc hRm).1 h2 hS2 (by omega) (by omega)

theorem lo_fewest (hx : p.tables.exec = Jvm.exec) (hb : c.code = code) (hml : c.maxLocals = 4) (hown : s.vm.findClass RL = some m.cls) (hg : LGr g s) (hX : va_X b L xs s s.heap) (hbl : b < s.heap.size) (hi : i + 6 ≤ L) (hL : L ≤ 3072) (hl : lv_has ls 4 [(0, .ref b), (1, .ref s.heap.size), (2, .ref (s.heap.size + 76)), (3, .int (nI i))]) (hrel : REL sh mi mr M Mr) (h : LSt g s.heap.size H sh mi mr M Mr) (hS : va_S (fun q => s.heap.size ≤ q) s.heap H locs) (hc : cells + 2 ≤ 600000) (hs : slots + 99 ≤ 7302250) (k : ∀ (sh2 : List Sh) (mi2 : MI) (mr2 : MR) (M2 : MI) (H1 : Heap) (locs1 : List Loc) (cells1 slots1 : Nat), REL sh2 mi2 mr2 M2 Mr → LSt g s.heap.size H1 sh2 mi2 mr2 M2 Mr → va_S (fun q => s.heap.size ≤ q) s.heap H1 locs1 → cells1 ≤ cells + 2 → slots1 ≤ slots + 99 → W p l e room_1 s m args below meth c H1 locs1 cells1 slots1 QQ (F0 m 1623 ls [])) : W p l e room_1 s m args below meth c H locs cells slots QQ (F0 m 990 ls []) := by
  obtain ⟨r, Rc, Rm, mc, ms, ⟨hmc, hms⟩, cpC, cpM, hfin⟩ := sim_fewest hrel (xs (nI i + 1).toNatClampNeg) (xs (nI i + 2).toNatClampNeg)
  refine lv_aload_n hx hb dL_law_990 rfl (lv_at hl 1 rfl) ?_
  refine lv_aload_n hx hb dL_law_991 rfl (lv_at hl 0 rfl) ?_
  refine lv_iload_n hx hb dL_law_992 rfl (lv_at hl 3 rfl) ?_
  refine lv_iconst (v := 1) hx hb dL_law_993 (by decide) ?_
  refine lv_iadd hx hb dL_law_994 ?_
  refine va_sld hx hb hX hbl (Nat.not_le.mpr hbl) hS (vp_j (j := 1) hi hL (by decide) rfl) dL_law_995 ?_
  refine lv_aload_n hx hb dL_law_996 rfl (lv_at hl 0 rfl) ?_
  refine lv_iload_n hx hb dL_law_997 rfl (lv_at hl 3 rfl) ?_
  refine lv_iconst (v := 2) hx hb dL_law_998 (by decide) ?_
  refine lv_iadd hx hb dL_law_999 ?_
  refine va_sld hx hb hX hbl (Nat.not_le.mpr hbl) hS (vp_j (j := 2) hi hL (by decide) rfl) dL_law_1000 ?_
  refine lawC (S := []) hx hb hml hown hg h hrel.1.1 hS hl.1 cpC dL_law_1001 rfl lkL_114 imX11_fewest seX11_X11_fewest_X11_fewest mwX11_fewest (by omega) (by omega) rfl (by decide) (fun sh2 mi2 mr2 H1 locs1 hRc h1 hS1 => ?_)
  refine lv_aload_n hx hb dL_law_1004 rfl (lv_at hl 2 rfl) ?_
  refine lv_aload_n hx hb dL_law_1005 rfl (lv_at hl 0 rfl) ?_
  refine lv_iload_n hx hb dL_law_1006 rfl (lv_at hl 3 rfl) ?_
  refine lv_iconst (v := 1) hx hb dL_law_1007 (by decide) ?_
  refine lv_iadd hx hb dL_law_1008 ?_
  refine va_sld hx hb hX hbl (Nat.not_le.mpr hbl) hS1 (vp_j (j := 1) hi hL (by decide) rfl) dL_law_1009 ?_
  refine lv_aload_n hx hb dL_law_1010 rfl (lv_at hl 0 rfl) ?_
  refine lv_iload_n hx hb dL_law_1011 rfl (lv_at hl 3 rfl) ?_
  refine lv_iconst (v := 2) hx hb dL_law_1012 (by decide) ?_
  refine lv_iadd hx hb dL_law_1013 ?_
  refine va_sld hx hb hX hbl (Nat.not_le.mpr hbl) hS1 (vp_j (j := 2) hi hL (by decide) rfl) dL_law_1014 ?_
  refine lawM (S := [.int r]) hx hb hml hown hg h1 hS1 hl.1 cpM dL_law_1015 rfl lkL_117 imX12_fewest seX12_X12_fewest_X12_fewest mwX12_fewest (by omega) (by omega) rfl (Nat.le_of_ble_eq_true rfl) (fun M2 H2 locs2 hRm h2 hS2 => ?_)
  refine lv_icmp_eq (tgt := 1623) hx hb dL_law_1018 (by decide) (fun _ => ?_) (fun z => absurd rfl z)
  exact k sh2 mi2 mr2 M2 H2 locs2 _ _ (hfin sh2 mi2 mr2 M2 hRc hRm).1 h2 hS2 (by omega) (by omega)

theorem lo_help (hx : p.tables.exec = Jvm.exec) (hb : c.code = code) (hml : c.maxLocals = 4) (hown : s.vm.findClass RL = some m.cls) (hg : LGr g s) (hX : va_X b L xs s s.heap) (hbl : b < s.heap.size) (hi : i + 6 ≤ L) (hL : L ≤ 3072) (hl : lv_has ls 4 [(0, .ref b), (1, .ref s.heap.size), (2, .ref (s.heap.size + 76)), (3, .int (nI i))]) (hrel : REL sh mi mr M Mr) (h : LSt g s.heap.size H sh mi mr M Mr) (hS : va_S (fun q => s.heap.size ≤ q) s.heap H locs) (hc : cells + 2 ≤ 600000) (hs : slots + 99 ≤ 7302250) (k : ∀ (sh2 : List Sh) (mi2 : MI) (mr2 : MR) (M2 : MI) (H1 : Heap) (locs1 : List Loc) (cells1 slots1 : Nat), REL sh2 mi2 mr2 M2 Mr → LSt g s.heap.size H1 sh2 mi2 mr2 M2 Mr → va_S (fun q => s.heap.size ≤ q) s.heap H1 locs1 → cells1 ≤ cells + 2 → slots1 ≤ slots + 99 → W p l e room_1 s m args below meth c H1 locs1 cells1 slots1 QQ (F0 m 1623 ls [])) : W p l e room_1 s m args below meth c H locs cells slots QQ (F0 m 1023 ls []) := by
  obtain ⟨r, Rc, Rm, mc, ms, ⟨hmc, hms⟩, cpC, cpM, hfin⟩ := sim_help hrel (xs (nI i + 1).toNatClampNeg)
  refine lv_aload_n hx hb dL_law_1023 rfl (lv_at hl 1 rfl) ?_
  refine lv_aload_n hx hb dL_law_1024 rfl (lv_at hl 0 rfl) ?_
  refine lv_iload_n hx hb dL_law_1025 rfl (lv_at hl 3 rfl) ?_
  refine lv_iconst (v := 1) hx hb dL_law_1026 (by decide) ?_
  refine lv_iadd hx hb dL_law_1027 ?_
  refine va_sld hx hb hX hbl (Nat.not_le.mpr hbl) hS (vp_j (j := 1) hi hL (by decide) rfl) dL_law_1028 ?_
  refine lawC (S := []) hx hb hml hown hg h hrel.1.1 hS hl.1 cpC dL_law_1029 rfl lkL_118 imX11_help seX11_X11_help_X11_help mwX11_help (by omega) (by omega) rfl (by decide) (fun sh2 mi2 mr2 H1 locs1 hRc h1 hS1 => ?_)
  refine lv_aload_n hx hb dL_law_1032 rfl (lv_at hl 2 rfl) ?_
  refine lv_aload_n hx hb dL_law_1033 rfl (lv_at hl 0 rfl) ?_
  refine lv_iload_n hx hb dL_law_1034 rfl (lv_at hl 3 rfl) ?_
  refine lv_iconst (v := 1) hx hb dL_law_1035 (by decide) ?_
  refine lv_iadd hx hb dL_law_1036 ?_
  refine va_sld hx hb hX hbl (Nat.not_le.mpr hbl) hS1 (vp_j (j := 1) hi hL (by decide) rfl) dL_law_1037 ?_
  refine lawM (S := [.int r]) hx hb hml hown hg h1 hS1 hl.1 cpM dL_law_1038 rfl lkL_121 imX12_help seX12_X12_help_X12_help mwX12_help (by omega) (by omega) rfl (Nat.le_of_ble_eq_true rfl) (fun M2 H2 locs2 hRm h2 hS2 => ?_)
  refine lv_icmp_eq (tgt := 1623) hx hb dL_law_1041 (by decide) (fun _ => ?_) (fun z => absurd rfl z)
  exact k sh2 mi2 mr2 M2 H2 locs2 _ _ (hfin sh2 mi2 mr2 M2 hRc hRm).1 h2 hS2 (by omega) (by omega)

theorem lo_feed (hx : p.tables.exec = Jvm.exec) (hb : c.code = code) (hml : c.maxLocals = 4) (hown : s.vm.findClass RL = some m.cls) (hg : LGr g s) (hX : va_X b L xs s s.heap) (hbl : b < s.heap.size) (hi : i + 6 ≤ L) (hL : L ≤ 3072) (hl : lv_has ls 4 [(0, .ref b), (1, .ref s.heap.size), (2, .ref (s.heap.size + 76)), (3, .int (nI i))]) (hrel : REL sh mi mr M Mr) (h : LSt g s.heap.size H sh mi mr M Mr) (hS : va_S (fun q => s.heap.size ≤ q) s.heap H locs) (hc : cells + 2 ≤ 600000) (hs : slots + 99 ≤ 7302250) (k : ∀ (sh2 : List Sh) (mi2 : MI) (mr2 : MR) (M2 : MI) (H1 : Heap) (locs1 : List Loc) (cells1 slots1 : Nat), REL sh2 mi2 mr2 M2 Mr → LSt g s.heap.size H1 sh2 mi2 mr2 M2 Mr → va_S (fun q => s.heap.size ≤ q) s.heap H1 locs1 → cells1 ≤ cells + 2 → slots1 ≤ slots + 99 → W p l e room_1 s m args below meth c H1 locs1 cells1 slots1 QQ (F0 m 1623 ls [])) : W p l e room_1 s m args below meth c H locs cells slots QQ (F0 m 1046 ls []) := by
  obtain ⟨r, Rc, Rm, mc, ms, ⟨hmc, hms⟩, cpC, cpM, hfin⟩ := sim_feed hrel (xs (nI i + 1).toNatClampNeg) (xs (nI i + 2).toNatClampNeg) (xs (nI i + 3).toNatClampNeg)
  refine lv_aload_n hx hb dL_law_1046 rfl (lv_at hl 1 rfl) ?_
  refine lv_aload_n hx hb dL_law_1047 rfl (lv_at hl 0 rfl) ?_
  refine lv_iload_n hx hb dL_law_1048 rfl (lv_at hl 3 rfl) ?_
  refine lv_iconst (v := 1) hx hb dL_law_1049 (by decide) ?_
  refine lv_iadd hx hb dL_law_1050 ?_
  refine va_sld hx hb hX hbl (Nat.not_le.mpr hbl) hS (vp_j (j := 1) hi hL (by decide) rfl) dL_law_1051 ?_
  refine lv_aload_n hx hb dL_law_1052 rfl (lv_at hl 0 rfl) ?_
  refine lv_iload_n hx hb dL_law_1053 rfl (lv_at hl 3 rfl) ?_
  refine lv_iconst (v := 2) hx hb dL_law_1054 (by decide) ?_
  refine lv_iadd hx hb dL_law_1055 ?_
  refine va_sld hx hb hX hbl (Nat.not_le.mpr hbl) hS (vp_j (j := 2) hi hL (by decide) rfl) dL_law_1056 ?_
  refine lv_aload_n hx hb dL_law_1057 rfl (lv_at hl 0 rfl) ?_
  refine lv_iload_n hx hb dL_law_1058 rfl (lv_at hl 3 rfl) ?_
  refine lv_iconst (v := 3) hx hb dL_law_1059 (by decide) ?_
  refine lv_iadd hx hb dL_law_1060 ?_
  refine va_sld hx hb hX hbl (Nat.not_le.mpr hbl) hS (vp_j (j := 3) hi hL (by decide) rfl) dL_law_1061 ?_
  refine lawC (S := []) hx hb hml hown hg h hrel.1.1 hS hl.1 cpC dL_law_1062 rfl lkL_122 imX11_feed seX11_X11_feed_X11_feed mwX11_feed (by omega) (by omega) rfl (by decide) (fun sh2 mi2 mr2 H1 locs1 hRc h1 hS1 => ?_)
  refine lv_aload_n hx hb dL_law_1065 rfl (lv_at hl 2 rfl) ?_
  refine lv_aload_n hx hb dL_law_1066 rfl (lv_at hl 0 rfl) ?_
  refine lv_iload_n hx hb dL_law_1067 rfl (lv_at hl 3 rfl) ?_
  refine lv_iconst (v := 1) hx hb dL_law_1068 (by decide) ?_
  refine lv_iadd hx hb dL_law_1069 ?_
  refine va_sld hx hb hX hbl (Nat.not_le.mpr hbl) hS1 (vp_j (j := 1) hi hL (by decide) rfl) dL_law_1070 ?_
  refine lv_aload_n hx hb dL_law_1071 rfl (lv_at hl 0 rfl) ?_
  refine lv_iload_n hx hb dL_law_1072 rfl (lv_at hl 3 rfl) ?_
  refine lv_iconst (v := 2) hx hb dL_law_1073 (by decide) ?_
  refine lv_iadd hx hb dL_law_1074 ?_
  refine va_sld hx hb hX hbl (Nat.not_le.mpr hbl) hS1 (vp_j (j := 2) hi hL (by decide) rfl) dL_law_1075 ?_
  refine lv_aload_n hx hb dL_law_1076 rfl (lv_at hl 0 rfl) ?_
  refine lv_iload_n hx hb dL_law_1077 rfl (lv_at hl 3 rfl) ?_
  refine lv_iconst (v := 3) hx hb dL_law_1078 (by decide) ?_
  refine lv_iadd hx hb dL_law_1079 ?_
  refine va_sld hx hb hX hbl (Nat.not_le.mpr hbl) hS1 (vp_j (j := 3) hi hL (by decide) rfl) dL_law_1080 ?_
  refine lawM (S := [.int r]) hx hb hml hown hg h1 hS1 hl.1 cpM dL_law_1081 rfl lkL_125 imX12_feed seX12_X12_feed_X12_feed mwX12_feed (by omega) (by omega) rfl (Nat.le_of_ble_eq_true rfl) (fun M2 H2 locs2 hRm h2 hS2 => ?_)
  refine lv_icmp_eq (tgt := 1623) hx hb dL_law_1084 (by decide) (fun _ => ?_) (fun z => absurd rfl z)
  exact k sh2 mi2 mr2 M2 H2 locs2 _ _ (hfin sh2 mi2 mr2 M2 hRc hRm).1 h2 hS2 (by omega) (by omega)

theorem lo_trim (hx : p.tables.exec = Jvm.exec) (hb : c.code = code) (hml : c.maxLocals = 4) (hown : s.vm.findClass RL = some m.cls) (hg : LGr g s) (hX : va_X b L xs s s.heap) (hbl : b < s.heap.size) (hi : i + 6 ≤ L) (hL : L ≤ 3072) (hl : lv_has ls 4 [(0, .ref b), (1, .ref s.heap.size), (2, .ref (s.heap.size + 76)), (3, .int (nI i))]) (hrel : REL sh mi mr M Mr) (h : LSt g s.heap.size H sh mi mr M Mr) (hS : va_S (fun q => s.heap.size ≤ q) s.heap H locs) (hc : cells + 2 ≤ 600000) (hs : slots + 99 ≤ 7302250) (k : ∀ (sh2 : List Sh) (mi2 : MI) (mr2 : MR) (M2 : MI) (H1 : Heap) (locs1 : List Loc) (cells1 slots1 : Nat), REL sh2 mi2 mr2 M2 Mr → LSt g s.heap.size H1 sh2 mi2 mr2 M2 Mr → va_S (fun q => s.heap.size ≤ q) s.heap H1 locs1 → cells1 ≤ cells + 2 → slots1 ≤ slots + 99 → W p l e room_1 s m args below meth c H1 locs1 cells1 slots1 QQ (F0 m 1623 ls [])) : W p l e room_1 s m args below meth c H locs cells slots QQ (F0 m 1089 ls []) := by
  obtain ⟨r, Rc, Rm, mc, ms, ⟨hmc, hms⟩, cpC, cpM, hfin⟩ := sim_trim hrel (xs (nI i + 1).toNatClampNeg)
  refine lv_aload_n hx hb dL_law_1089 rfl (lv_at hl 1 rfl) ?_
  refine lv_aload_n hx hb dL_law_1090 rfl (lv_at hl 0 rfl) ?_
  refine lv_iload_n hx hb dL_law_1091 rfl (lv_at hl 3 rfl) ?_
  refine lv_iconst (v := 1) hx hb dL_law_1092 (by decide) ?_
  refine lv_iadd hx hb dL_law_1093 ?_
  refine va_sld hx hb hX hbl (Nat.not_le.mpr hbl) hS (vp_j (j := 1) hi hL (by decide) rfl) dL_law_1094 ?_
  refine lawC (S := []) hx hb hml hown hg h hrel.1.1 hS hl.1 cpC dL_law_1095 rfl lkL_126 imX11_trim seX11_X11_trim_X11_trim mwX11_trim (by omega) (by omega) rfl (by decide) (fun sh2 mi2 mr2 H1 locs1 hRc h1 hS1 => ?_)
  refine lv_aload_n hx hb dL_law_1098 rfl (lv_at hl 2 rfl) ?_
  refine lv_aload_n hx hb dL_law_1099 rfl (lv_at hl 0 rfl) ?_
  refine lv_iload_n hx hb dL_law_1100 rfl (lv_at hl 3 rfl) ?_
  refine lv_iconst (v := 1) hx hb dL_law_1101 (by decide) ?_
  refine lv_iadd hx hb dL_law_1102 ?_
  refine va_sld hx hb hX hbl (Nat.not_le.mpr hbl) hS1 (vp_j (j := 1) hi hL (by decide) rfl) dL_law_1103 ?_
  refine lawM (S := [.int r]) hx hb hml hown hg h1 hS1 hl.1 cpM dL_law_1104 rfl lkL_129 imX12_trim seX12_X12_trim_X12_trim mwX12_trim (by omega) (by omega) rfl (Nat.le_of_ble_eq_true rfl) (fun M2 H2 locs2 hRm h2 hS2 => ?_)
  refine lv_icmp_eq (tgt := 1623) hx hb dL_law_1107 (by decide) (fun _ => ?_) (fun z => absurd rfl z)
  exact k sh2 mi2 mr2 M2 H2 locs2 _ _ (hfin sh2 mi2 mr2 M2 hRc hRm).1 h2 hS2 (by omega) (by omega)

theorem lo_text (hx : p.tables.exec = Jvm.exec) (hb : c.code = code) (hml : c.maxLocals = 4) (hown : s.vm.findClass RL = some m.cls) (hg : LGr g s) (hX : va_X b L xs s s.heap) (hbl : b < s.heap.size) (hi : i + 6 ≤ L) (hL : L ≤ 3072) (hl : lv_has ls 4 [(0, .ref b), (1, .ref s.heap.size), (2, .ref (s.heap.size + 76)), (3, .int (nI i))]) (hrel : REL sh mi mr M Mr) (h : LSt g s.heap.size H sh mi mr M Mr) (hS : va_S (fun q => s.heap.size ≤ q) s.heap H locs) (hc : cells + 2 ≤ 600000) (hs : slots + 99 ≤ 7302250) (k : ∀ (sh2 : List Sh) (mi2 : MI) (mr2 : MR) (M2 : MI) (H1 : Heap) (locs1 : List Loc) (cells1 slots1 : Nat), REL sh2 mi2 mr2 M2 Mr → LSt g s.heap.size H1 sh2 mi2 mr2 M2 Mr → va_S (fun q => s.heap.size ≤ q) s.heap H1 locs1 → cells1 ≤ cells + 2 → slots1 ≤ slots + 99 → W p l e room_1 s m args below meth c H1 locs1 cells1 slots1 QQ (F0 m 1623 ls [])) : W p l e room_1 s m args below meth c H locs cells slots QQ (F0 m 1112 ls []) := by
  obtain ⟨r, Rc, Rm, mc, ms, ⟨hmc, hms⟩, cpC, cpM, hfin⟩ := sim_text hrel 
  refine lv_aload_n hx hb dL_law_1112 rfl (lv_at hl 1 rfl) ?_
  refine lawC (S := []) hx hb hml hown hg h hrel.1.1 hS hl.1 cpC dL_law_1113 rfl lkL_130 imX11_text seX11_X11_text_X11_text mwX11_text (by omega) (by omega) rfl (by decide) (fun sh2 mi2 mr2 H1 locs1 hRc h1 hS1 => ?_)
  refine lv_aload_n hx hb dL_law_1116 rfl (lv_at hl 2 rfl) ?_
  refine lawM (S := [.int r]) hx hb hml hown hg h1 hS1 hl.1 cpM dL_law_1117 rfl lkL_133 imX12_text seX12_X12_text_X12_text mwX12_text (by omega) (by omega) rfl (Nat.le_of_ble_eq_true rfl) (fun M2 H2 locs2 hRm h2 hS2 => ?_)
  refine lv_icmp_eq (tgt := 1623) hx hb dL_law_1120 (by decide) (fun _ => ?_) (fun z => absurd rfl z)
  exact k sh2 mi2 mr2 M2 H2 locs2 _ _ (hfin sh2 mi2 mr2 M2 hRc hRm).1 h2 hS2 (by omega) (by omega)

theorem lo_textTold (hx : p.tables.exec = Jvm.exec) (hb : c.code = code) (hml : c.maxLocals = 4) (hown : s.vm.findClass RL = some m.cls) (hg : LGr g s) (hX : va_X b L xs s s.heap) (hbl : b < s.heap.size) (hi : i + 6 ≤ L) (hL : L ≤ 3072) (hl : lv_has ls 4 [(0, .ref b), (1, .ref s.heap.size), (2, .ref (s.heap.size + 76)), (3, .int (nI i))]) (hrel : REL sh mi mr M Mr) (h : LSt g s.heap.size H sh mi mr M Mr) (hS : va_S (fun q => s.heap.size ≤ q) s.heap H locs) (hc : cells + 2 ≤ 600000) (hs : slots + 99 ≤ 7302250) (k : ∀ (sh2 : List Sh) (mi2 : MI) (mr2 : MR) (M2 : MI) (H1 : Heap) (locs1 : List Loc) (cells1 slots1 : Nat), REL sh2 mi2 mr2 M2 Mr → LSt g s.heap.size H1 sh2 mi2 mr2 M2 Mr → va_S (fun q => s.heap.size ≤ q) s.heap H1 locs1 → cells1 ≤ cells + 2 → slots1 ≤ slots + 99 → W p l e room_1 s m args below meth c H1 locs1 cells1 slots1 QQ (F0 m 1623 ls [])) : W p l e room_1 s m args below meth c H locs cells slots QQ (F0 m 1125 ls []) := by
  obtain ⟨r, Rc, Rm, mc, ms, ⟨hmc, hms⟩, cpC, cpM, hfin⟩ := sim_textTold hrel (xs (nI i + 1).toNatClampNeg) (xs (nI i + 2).toNatClampNeg)
  refine lv_aload_n hx hb dL_law_1125 rfl (lv_at hl 1 rfl) ?_
  refine lv_aload_n hx hb dL_law_1126 rfl (lv_at hl 0 rfl) ?_
  refine lv_iload_n hx hb dL_law_1127 rfl (lv_at hl 3 rfl) ?_
  refine lv_iconst (v := 1) hx hb dL_law_1128 (by decide) ?_
  refine lv_iadd hx hb dL_law_1129 ?_
  refine va_sld hx hb hX hbl (Nat.not_le.mpr hbl) hS (vp_j (j := 1) hi hL (by decide) rfl) dL_law_1130 ?_
  refine lv_aload_n hx hb dL_law_1131 rfl (lv_at hl 0 rfl) ?_
  refine lv_iload_n hx hb dL_law_1132 rfl (lv_at hl 3 rfl) ?_
  refine lv_iconst (v := 2) hx hb dL_law_1133 (by decide) ?_
  refine lv_iadd hx hb dL_law_1134 ?_
  refine va_sld hx hb hX hbl (Nat.not_le.mpr hbl) hS (vp_j (j := 2) hi hL (by decide) rfl) dL_law_1135 ?_
  refine lawC (S := []) hx hb hml hown hg h hrel.1.1 hS hl.1 cpC dL_law_1136 rfl lkL_134 imX11_textTold seX11_X11_textTold_X11_textTold mwX11_textTold (by omega) (by omega) rfl (by decide) (fun sh2 mi2 mr2 H1 locs1 hRc h1 hS1 => ?_)
  refine lv_aload_n hx hb dL_law_1139 rfl (lv_at hl 2 rfl) ?_
  refine lv_aload_n hx hb dL_law_1140 rfl (lv_at hl 0 rfl) ?_
  refine lv_iload_n hx hb dL_law_1141 rfl (lv_at hl 3 rfl) ?_
  refine lv_iconst (v := 1) hx hb dL_law_1142 (by decide) ?_
  refine lv_iadd hx hb dL_law_1143 ?_
  refine va_sld hx hb hX hbl (Nat.not_le.mpr hbl) hS1 (vp_j (j := 1) hi hL (by decide) rfl) dL_law_1144 ?_
  refine lv_aload_n hx hb dL_law_1145 rfl (lv_at hl 0 rfl) ?_
  refine lv_iload_n hx hb dL_law_1146 rfl (lv_at hl 3 rfl) ?_
  refine lv_iconst (v := 2) hx hb dL_law_1147 (by decide) ?_
  refine lv_iadd hx hb dL_law_1148 ?_
  refine va_sld hx hb hX hbl (Nat.not_le.mpr hbl) hS1 (vp_j (j := 2) hi hL (by decide) rfl) dL_law_1149 ?_
  refine lawM (S := [.int r]) hx hb hml hown hg h1 hS1 hl.1 cpM dL_law_1150 rfl lkL_137 imX12_textTold seX12_X12_textTold_X12_textTold mwX12_textTold (by omega) (by omega) rfl (Nat.le_of_ble_eq_true rfl) (fun M2 H2 locs2 hRm h2 hS2 => ?_)
  refine lv_icmp_eq (tgt := 1623) hx hb dL_law_1153 (by decide) (fun _ => ?_) (fun z => absurd rfl z)
  exact k sh2 mi2 mr2 M2 H2 locs2 _ _ (hfin sh2 mi2 mr2 M2 hRc hRm).1 h2 hS2 (by omega) (by omega)

theorem lo_why (hx : p.tables.exec = Jvm.exec) (hb : c.code = code) (hml : c.maxLocals = 4) (hown : s.vm.findClass RL = some m.cls) (hg : LGr g s) (hX : va_X b L xs s s.heap) (hbl : b < s.heap.size) (hi : i + 6 ≤ L) (hL : L ≤ 3072) (hl : lv_has ls 4 [(0, .ref b), (1, .ref s.heap.size), (2, .ref (s.heap.size + 76)), (3, .int (nI i))]) (hrel : REL sh mi mr M Mr) (h : LSt g s.heap.size H sh mi mr M Mr) (hS : va_S (fun q => s.heap.size ≤ q) s.heap H locs) (hc : cells + 2 ≤ 600000) (hs : slots + 99 ≤ 7302250) (k : ∀ (sh2 : List Sh) (mi2 : MI) (mr2 : MR) (M2 : MI) (H1 : Heap) (locs1 : List Loc) (cells1 slots1 : Nat), REL sh2 mi2 mr2 M2 Mr → LSt g s.heap.size H1 sh2 mi2 mr2 M2 Mr → va_S (fun q => s.heap.size ≤ q) s.heap H1 locs1 → cells1 ≤ cells + 2 → slots1 ≤ slots + 99 → W p l e room_1 s m args below meth c H1 locs1 cells1 slots1 QQ (F0 m 1623 ls [])) : W p l e room_1 s m args below meth c H locs cells slots QQ (F0 m 1158 ls []) := by
  obtain ⟨r, Rc, Rm, mc, ms, ⟨hmc, hms⟩, cpC, cpM, hfin⟩ := sim_why hrel (xs (nI i + 1).toNatClampNeg)
  refine lv_aload_n hx hb dL_law_1158 rfl (lv_at hl 1 rfl) ?_
  refine lv_aload_n hx hb dL_law_1159 rfl (lv_at hl 0 rfl) ?_
  refine lv_iload_n hx hb dL_law_1160 rfl (lv_at hl 3 rfl) ?_
  refine lv_iconst (v := 1) hx hb dL_law_1161 (by decide) ?_
  refine lv_iadd hx hb dL_law_1162 ?_
  refine va_sld hx hb hX hbl (Nat.not_le.mpr hbl) hS (vp_j (j := 1) hi hL (by decide) rfl) dL_law_1163 ?_
  refine lawC (S := []) hx hb hml hown hg h hrel.1.1 hS hl.1 cpC dL_law_1164 rfl lkL_138 imX11_why seX11_X11_why_X11_why mwX11_why (by omega) (by omega) rfl (by decide) (fun sh2 mi2 mr2 H1 locs1 hRc h1 hS1 => ?_)
  refine lv_aload_n hx hb dL_law_1167 rfl (lv_at hl 2 rfl) ?_
  refine lv_aload_n hx hb dL_law_1168 rfl (lv_at hl 0 rfl) ?_
  refine lv_iload_n hx hb dL_law_1169 rfl (lv_at hl 3 rfl) ?_
  refine lv_iconst (v := 1) hx hb dL_law_1170 (by decide) ?_
  refine lv_iadd hx hb dL_law_1171 ?_
  refine va_sld hx hb hX hbl (Nat.not_le.mpr hbl) hS1 (vp_j (j := 1) hi hL (by decide) rfl) dL_law_1172 ?_
  refine lawM (S := [.int r]) hx hb hml hown hg h1 hS1 hl.1 cpM dL_law_1173 rfl lkL_141 imX12_why seX12_X12_why_X12_why mwX12_why (by omega) (by omega) rfl (Nat.le_of_ble_eq_true rfl) (fun M2 H2 locs2 hRm h2 hS2 => ?_)
  refine lv_icmp_eq (tgt := 1623) hx hb dL_law_1176 (by decide) (fun _ => ?_) (fun z => absurd rfl z)
  exact k sh2 mi2 mr2 M2 H2 locs2 _ _ (hfin sh2 mi2 mr2 M2 hRc hRm).1 h2 hS2 (by omega) (by omega)

theorem lo_sheet (hx : p.tables.exec = Jvm.exec) (hb : c.code = code) (hml : c.maxLocals = 4) (hown : s.vm.findClass RL = some m.cls) (hg : LGr g s) (hX : va_X b L xs s s.heap) (hbl : b < s.heap.size) (hi : i + 6 ≤ L) (hL : L ≤ 3072) (hl : lv_has ls 4 [(0, .ref b), (1, .ref s.heap.size), (2, .ref (s.heap.size + 76)), (3, .int (nI i))]) (hrel : REL sh mi mr M Mr) (h : LSt g s.heap.size H sh mi mr M Mr) (hS : va_S (fun q => s.heap.size ≤ q) s.heap H locs) (hc : cells + 2 ≤ 600000) (hs : slots + 99 ≤ 7302250) (k : ∀ (sh2 : List Sh) (mi2 : MI) (mr2 : MR) (M2 : MI) (H1 : Heap) (locs1 : List Loc) (cells1 slots1 : Nat), REL sh2 mi2 mr2 M2 Mr → LSt g s.heap.size H1 sh2 mi2 mr2 M2 Mr → va_S (fun q => s.heap.size ≤ q) s.heap H1 locs1 → cells1 ≤ cells + 2 → slots1 ≤ slots + 99 → W p l e room_1 s m args below meth c H1 locs1 cells1 slots1 QQ (F0 m 1623 ls [])) : W p l e room_1 s m args below meth c H locs cells slots QQ (F0 m 1181 ls []) := by
  obtain ⟨r, Rc, Rm, mc, ms, ⟨hmc, hms⟩, cpC, cpM, hfin⟩ := sim_sheet hrel (xs (nI i + 1).toNatClampNeg) (xs (nI i + 2).toNatClampNeg) (xs (nI i + 3).toNatClampNeg)
  refine lv_aload_n hx hb dL_law_1181 rfl (lv_at hl 1 rfl) ?_
  refine lv_aload_n hx hb dL_law_1182 rfl (lv_at hl 0 rfl) ?_
  refine lv_iload_n hx hb dL_law_1183 rfl (lv_at hl 3 rfl) ?_
  refine lv_iconst (v := 1) hx hb dL_law_1184 (by decide) ?_
  refine lv_iadd hx hb dL_law_1185 ?_
  refine va_sld hx hb hX hbl (Nat.not_le.mpr hbl) hS (vp_j (j := 1) hi hL (by decide) rfl) dL_law_1186 ?_
  refine lv_aload_n hx hb dL_law_1187 rfl (lv_at hl 0 rfl) ?_
  refine lv_iload_n hx hb dL_law_1188 rfl (lv_at hl 3 rfl) ?_
  refine lv_iconst (v := 2) hx hb dL_law_1189 (by decide) ?_
  refine lv_iadd hx hb dL_law_1190 ?_
  refine va_sld hx hb hX hbl (Nat.not_le.mpr hbl) hS (vp_j (j := 2) hi hL (by decide) rfl) dL_law_1191 ?_
  refine lv_aload_n hx hb dL_law_1192 rfl (lv_at hl 0 rfl) ?_
  refine lv_iload_n hx hb dL_law_1193 rfl (lv_at hl 3 rfl) ?_
  refine lv_iconst (v := 3) hx hb dL_law_1194 (by decide) ?_
  refine lv_iadd hx hb dL_law_1195 ?_
  refine va_sld hx hb hX hbl (Nat.not_le.mpr hbl) hS (vp_j (j := 3) hi hL (by decide) rfl) dL_law_1196 ?_
  refine lawC (S := []) hx hb hml hown hg h hrel.1.1 hS hl.1 cpC dL_law_1197 rfl lkL_142 imX11_sheet seX11_X11_sheet_X11_sheet mwX11_sheet (by omega) (by omega) rfl (by decide) (fun sh2 mi2 mr2 H1 locs1 hRc h1 hS1 => ?_)
  refine lv_aload_n hx hb dL_law_1200 rfl (lv_at hl 2 rfl) ?_
  refine lv_aload_n hx hb dL_law_1201 rfl (lv_at hl 0 rfl) ?_
  refine lv_iload_n hx hb dL_law_1202 rfl (lv_at hl 3 rfl) ?_
  refine lv_iconst (v := 1) hx hb dL_law_1203 (by decide) ?_
  refine lv_iadd hx hb dL_law_1204 ?_
  refine va_sld hx hb hX hbl (Nat.not_le.mpr hbl) hS1 (vp_j (j := 1) hi hL (by decide) rfl) dL_law_1205 ?_
  refine lv_aload_n hx hb dL_law_1206 rfl (lv_at hl 0 rfl) ?_
  refine lv_iload_n hx hb dL_law_1207 rfl (lv_at hl 3 rfl) ?_
  refine lv_iconst (v := 2) hx hb dL_law_1208 (by decide) ?_
  refine lv_iadd hx hb dL_law_1209 ?_
  refine va_sld hx hb hX hbl (Nat.not_le.mpr hbl) hS1 (vp_j (j := 2) hi hL (by decide) rfl) dL_law_1210 ?_
  refine lv_aload_n hx hb dL_law_1211 rfl (lv_at hl 0 rfl) ?_
  refine lv_iload_n hx hb dL_law_1212 rfl (lv_at hl 3 rfl) ?_
  refine lv_iconst (v := 3) hx hb dL_law_1213 (by decide) ?_
  refine lv_iadd hx hb dL_law_1214 ?_
  refine va_sld hx hb hX hbl (Nat.not_le.mpr hbl) hS1 (vp_j (j := 3) hi hL (by decide) rfl) dL_law_1215 ?_
  refine lawM (S := [.int r]) hx hb hml hown hg h1 hS1 hl.1 cpM dL_law_1216 rfl lkL_145 imX12_sheet seX12_X12_sheet_X12_sheet mwX12_sheet (by omega) (by omega) rfl (Nat.le_of_ble_eq_true rfl) (fun M2 H2 locs2 hRm h2 hS2 => ?_)
  refine lv_icmp_eq (tgt := 1623) hx hb dL_law_1219 (by decide) (fun _ => ?_) (fun z => absurd rfl z)
  exact k sh2 mi2 mr2 M2 H2 locs2 _ _ (hfin sh2 mi2 mr2 M2 hRc hRm).1 h2 hS2 (by omega) (by omega)

theorem lo_mark (hx : p.tables.exec = Jvm.exec) (hb : c.code = code) (hml : c.maxLocals = 4) (hown : s.vm.findClass RL = some m.cls) (hg : LGr g s) (hX : va_X b L xs s s.heap) (hbl : b < s.heap.size) (hi : i + 6 ≤ L) (hL : L ≤ 3072) (hl : lv_has ls 4 [(0, .ref b), (1, .ref s.heap.size), (2, .ref (s.heap.size + 76)), (3, .int (nI i))]) (hrel : REL sh mi mr M Mr) (h : LSt g s.heap.size H sh mi mr M Mr) (hS : va_S (fun q => s.heap.size ≤ q) s.heap H locs) (hc : cells + 2 ≤ 600000) (hs : slots + 99 ≤ 7302250) (k : ∀ (sh2 : List Sh) (mi2 : MI) (mr2 : MR) (M2 : MI) (H1 : Heap) (locs1 : List Loc) (cells1 slots1 : Nat), REL sh2 mi2 mr2 M2 Mr → LSt g s.heap.size H1 sh2 mi2 mr2 M2 Mr → va_S (fun q => s.heap.size ≤ q) s.heap H1 locs1 → cells1 ≤ cells + 2 → slots1 ≤ slots + 99 → W p l e room_1 s m args below meth c H1 locs1 cells1 slots1 QQ (F0 m 1623 ls [])) : W p l e room_1 s m args below meth c H locs cells slots QQ (F0 m 1224 ls []) := by
  obtain ⟨r, Rc, Rm, mc, ms, ⟨hmc, hms⟩, cpC, cpM, hfin⟩ := sim_mark hrel (xs (nI i + 1).toNatClampNeg) (xs (nI i + 2).toNatClampNeg) (xs (nI i + 3).toNatClampNeg)
  refine lv_aload_n hx hb dL_law_1224 rfl (lv_at hl 1 rfl) ?_
  refine lv_aload_n hx hb dL_law_1225 rfl (lv_at hl 0 rfl) ?_
  refine lv_iload_n hx hb dL_law_1226 rfl (lv_at hl 3 rfl) ?_
  refine lv_iconst (v := 1) hx hb dL_law_1227 (by decide) ?_
  refine lv_iadd hx hb dL_law_1228 ?_
  refine va_sld hx hb hX hbl (Nat.not_le.mpr hbl) hS (vp_j (j := 1) hi hL (by decide) rfl) dL_law_1229 ?_
  refine lv_aload_n hx hb dL_law_1230 rfl (lv_at hl 0 rfl) ?_
  refine lv_iload_n hx hb dL_law_1231 rfl (lv_at hl 3 rfl) ?_
  refine lv_iconst (v := 2) hx hb dL_law_1232 (by decide) ?_
  refine lv_iadd hx hb dL_law_1233 ?_
  refine va_sld hx hb hX hbl (Nat.not_le.mpr hbl) hS (vp_j (j := 2) hi hL (by decide) rfl) dL_law_1234 ?_
  refine lv_aload_n hx hb dL_law_1235 rfl (lv_at hl 0 rfl) ?_
  refine lv_iload_n hx hb dL_law_1236 rfl (lv_at hl 3 rfl) ?_
  refine lv_iconst (v := 3) hx hb dL_law_1237 (by decide) ?_
  refine lv_iadd hx hb dL_law_1238 ?_
  refine va_sld hx hb hX hbl (Nat.not_le.mpr hbl) hS (vp_j (j := 3) hi hL (by decide) rfl) dL_law_1239 ?_
  refine lawC (S := []) hx hb hml hown hg h hrel.1.1 hS hl.1 cpC dL_law_1240 rfl lkL_146 imX11_mark seX11_X11_mark_X11_mark mwX11_mark (by omega) (by omega) rfl (by decide) (fun sh2 mi2 mr2 H1 locs1 hRc h1 hS1 => ?_)
  refine lv_aload_n hx hb dL_law_1243 rfl (lv_at hl 2 rfl) ?_
  refine lv_aload_n hx hb dL_law_1244 rfl (lv_at hl 0 rfl) ?_
  refine lv_iload_n hx hb dL_law_1245 rfl (lv_at hl 3 rfl) ?_
  refine lv_iconst (v := 1) hx hb dL_law_1246 (by decide) ?_
  refine lv_iadd hx hb dL_law_1247 ?_
  refine va_sld hx hb hX hbl (Nat.not_le.mpr hbl) hS1 (vp_j (j := 1) hi hL (by decide) rfl) dL_law_1248 ?_
  refine lv_aload_n hx hb dL_law_1249 rfl (lv_at hl 0 rfl) ?_
  refine lv_iload_n hx hb dL_law_1250 rfl (lv_at hl 3 rfl) ?_
  refine lv_iconst (v := 2) hx hb dL_law_1251 (by decide) ?_
  refine lv_iadd hx hb dL_law_1252 ?_
  refine va_sld hx hb hX hbl (Nat.not_le.mpr hbl) hS1 (vp_j (j := 2) hi hL (by decide) rfl) dL_law_1253 ?_
  refine lv_aload_n hx hb dL_law_1254 rfl (lv_at hl 0 rfl) ?_
  refine lv_iload_n hx hb dL_law_1255 rfl (lv_at hl 3 rfl) ?_
  refine lv_iconst (v := 3) hx hb dL_law_1256 (by decide) ?_
  refine lv_iadd hx hb dL_law_1257 ?_
  refine va_sld hx hb hX hbl (Nat.not_le.mpr hbl) hS1 (vp_j (j := 3) hi hL (by decide) rfl) dL_law_1258 ?_
  refine lawM (S := [.int r]) hx hb hml hown hg h1 hS1 hl.1 cpM dL_law_1259 rfl lkL_149 imX12_mark seX12_X12_mark_X12_mark mwX12_mark (by omega) (by omega) rfl (Nat.le_of_ble_eq_true rfl) (fun M2 H2 locs2 hRm h2 hS2 => ?_)
  refine lv_icmp_eq (tgt := 1623) hx hb dL_law_1262 (by decide) (fun _ => ?_) (fun z => absurd rfl z)
  exact k sh2 mi2 mr2 M2 H2 locs2 _ _ (hfin sh2 mi2 mr2 M2 hRc hRm).1 h2 hS2 (by omega) (by omega)

theorem lo_pour (hx : p.tables.exec = Jvm.exec) (hb : c.code = code) (hml : c.maxLocals = 4) (hown : s.vm.findClass RL = some m.cls) (hg : LGr g s) (hX : va_X b L xs s s.heap) (hbl : b < s.heap.size) (hi : i + 6 ≤ L) (hL : L ≤ 3072) (hl : lv_has ls 4 [(0, .ref b), (1, .ref s.heap.size), (2, .ref (s.heap.size + 76)), (3, .int (nI i))]) (hrel : REL sh mi mr M Mr) (h : LSt g s.heap.size H sh mi mr M Mr) (hS : va_S (fun q => s.heap.size ≤ q) s.heap H locs) (hc : cells + 2 ≤ 600000) (hs : slots + 99 ≤ 7302250) (k : ∀ (sh2 : List Sh) (mi2 : MI) (mr2 : MR) (M2 : MI) (H1 : Heap) (locs1 : List Loc) (cells1 slots1 : Nat), REL sh2 mi2 mr2 M2 Mr → LSt g s.heap.size H1 sh2 mi2 mr2 M2 Mr → va_S (fun q => s.heap.size ≤ q) s.heap H1 locs1 → cells1 ≤ cells + 2 → slots1 ≤ slots + 99 → W p l e room_1 s m args below meth c H1 locs1 cells1 slots1 QQ (F0 m 1623 ls [])) : W p l e room_1 s m args below meth c H locs cells slots QQ (F0 m 1267 ls []) := by
  obtain ⟨r, Rc, Rm, mc, ms, ⟨hmc, hms⟩, cpC, cpM, hfin⟩ := sim_pour hrel (xs (nI i + 1).toNatClampNeg)
  refine lv_aload_n hx hb dL_law_1267 rfl (lv_at hl 1 rfl) ?_
  refine lv_aload_n hx hb dL_law_1268 rfl (lv_at hl 0 rfl) ?_
  refine lv_iload_n hx hb dL_law_1269 rfl (lv_at hl 3 rfl) ?_
  refine lv_iconst (v := 1) hx hb dL_law_1270 (by decide) ?_
  refine lv_iadd hx hb dL_law_1271 ?_
  refine va_sld hx hb hX hbl (Nat.not_le.mpr hbl) hS (vp_j (j := 1) hi hL (by decide) rfl) dL_law_1272 ?_
  refine lawC (S := []) hx hb hml hown hg h hrel.1.1 hS hl.1 cpC dL_law_1273 rfl lkL_150 imX11_pour seX11_X11_pour_X11_pour mwX11_pour (by omega) (by omega) rfl (by decide) (fun sh2 mi2 mr2 H1 locs1 hRc h1 hS1 => ?_)
  refine lv_aload_n hx hb dL_law_1276 rfl (lv_at hl 2 rfl) ?_
  refine lv_aload_n hx hb dL_law_1277 rfl (lv_at hl 0 rfl) ?_
  refine lv_iload_n hx hb dL_law_1278 rfl (lv_at hl 3 rfl) ?_
  refine lv_iconst (v := 1) hx hb dL_law_1279 (by decide) ?_
  refine lv_iadd hx hb dL_law_1280 ?_
  refine va_sld hx hb hX hbl (Nat.not_le.mpr hbl) hS1 (vp_j (j := 1) hi hL (by decide) rfl) dL_law_1281 ?_
  refine lawM (S := [.int r]) hx hb hml hown hg h1 hS1 hl.1 cpM dL_law_1282 rfl lkL_153 imX12_pour seX12_X12_pour_X12_pour mwX12_pour (by omega) (by omega) rfl (Nat.le_of_ble_eq_true rfl) (fun M2 H2 locs2 hRm h2 hS2 => ?_)
  refine lv_icmp_eq (tgt := 1623) hx hb dL_law_1285 (by decide) (fun _ => ?_) (fun z => absurd rfl z)
  exact k sh2 mi2 mr2 M2 H2 locs2 _ _ (hfin sh2 mi2 mr2 M2 hRc hRm).1 h2 hS2 (by omega) (by omega)

theorem lo_nearest (hx : p.tables.exec = Jvm.exec) (hb : c.code = code) (hml : c.maxLocals = 4) (hown : s.vm.findClass RL = some m.cls) (hg : LGr g s) (hX : va_X b L xs s s.heap) (hbl : b < s.heap.size) (hi : i + 6 ≤ L) (hL : L ≤ 3072) (hl : lv_has ls 4 [(0, .ref b), (1, .ref s.heap.size), (2, .ref (s.heap.size + 76)), (3, .int (nI i))]) (hrel : REL sh mi mr M Mr) (h : LSt g s.heap.size H sh mi mr M Mr) (hS : va_S (fun q => s.heap.size ≤ q) s.heap H locs) (hc : cells + 2 ≤ 600000) (hs : slots + 99 ≤ 7302250) (k : ∀ (sh2 : List Sh) (mi2 : MI) (mr2 : MR) (M2 : MI) (H1 : Heap) (locs1 : List Loc) (cells1 slots1 : Nat), REL sh2 mi2 mr2 M2 Mr → LSt g s.heap.size H1 sh2 mi2 mr2 M2 Mr → va_S (fun q => s.heap.size ≤ q) s.heap H1 locs1 → cells1 ≤ cells + 2 → slots1 ≤ slots + 99 → W p l e room_1 s m args below meth c H1 locs1 cells1 slots1 QQ (F0 m 1623 ls [])) : W p l e room_1 s m args below meth c H locs cells slots QQ (F0 m 1290 ls []) := by
  obtain ⟨r, Rc, Rm, mc, ms, ⟨hmc, hms⟩, cpC, cpM, hfin⟩ := sim_nearest hrel (xs (nI i + 1).toNatClampNeg) (xs (nI i + 2).toNatClampNeg)
  refine lv_aload_n hx hb dL_law_1290 rfl (lv_at hl 1 rfl) ?_
  refine lv_aload_n hx hb dL_law_1291 rfl (lv_at hl 0 rfl) ?_
  refine lv_iload_n hx hb dL_law_1292 rfl (lv_at hl 3 rfl) ?_
  refine lv_iconst (v := 1) hx hb dL_law_1293 (by decide) ?_
  refine lv_iadd hx hb dL_law_1294 ?_
  refine va_sld hx hb hX hbl (Nat.not_le.mpr hbl) hS (vp_j (j := 1) hi hL (by decide) rfl) dL_law_1295 ?_
  refine lv_aload_n hx hb dL_law_1296 rfl (lv_at hl 0 rfl) ?_
  refine lv_iload_n hx hb dL_law_1297 rfl (lv_at hl 3 rfl) ?_
  refine lv_iconst (v := 2) hx hb dL_law_1298 (by decide) ?_
  refine lv_iadd hx hb dL_law_1299 ?_
  refine va_sld hx hb hX hbl (Nat.not_le.mpr hbl) hS (vp_j (j := 2) hi hL (by decide) rfl) dL_law_1300 ?_
  refine lawC (S := []) hx hb hml hown hg h hrel.1.1 hS hl.1 cpC dL_law_1301 rfl lkL_154 imX11_nearest seX11_X11_nearest_X11_nearest mwX11_nearest (by omega) (by omega) rfl (by decide) (fun sh2 mi2 mr2 H1 locs1 hRc h1 hS1 => ?_)
  refine lv_aload_n hx hb dL_law_1304 rfl (lv_at hl 2 rfl) ?_
  refine lv_aload_n hx hb dL_law_1305 rfl (lv_at hl 0 rfl) ?_
  refine lv_iload_n hx hb dL_law_1306 rfl (lv_at hl 3 rfl) ?_
  refine lv_iconst (v := 1) hx hb dL_law_1307 (by decide) ?_
  refine lv_iadd hx hb dL_law_1308 ?_
  refine va_sld hx hb hX hbl (Nat.not_le.mpr hbl) hS1 (vp_j (j := 1) hi hL (by decide) rfl) dL_law_1309 ?_
  refine lv_aload_n hx hb dL_law_1310 rfl (lv_at hl 0 rfl) ?_
  refine lv_iload_n hx hb dL_law_1311 rfl (lv_at hl 3 rfl) ?_
  refine lv_iconst (v := 2) hx hb dL_law_1312 (by decide) ?_
  refine lv_iadd hx hb dL_law_1313 ?_
  refine va_sld hx hb hX hbl (Nat.not_le.mpr hbl) hS1 (vp_j (j := 2) hi hL (by decide) rfl) dL_law_1314 ?_
  refine lawM (S := [.int r]) hx hb hml hown hg h1 hS1 hl.1 cpM dL_law_1315 rfl lkL_157 imX12_nearest seX12_X12_nearest_X12_nearest mwX12_nearest (by omega) (by omega) rfl (Nat.le_of_ble_eq_true rfl) (fun M2 H2 locs2 hRm h2 hS2 => ?_)
  refine lv_icmp_eq (tgt := 1623) hx hb dL_law_1318 (by decide) (fun _ => ?_) (fun z => absurd rfl z)
  exact k sh2 mi2 mr2 M2 H2 locs2 _ _ (hfin sh2 mi2 mr2 M2 hRc hRm).1 h2 hS2 (by omega) (by omega)

theorem lo_copy (hx : p.tables.exec = Jvm.exec) (hb : c.code = code) (hml : c.maxLocals = 4) (hown : s.vm.findClass RL = some m.cls) (hg : LGr g s) (hX : va_X b L xs s s.heap) (hbl : b < s.heap.size) (hi : i + 6 ≤ L) (hL : L ≤ 3072) (hl : lv_has ls 4 [(0, .ref b), (1, .ref s.heap.size), (2, .ref (s.heap.size + 76)), (3, .int (nI i))]) (hrel : REL sh mi mr M Mr) (h : LSt g s.heap.size H sh mi mr M Mr) (hS : va_S (fun q => s.heap.size ≤ q) s.heap H locs) (hc : cells + 2 ≤ 600000) (hs : slots + 99 ≤ 7302250) (k : ∀ (sh2 : List Sh) (mi2 : MI) (mr2 : MR) (M2 : MI) (H1 : Heap) (locs1 : List Loc) (cells1 slots1 : Nat), REL sh2 mi2 mr2 M2 Mr → LSt g s.heap.size H1 sh2 mi2 mr2 M2 Mr → va_S (fun q => s.heap.size ≤ q) s.heap H1 locs1 → cells1 ≤ cells + 2 → slots1 ≤ slots + 99 → W p l e room_1 s m args below meth c H1 locs1 cells1 slots1 QQ (F0 m 1623 ls [])) : W p l e room_1 s m args below meth c H locs cells slots QQ (F0 m 1323 ls []) := by
  obtain ⟨r, Rc, Rm, mc, ms, ⟨hmc, hms⟩, cpC, cpM, hfin⟩ := sim_copy hrel (xs (nI i + 1).toNatClampNeg) (xs (nI i + 2).toNatClampNeg) (xs (nI i + 3).toNatClampNeg) (xs (nI i + 4).toNatClampNeg) (xs (nI i + 5).toNatClampNeg)
  refine lv_aload_n hx hb dL_law_1323 rfl (lv_at hl 1 rfl) ?_
  refine lv_aload_n hx hb dL_law_1324 rfl (lv_at hl 0 rfl) ?_
  refine lv_iload_n hx hb dL_law_1325 rfl (lv_at hl 3 rfl) ?_
  refine lv_iconst (v := 1) hx hb dL_law_1326 (by decide) ?_
  refine lv_iadd hx hb dL_law_1327 ?_
  refine va_sld hx hb hX hbl (Nat.not_le.mpr hbl) hS (vp_j (j := 1) hi hL (by decide) rfl) dL_law_1328 ?_
  refine lv_aload_n hx hb dL_law_1329 rfl (lv_at hl 0 rfl) ?_
  refine lv_iload_n hx hb dL_law_1330 rfl (lv_at hl 3 rfl) ?_
  refine lv_iconst (v := 2) hx hb dL_law_1331 (by decide) ?_
  refine lv_iadd hx hb dL_law_1332 ?_
  refine va_sld hx hb hX hbl (Nat.not_le.mpr hbl) hS (vp_j (j := 2) hi hL (by decide) rfl) dL_law_1333 ?_
  refine lv_aload_n hx hb dL_law_1334 rfl (lv_at hl 0 rfl) ?_
  refine lv_iload_n hx hb dL_law_1335 rfl (lv_at hl 3 rfl) ?_
  refine lv_iconst (v := 3) hx hb dL_law_1336 (by decide) ?_
  refine lv_iadd hx hb dL_law_1337 ?_
  refine va_sld hx hb hX hbl (Nat.not_le.mpr hbl) hS (vp_j (j := 3) hi hL (by decide) rfl) dL_law_1338 ?_
  refine lv_aload_n hx hb dL_law_1339 rfl (lv_at hl 0 rfl) ?_
  refine lv_iload_n hx hb dL_law_1340 rfl (lv_at hl 3 rfl) ?_
  refine lv_iconst (v := 4) hx hb dL_law_1341 (by decide) ?_
  refine lv_iadd hx hb dL_law_1342 ?_
  refine va_sld hx hb hX hbl (Nat.not_le.mpr hbl) hS (vp_j (j := 4) hi hL (by decide) rfl) dL_law_1343 ?_
  refine lv_aload_n hx hb dL_law_1344 rfl (lv_at hl 0 rfl) ?_
  refine lv_iload_n hx hb dL_law_1345 rfl (lv_at hl 3 rfl) ?_
  refine lv_iconst (v := 5) hx hb dL_law_1346 (by decide) ?_
  refine lv_iadd hx hb dL_law_1347 ?_
  refine va_sld hx hb hX hbl (Nat.not_le.mpr hbl) hS (vp_j (j := 5) hi hL (by decide) rfl) dL_law_1348 ?_
  refine lawC (S := []) hx hb hml hown hg h hrel.1.1 hS hl.1 cpC dL_law_1349 rfl lkL_158 imX11_copy seX11_X11_copy_X11_copy mwX11_copy (by omega) (by omega) rfl (by decide) (fun sh2 mi2 mr2 H1 locs1 hRc h1 hS1 => ?_)
  refine lv_aload_n hx hb dL_law_1352 rfl (lv_at hl 2 rfl) ?_
  refine lv_aload_n hx hb dL_law_1353 rfl (lv_at hl 0 rfl) ?_
  refine lv_iload_n hx hb dL_law_1354 rfl (lv_at hl 3 rfl) ?_
  refine lv_iconst (v := 1) hx hb dL_law_1355 (by decide) ?_
  refine lv_iadd hx hb dL_law_1356 ?_
  refine va_sld hx hb hX hbl (Nat.not_le.mpr hbl) hS1 (vp_j (j := 1) hi hL (by decide) rfl) dL_law_1357 ?_
  refine lv_aload_n hx hb dL_law_1358 rfl (lv_at hl 0 rfl) ?_
  refine lv_iload_n hx hb dL_law_1359 rfl (lv_at hl 3 rfl) ?_
  refine lv_iconst (v := 2) hx hb dL_law_1360 (by decide) ?_
  refine lv_iadd hx hb dL_law_1361 ?_
  refine va_sld hx hb hX hbl (Nat.not_le.mpr hbl) hS1 (vp_j (j := 2) hi hL (by decide) rfl) dL_law_1362 ?_
  refine lv_aload_n hx hb dL_law_1363 rfl (lv_at hl 0 rfl) ?_
  refine lv_iload_n hx hb dL_law_1364 rfl (lv_at hl 3 rfl) ?_
  refine lv_iconst (v := 3) hx hb dL_law_1365 (by decide) ?_
  refine lv_iadd hx hb dL_law_1366 ?_
  refine va_sld hx hb hX hbl (Nat.not_le.mpr hbl) hS1 (vp_j (j := 3) hi hL (by decide) rfl) dL_law_1367 ?_
  refine lv_aload_n hx hb dL_law_1368 rfl (lv_at hl 0 rfl) ?_
  refine lv_iload_n hx hb dL_law_1369 rfl (lv_at hl 3 rfl) ?_
  refine lv_iconst (v := 4) hx hb dL_law_1370 (by decide) ?_
  refine lv_iadd hx hb dL_law_1371 ?_
  refine va_sld hx hb hX hbl (Nat.not_le.mpr hbl) hS1 (vp_j (j := 4) hi hL (by decide) rfl) dL_law_1372 ?_
  refine lv_aload_n hx hb dL_law_1373 rfl (lv_at hl 0 rfl) ?_
  refine lv_iload_n hx hb dL_law_1374 rfl (lv_at hl 3 rfl) ?_
  refine lv_iconst (v := 5) hx hb dL_law_1375 (by decide) ?_
  refine lv_iadd hx hb dL_law_1376 ?_
  refine va_sld hx hb hX hbl (Nat.not_le.mpr hbl) hS1 (vp_j (j := 5) hi hL (by decide) rfl) dL_law_1377 ?_
  refine lawM (S := [.int r]) hx hb hml hown hg h1 hS1 hl.1 cpM dL_law_1378 rfl lkL_162 imX12_copy seX12_X12_copy_X12_copy mwX12_copy (by omega) (by omega) rfl (Nat.le_of_ble_eq_true rfl) (fun M2 H2 locs2 hRm h2 hS2 => ?_)
  refine lv_icmp_eq (tgt := 1623) hx hb dL_law_1381 (by decide) (fun _ => ?_) (fun z => absurd rfl z)
  exact k sh2 mi2 mr2 M2 H2 locs2 _ _ (hfin sh2 mi2 mr2 M2 hRc hRm).1 h2 hS2 (by omega) (by omega)

theorem lo_lay (hx : p.tables.exec = Jvm.exec) (hb : c.code = code) (hml : c.maxLocals = 4) (hown : s.vm.findClass RL = some m.cls) (hg : LGr g s) (hX : va_X b L xs s s.heap) (hbl : b < s.heap.size) (hi : i + 6 ≤ L) (hL : L ≤ 3072) (hl : lv_has ls 4 [(0, .ref b), (1, .ref s.heap.size), (2, .ref (s.heap.size + 76)), (3, .int (nI i))]) (hrel : REL sh mi mr M Mr) (h : LSt g s.heap.size H sh mi mr M Mr) (hS : va_S (fun q => s.heap.size ≤ q) s.heap H locs) (hc : cells + 2 ≤ 600000) (hs : slots + 99 ≤ 7302250) (k : ∀ (sh2 : List Sh) (mi2 : MI) (mr2 : MR) (M2 : MI) (H1 : Heap) (locs1 : List Loc) (cells1 slots1 : Nat), REL sh2 mi2 mr2 M2 Mr → LSt g s.heap.size H1 sh2 mi2 mr2 M2 Mr → va_S (fun q => s.heap.size ≤ q) s.heap H1 locs1 → cells1 ≤ cells + 2 → slots1 ≤ slots + 99 → W p l e room_1 s m args below meth c H1 locs1 cells1 slots1 QQ (F0 m 1623 ls [])) : W p l e room_1 s m args below meth c H locs cells slots QQ (F0 m 1386 ls []) := by
  obtain ⟨r, Rc, Rm, mc, ms, ⟨hmc, hms⟩, cpC, cpM, hfin⟩ := sim_lay hrel (xs (nI i + 1).toNatClampNeg) (xs (nI i + 2).toNatClampNeg) (xs (nI i + 3).toNatClampNeg)
  refine lv_aload_n hx hb dL_law_1386 rfl (lv_at hl 1 rfl) ?_
  refine lv_aload_n hx hb dL_law_1387 rfl (lv_at hl 0 rfl) ?_
  refine lv_iload_n hx hb dL_law_1388 rfl (lv_at hl 3 rfl) ?_
  refine lv_iconst (v := 1) hx hb dL_law_1389 (by decide) ?_
  refine lv_iadd hx hb dL_law_1390 ?_
  refine va_sld hx hb hX hbl (Nat.not_le.mpr hbl) hS (vp_j (j := 1) hi hL (by decide) rfl) dL_law_1391 ?_
  refine lv_aload_n hx hb dL_law_1392 rfl (lv_at hl 0 rfl) ?_
  refine lv_iload_n hx hb dL_law_1393 rfl (lv_at hl 3 rfl) ?_
  refine lv_iconst (v := 2) hx hb dL_law_1394 (by decide) ?_
  refine lv_iadd hx hb dL_law_1395 ?_
  refine va_sld hx hb hX hbl (Nat.not_le.mpr hbl) hS (vp_j (j := 2) hi hL (by decide) rfl) dL_law_1396 ?_
  refine lv_aload_n hx hb dL_law_1397 rfl (lv_at hl 0 rfl) ?_
  refine lv_iload_n hx hb dL_law_1398 rfl (lv_at hl 3 rfl) ?_
  refine lv_iconst (v := 3) hx hb dL_law_1399 (by decide) ?_
  refine lv_iadd hx hb dL_law_1400 ?_
  refine va_sld hx hb hX hbl (Nat.not_le.mpr hbl) hS (vp_j (j := 3) hi hL (by decide) rfl) dL_law_1401 ?_
  refine lawC (S := []) hx hb hml hown hg h hrel.1.1 hS hl.1 cpC dL_law_1402 rfl lkL_163 imX11_lay seX11_X11_lay_X11_lay mwX11_lay (by omega) (by omega) rfl (by decide) (fun sh2 mi2 mr2 H1 locs1 hRc h1 hS1 => ?_)
  refine lv_aload_n hx hb dL_law_1405 rfl (lv_at hl 2 rfl) ?_
  refine lv_aload_n hx hb dL_law_1406 rfl (lv_at hl 0 rfl) ?_
  refine lv_iload_n hx hb dL_law_1407 rfl (lv_at hl 3 rfl) ?_
  refine lv_iconst (v := 1) hx hb dL_law_1408 (by decide) ?_
  refine lv_iadd hx hb dL_law_1409 ?_
  refine va_sld hx hb hX hbl (Nat.not_le.mpr hbl) hS1 (vp_j (j := 1) hi hL (by decide) rfl) dL_law_1410 ?_
  refine lv_aload_n hx hb dL_law_1411 rfl (lv_at hl 0 rfl) ?_
  refine lv_iload_n hx hb dL_law_1412 rfl (lv_at hl 3 rfl) ?_
  refine lv_iconst (v := 2) hx hb dL_law_1413 (by decide) ?_
  refine lv_iadd hx hb dL_law_1414 ?_
  refine va_sld hx hb hX hbl (Nat.not_le.mpr hbl) hS1 (vp_j (j := 2) hi hL (by decide) rfl) dL_law_1415 ?_
  refine lv_aload_n hx hb dL_law_1416 rfl (lv_at hl 0 rfl) ?_
  refine lv_iload_n hx hb dL_law_1417 rfl (lv_at hl 3 rfl) ?_
  refine lv_iconst (v := 3) hx hb dL_law_1418 (by decide) ?_
  refine lv_iadd hx hb dL_law_1419 ?_
  refine va_sld hx hb hX hbl (Nat.not_le.mpr hbl) hS1 (vp_j (j := 3) hi hL (by decide) rfl) dL_law_1420 ?_
  refine lawM (S := [.int r]) hx hb hml hown hg h1 hS1 hl.1 cpM dL_law_1421 rfl lkL_166 imX12_lay seX12_X12_lay_X12_lay mwX12_lay (by omega) (by omega) rfl (Nat.le_of_ble_eq_true rfl) (fun M2 H2 locs2 hRm h2 hS2 => ?_)
  refine lv_icmp_eq (tgt := 1623) hx hb dL_law_1424 (by decide) (fun _ => ?_) (fun z => absurd rfl z)
  exact k sh2 mi2 mr2 M2 H2 locs2 _ _ (hfin sh2 mi2 mr2 M2 hRc hRm).1 h2 hS2 (by omega) (by omega)

theorem lo_ask (hx : p.tables.exec = Jvm.exec) (hb : c.code = code) (hml : c.maxLocals = 4) (hown : s.vm.findClass RL = some m.cls) (hg : LGr g s) (hX : va_X b L xs s s.heap) (hbl : b < s.heap.size) (hi : i + 6 ≤ L) (hL : L ≤ 3072) (hl : lv_has ls 4 [(0, .ref b), (1, .ref s.heap.size), (2, .ref (s.heap.size + 76)), (3, .int (nI i))]) (hrel : REL sh mi mr M Mr) (h : LSt g s.heap.size H sh mi mr M Mr) (hS : va_S (fun q => s.heap.size ≤ q) s.heap H locs) (hc : cells + 2 ≤ 600000) (hs : slots + 99 ≤ 7302250) (k : ∀ (sh2 : List Sh) (mi2 : MI) (mr2 : MR) (M2 : MI) (H1 : Heap) (locs1 : List Loc) (cells1 slots1 : Nat), REL sh2 mi2 mr2 M2 Mr → LSt g s.heap.size H1 sh2 mi2 mr2 M2 Mr → va_S (fun q => s.heap.size ≤ q) s.heap H1 locs1 → cells1 ≤ cells + 2 → slots1 ≤ slots + 99 → W p l e room_1 s m args below meth c H1 locs1 cells1 slots1 QQ (F0 m 1623 ls [])) : W p l e room_1 s m args below meth c H locs cells slots QQ (F0 m 1429 ls []) := by
  obtain ⟨r, Rc, Rm, mc, ms, ⟨hmc, hms⟩, cpC, cpM, hfin⟩ := sim_ask hrel (xs (nI i + 1).toNatClampNeg) (xs (nI i + 2).toNatClampNeg)
  refine lv_aload_n hx hb dL_law_1429 rfl (lv_at hl 1 rfl) ?_
  refine lv_aload_n hx hb dL_law_1430 rfl (lv_at hl 0 rfl) ?_
  refine lv_iload_n hx hb dL_law_1431 rfl (lv_at hl 3 rfl) ?_
  refine lv_iconst (v := 1) hx hb dL_law_1432 (by decide) ?_
  refine lv_iadd hx hb dL_law_1433 ?_
  refine va_sld hx hb hX hbl (Nat.not_le.mpr hbl) hS (vp_j (j := 1) hi hL (by decide) rfl) dL_law_1434 ?_
  refine lv_aload_n hx hb dL_law_1435 rfl (lv_at hl 0 rfl) ?_
  refine lv_iload_n hx hb dL_law_1436 rfl (lv_at hl 3 rfl) ?_
  refine lv_iconst (v := 2) hx hb dL_law_1437 (by decide) ?_
  refine lv_iadd hx hb dL_law_1438 ?_
  refine va_sld hx hb hX hbl (Nat.not_le.mpr hbl) hS (vp_j (j := 2) hi hL (by decide) rfl) dL_law_1439 ?_
  refine lawC (S := []) hx hb hml hown hg h hrel.1.1 hS hl.1 cpC dL_law_1440 rfl lkL_167 imX11_ask seX11_X11_ask_X11_ask mwX11_ask (by omega) (by omega) rfl (by decide) (fun sh2 mi2 mr2 H1 locs1 hRc h1 hS1 => ?_)
  refine lv_aload_n hx hb dL_law_1443 rfl (lv_at hl 2 rfl) ?_
  refine lv_aload_n hx hb dL_law_1444 rfl (lv_at hl 0 rfl) ?_
  refine lv_iload_n hx hb dL_law_1445 rfl (lv_at hl 3 rfl) ?_
  refine lv_iconst (v := 1) hx hb dL_law_1446 (by decide) ?_
  refine lv_iadd hx hb dL_law_1447 ?_
  refine va_sld hx hb hX hbl (Nat.not_le.mpr hbl) hS1 (vp_j (j := 1) hi hL (by decide) rfl) dL_law_1448 ?_
  refine lv_aload_n hx hb dL_law_1449 rfl (lv_at hl 0 rfl) ?_
  refine lv_iload_n hx hb dL_law_1450 rfl (lv_at hl 3 rfl) ?_
  refine lv_iconst (v := 2) hx hb dL_law_1451 (by decide) ?_
  refine lv_iadd hx hb dL_law_1452 ?_
  refine va_sld hx hb hX hbl (Nat.not_le.mpr hbl) hS1 (vp_j (j := 2) hi hL (by decide) rfl) dL_law_1453 ?_
  refine lawM (S := [.int r]) hx hb hml hown hg h1 hS1 hl.1 cpM dL_law_1454 rfl lkL_170 imX12_ask seX12_X12_ask_X12_ask mwX12_ask (by omega) (by omega) rfl (Nat.le_of_ble_eq_true rfl) (fun M2 H2 locs2 hRm h2 hS2 => ?_)
  refine lv_icmp_eq (tgt := 1623) hx hb dL_law_1457 (by decide) (fun _ => ?_) (fun z => absurd rfl z)
  exact k sh2 mi2 mr2 M2 H2 locs2 _ _ (hfin sh2 mi2 mr2 M2 hRc hRm).1 h2 hS2 (by omega) (by omega)

theorem lo_item (hx : p.tables.exec = Jvm.exec) (hb : c.code = code) (hml : c.maxLocals = 4) (hown : s.vm.findClass RL = some m.cls) (hg : LGr g s) (hX : va_X b L xs s s.heap) (hbl : b < s.heap.size) (hi : i + 6 ≤ L) (hL : L ≤ 3072) (hl : lv_has ls 4 [(0, .ref b), (1, .ref s.heap.size), (2, .ref (s.heap.size + 76)), (3, .int (nI i))]) (hrel : REL sh mi mr M Mr) (h : LSt g s.heap.size H sh mi mr M Mr) (hS : va_S (fun q => s.heap.size ≤ q) s.heap H locs) (hc : cells + 2 ≤ 600000) (hs : slots + 99 ≤ 7302250) (k : ∀ (sh2 : List Sh) (mi2 : MI) (mr2 : MR) (M2 : MI) (H1 : Heap) (locs1 : List Loc) (cells1 slots1 : Nat), REL sh2 mi2 mr2 M2 Mr → LSt g s.heap.size H1 sh2 mi2 mr2 M2 Mr → va_S (fun q => s.heap.size ≤ q) s.heap H1 locs1 → cells1 ≤ cells + 2 → slots1 ≤ slots + 99 → W p l e room_1 s m args below meth c H1 locs1 cells1 slots1 QQ (F0 m 1623 ls [])) : W p l e room_1 s m args below meth c H locs cells slots QQ (F0 m 1462 ls []) := by
  obtain ⟨r, Rc, Rm, mc, ms, ⟨hmc, hms⟩, cpC, cpM, hfin⟩ := sim_item hrel (xs (nI i + 1).toNatClampNeg) (xs (nI i + 2).toNatClampNeg)
  refine lv_aload_n hx hb dL_law_1462 rfl (lv_at hl 1 rfl) ?_
  refine lv_aload_n hx hb dL_law_1463 rfl (lv_at hl 0 rfl) ?_
  refine lv_iload_n hx hb dL_law_1464 rfl (lv_at hl 3 rfl) ?_
  refine lv_iconst (v := 1) hx hb dL_law_1465 (by decide) ?_
  refine lv_iadd hx hb dL_law_1466 ?_
  refine va_sld hx hb hX hbl (Nat.not_le.mpr hbl) hS (vp_j (j := 1) hi hL (by decide) rfl) dL_law_1467 ?_
  refine lv_aload_n hx hb dL_law_1468 rfl (lv_at hl 0 rfl) ?_
  refine lv_iload_n hx hb dL_law_1469 rfl (lv_at hl 3 rfl) ?_
  refine lv_iconst (v := 2) hx hb dL_law_1470 (by decide) ?_
  refine lv_iadd hx hb dL_law_1471 ?_
  refine va_sld hx hb hX hbl (Nat.not_le.mpr hbl) hS (vp_j (j := 2) hi hL (by decide) rfl) dL_law_1472 ?_
  refine lawC (S := []) hx hb hml hown hg h hrel.1.1 hS hl.1 cpC dL_law_1473 rfl lkL_171 imX11_item seX11_X11_item_X11_item mwX11_item (by omega) (by omega) rfl (by decide) (fun sh2 mi2 mr2 H1 locs1 hRc h1 hS1 => ?_)
  refine lv_aload_n hx hb dL_law_1476 rfl (lv_at hl 2 rfl) ?_
  refine lv_aload_n hx hb dL_law_1477 rfl (lv_at hl 0 rfl) ?_
  refine lv_iload_n hx hb dL_law_1478 rfl (lv_at hl 3 rfl) ?_
  refine lv_iconst (v := 1) hx hb dL_law_1479 (by decide) ?_
  refine lv_iadd hx hb dL_law_1480 ?_
  refine va_sld hx hb hX hbl (Nat.not_le.mpr hbl) hS1 (vp_j (j := 1) hi hL (by decide) rfl) dL_law_1481 ?_
  refine lv_aload_n hx hb dL_law_1482 rfl (lv_at hl 0 rfl) ?_
  refine lv_iload_n hx hb dL_law_1483 rfl (lv_at hl 3 rfl) ?_
  refine lv_iconst (v := 2) hx hb dL_law_1484 (by decide) ?_
  refine lv_iadd hx hb dL_law_1485 ?_
  refine va_sld hx hb hX hbl (Nat.not_le.mpr hbl) hS1 (vp_j (j := 2) hi hL (by decide) rfl) dL_law_1486 ?_
  refine lawM (S := [.int r]) hx hb hml hown hg h1 hS1 hl.1 cpM dL_law_1487 rfl lkL_174 imX12_item seX12_X12_item_X12_item mwX12_item (by omega) (by omega) rfl (Nat.le_of_ble_eq_true rfl) (fun M2 H2 locs2 hRm h2 hS2 => ?_)
  refine lv_icmp_eq (tgt := 1623) hx hb dL_law_1490 (by decide) (fun _ => ?_) (fun z => absurd rfl z)
  exact k sh2 mi2 mr2 M2 H2 locs2 _ _ (hfin sh2 mi2 mr2 M2 hRc hRm).1 h2 hS2 (by omega) (by omega)

theorem lo_rest (hx : p.tables.exec = Jvm.exec) (hb : c.code = code) (hml : c.maxLocals = 4) (hown : s.vm.findClass RL = some m.cls) (hg : LGr g s) (hX : va_X b L xs s s.heap) (hbl : b < s.heap.size) (hi : i + 6 ≤ L) (hL : L ≤ 3072) (hl : lv_has ls 4 [(0, .ref b), (1, .ref s.heap.size), (2, .ref (s.heap.size + 76)), (3, .int (nI i))]) (hrel : REL sh mi mr M Mr) (h : LSt g s.heap.size H sh mi mr M Mr) (hS : va_S (fun q => s.heap.size ≤ q) s.heap H locs) (hc : cells + 2 ≤ 600000) (hs : slots + 99 ≤ 7302250) (k : ∀ (sh2 : List Sh) (mi2 : MI) (mr2 : MR) (M2 : MI) (H1 : Heap) (locs1 : List Loc) (cells1 slots1 : Nat), REL sh2 mi2 mr2 M2 Mr → LSt g s.heap.size H1 sh2 mi2 mr2 M2 Mr → va_S (fun q => s.heap.size ≤ q) s.heap H1 locs1 → cells1 ≤ cells + 2 → slots1 ≤ slots + 99 → W p l e room_1 s m args below meth c H1 locs1 cells1 slots1 QQ (F0 m 1623 ls [])) : W p l e room_1 s m args below meth c H locs cells slots QQ (F0 m 1495 ls []) := by
  obtain ⟨r, Rc, Rm, mc, ms, ⟨hmc, hms⟩, cpC, cpM, hfin⟩ := sim_rest hrel (xs (nI i + 1).toNatClampNeg) (xs (nI i + 2).toNatClampNeg)
  refine lv_aload_n hx hb dL_law_1495 rfl (lv_at hl 1 rfl) ?_
  refine lv_aload_n hx hb dL_law_1496 rfl (lv_at hl 0 rfl) ?_
  refine lv_iload_n hx hb dL_law_1497 rfl (lv_at hl 3 rfl) ?_
  refine lv_iconst (v := 1) hx hb dL_law_1498 (by decide) ?_
  refine lv_iadd hx hb dL_law_1499 ?_
  refine va_sld hx hb hX hbl (Nat.not_le.mpr hbl) hS (vp_j (j := 1) hi hL (by decide) rfl) dL_law_1500 ?_
  refine lv_aload_n hx hb dL_law_1501 rfl (lv_at hl 0 rfl) ?_
  refine lv_iload_n hx hb dL_law_1502 rfl (lv_at hl 3 rfl) ?_
  refine lv_iconst (v := 2) hx hb dL_law_1503 (by decide) ?_
  refine lv_iadd hx hb dL_law_1504 ?_
  refine va_sld hx hb hX hbl (Nat.not_le.mpr hbl) hS (vp_j (j := 2) hi hL (by decide) rfl) dL_law_1505 ?_
  refine lawC (S := []) hx hb hml hown hg h hrel.1.1 hS hl.1 cpC dL_law_1506 rfl lkL_175 imX11_rest seX11_X11_rest_X11_rest mwX11_rest (by omega) (by omega) rfl (by decide) (fun sh2 mi2 mr2 H1 locs1 hRc h1 hS1 => ?_)
  refine lv_aload_n hx hb dL_law_1509 rfl (lv_at hl 2 rfl) ?_
  refine lv_aload_n hx hb dL_law_1510 rfl (lv_at hl 0 rfl) ?_
  refine lv_iload_n hx hb dL_law_1511 rfl (lv_at hl 3 rfl) ?_
  refine lv_iconst (v := 1) hx hb dL_law_1512 (by decide) ?_
  refine lv_iadd hx hb dL_law_1513 ?_
  refine va_sld hx hb hX hbl (Nat.not_le.mpr hbl) hS1 (vp_j (j := 1) hi hL (by decide) rfl) dL_law_1514 ?_
  refine lv_aload_n hx hb dL_law_1515 rfl (lv_at hl 0 rfl) ?_
  refine lv_iload_n hx hb dL_law_1516 rfl (lv_at hl 3 rfl) ?_
  refine lv_iconst (v := 2) hx hb dL_law_1517 (by decide) ?_
  refine lv_iadd hx hb dL_law_1518 ?_
  refine va_sld hx hb hX hbl (Nat.not_le.mpr hbl) hS1 (vp_j (j := 2) hi hL (by decide) rfl) dL_law_1519 ?_
  refine lawM (S := [.int r]) hx hb hml hown hg h1 hS1 hl.1 cpM dL_law_1520 rfl lkL_178 imX12_rest seX12_X12_rest_X12_rest mwX12_rest (by omega) (by omega) rfl (Nat.le_of_ble_eq_true rfl) (fun M2 H2 locs2 hRm h2 hS2 => ?_)
  refine lv_icmp_eq (tgt := 1623) hx hb dL_law_1523 (by decide) (fun _ => ?_) (fun z => absurd rfl z)
  exact k sh2 mi2 mr2 M2 H2 locs2 _ _ (hfin sh2 mi2 mr2 M2 hRc hRm).1 h2 hS2 (by omega) (by omega)

theorem lo_tell (hx : p.tables.exec = Jvm.exec) (hb : c.code = code) (hml : c.maxLocals = 4) (hown : s.vm.findClass RL = some m.cls) (hg : LGr g s) (hX : va_X b L xs s s.heap) (hbl : b < s.heap.size) (hi : i + 6 ≤ L) (hL : L ≤ 3072) (hl : lv_has ls 4 [(0, .ref b), (1, .ref s.heap.size), (2, .ref (s.heap.size + 76)), (3, .int (nI i))]) (hrel : REL sh mi mr M Mr) (h : LSt g s.heap.size H sh mi mr M Mr) (hS : va_S (fun q => s.heap.size ≤ q) s.heap H locs) (hc : cells + 2 ≤ 600000) (hs : slots + 99 ≤ 7302250) (k : ∀ (sh2 : List Sh) (mi2 : MI) (mr2 : MR) (M2 : MI) (H1 : Heap) (locs1 : List Loc) (cells1 slots1 : Nat), REL sh2 mi2 mr2 M2 Mr → LSt g s.heap.size H1 sh2 mi2 mr2 M2 Mr → va_S (fun q => s.heap.size ≤ q) s.heap H1 locs1 → cells1 ≤ cells + 2 → slots1 ≤ slots + 99 → W p l e room_1 s m args below meth c H1 locs1 cells1 slots1 QQ (F0 m 1623 ls [])) : W p l e room_1 s m args below meth c H locs cells slots QQ (F0 m 1528 ls []) := by
  obtain ⟨r, Rc, Rm, mc, ms, ⟨hmc, hms⟩, cpC, cpM, hfin⟩ := sim_tell hrel (xs (nI i + 1).toNatClampNeg)
  refine lv_aload_n hx hb dL_law_1528 rfl (lv_at hl 1 rfl) ?_
  refine lv_aload_n hx hb dL_law_1529 rfl (lv_at hl 0 rfl) ?_
  refine lv_iload_n hx hb dL_law_1530 rfl (lv_at hl 3 rfl) ?_
  refine lv_iconst (v := 1) hx hb dL_law_1531 (by decide) ?_
  refine lv_iadd hx hb dL_law_1532 ?_
  refine va_sld hx hb hX hbl (Nat.not_le.mpr hbl) hS (vp_j (j := 1) hi hL (by decide) rfl) dL_law_1533 ?_
  refine lawC (S := []) hx hb hml hown hg h hrel.1.1 hS hl.1 cpC dL_law_1534 rfl lkL_179 imX11_tell seX11_X11_tell_X11_tell mwX11_tell (by omega) (by omega) rfl (by decide) (fun sh2 mi2 mr2 H1 locs1 hRc h1 hS1 => ?_)
  refine lv_aload_n hx hb dL_law_1537 rfl (lv_at hl 2 rfl) ?_
  refine lv_aload_n hx hb dL_law_1538 rfl (lv_at hl 0 rfl) ?_
  refine lv_iload_n hx hb dL_law_1539 rfl (lv_at hl 3 rfl) ?_
  refine lv_iconst (v := 1) hx hb dL_law_1540 (by decide) ?_
  refine lv_iadd hx hb dL_law_1541 ?_
  refine va_sld hx hb hX hbl (Nat.not_le.mpr hbl) hS1 (vp_j (j := 1) hi hL (by decide) rfl) dL_law_1542 ?_
  refine lawM (S := [.int r]) hx hb hml hown hg h1 hS1 hl.1 cpM dL_law_1543 rfl lkL_182 imX12_tell seX12_X12_tell_X12_tell mwX12_tell (by omega) (by omega) rfl (Nat.le_of_ble_eq_true rfl) (fun M2 H2 locs2 hRm h2 hS2 => ?_)
  refine lv_icmp_eq (tgt := 1623) hx hb dL_law_1546 (by decide) (fun _ => ?_) (fun z => absurd rfl z)
  exact k sh2 mi2 mr2 M2 H2 locs2 _ _ (hfin sh2 mi2 mr2 M2 hRc hRm).1 h2 hS2 (by omega) (by omega)

theorem lo_check (hx : p.tables.exec = Jvm.exec) (hb : c.code = code) (hml : c.maxLocals = 4) (hown : s.vm.findClass RL = some m.cls) (hg : LGr g s) (hX : va_X b L xs s s.heap) (hbl : b < s.heap.size) (hi : i + 6 ≤ L) (hL : L ≤ 3072) (hl : lv_has ls 4 [(0, .ref b), (1, .ref s.heap.size), (2, .ref (s.heap.size + 76)), (3, .int (nI i))]) (hrel : REL sh mi mr M Mr) (h : LSt g s.heap.size H sh mi mr M Mr) (hS : va_S (fun q => s.heap.size ≤ q) s.heap H locs) (hc : cells + 2 ≤ 600000) (hs : slots + 99 ≤ 7302250) (k : ∀ (sh2 : List Sh) (mi2 : MI) (mr2 : MR) (M2 : MI) (H1 : Heap) (locs1 : List Loc) (cells1 slots1 : Nat), REL sh2 mi2 mr2 M2 Mr → LSt g s.heap.size H1 sh2 mi2 mr2 M2 Mr → va_S (fun q => s.heap.size ≤ q) s.heap H1 locs1 → cells1 ≤ cells + 2 → slots1 ≤ slots + 99 → W p l e room_1 s m args below meth c H1 locs1 cells1 slots1 QQ (F0 m 1623 ls [])) : W p l e room_1 s m args below meth c H locs cells slots QQ (F0 m 1551 ls []) := by
  obtain ⟨r, Rc, Rm, mc, ms, ⟨hmc, hms⟩, cpC, cpM, hfin⟩ := sim_check hrel (xs (nI i + 1).toNatClampNeg)
  refine lv_aload_n hx hb dL_law_1551 rfl (lv_at hl 1 rfl) ?_
  refine lv_aload_n hx hb dL_law_1552 rfl (lv_at hl 0 rfl) ?_
  refine lv_iload_n hx hb dL_law_1553 rfl (lv_at hl 3 rfl) ?_
  refine lv_iconst (v := 1) hx hb dL_law_1554 (by decide) ?_
  refine lv_iadd hx hb dL_law_1555 ?_
  refine va_sld hx hb hX hbl (Nat.not_le.mpr hbl) hS (vp_j (j := 1) hi hL (by decide) rfl) dL_law_1556 ?_
  refine lawC (S := []) hx hb hml hown hg h hrel.1.1 hS hl.1 cpC dL_law_1557 rfl lkL_183 imX11_check seX11_X11_check_X11_check mwX11_check (by omega) (by omega) rfl (by decide) (fun sh2 mi2 mr2 H1 locs1 hRc h1 hS1 => ?_)
  refine lv_aload_n hx hb dL_law_1560 rfl (lv_at hl 2 rfl) ?_
  refine lv_aload_n hx hb dL_law_1561 rfl (lv_at hl 0 rfl) ?_
  refine lv_iload_n hx hb dL_law_1562 rfl (lv_at hl 3 rfl) ?_
  refine lv_iconst (v := 1) hx hb dL_law_1563 (by decide) ?_
  refine lv_iadd hx hb dL_law_1564 ?_
  refine va_sld hx hb hX hbl (Nat.not_le.mpr hbl) hS1 (vp_j (j := 1) hi hL (by decide) rfl) dL_law_1565 ?_
  refine lawM (S := [.int r]) hx hb hml hown hg h1 hS1 hl.1 cpM dL_law_1566 rfl lkL_186 imX12_check seX12_X12_check_X12_check mwX12_check (by omega) (by omega) rfl (Nat.le_of_ble_eq_true rfl) (fun M2 H2 locs2 hRm h2 hS2 => ?_)
  refine lv_icmp_eq (tgt := 1623) hx hb dL_law_1569 (by decide) (fun _ => ?_) (fun z => absurd rfl z)
  exact k sh2 mi2 mr2 M2 H2 locs2 _ _ (hfin sh2 mi2 mr2 M2 hRc hRm).1 h2 hS2 (by omega) (by omega)

theorem lo_keep (hx : p.tables.exec = Jvm.exec) (hb : c.code = code) (hml : c.maxLocals = 4) (hown : s.vm.findClass RL = some m.cls) (hg : LGr g s) (hX : va_X b L xs s s.heap) (hbl : b < s.heap.size) (hi : i + 6 ≤ L) (hL : L ≤ 3072) (hl : lv_has ls 4 [(0, .ref b), (1, .ref s.heap.size), (2, .ref (s.heap.size + 76)), (3, .int (nI i))]) (hrel : REL sh mi mr M Mr) (h : LSt g s.heap.size H sh mi mr M Mr) (hS : va_S (fun q => s.heap.size ≤ q) s.heap H locs) (hc : cells + 2 ≤ 600000) (hs : slots + 99 ≤ 7302250) (k : ∀ (sh2 : List Sh) (mi2 : MI) (mr2 : MR) (M2 : MI) (H1 : Heap) (locs1 : List Loc) (cells1 slots1 : Nat), REL sh2 mi2 mr2 M2 Mr → LSt g s.heap.size H1 sh2 mi2 mr2 M2 Mr → va_S (fun q => s.heap.size ≤ q) s.heap H1 locs1 → cells1 ≤ cells + 2 → slots1 ≤ slots + 99 → W p l e room_1 s m args below meth c H1 locs1 cells1 slots1 QQ (F0 m 1623 ls [])) : W p l e room_1 s m args below meth c H locs cells slots QQ (F0 m 1574 ls []) := by
  obtain ⟨r, Rc, Rm, mc, ms, ⟨hmc, hms⟩, cpC, cpM, hfin⟩ := sim_keep hrel 
  refine lv_aload_n hx hb dL_law_1574 rfl (lv_at hl 1 rfl) ?_
  refine lawC (S := []) hx hb hml hown hg h hrel.1.1 hS hl.1 cpC dL_law_1575 rfl lkL_187 imX11_keep seX11_X11_keep_X11_keep mwX11_keep (by omega) (by omega) rfl (by decide) (fun sh2 mi2 mr2 H1 locs1 hRc h1 hS1 => ?_)
  refine lv_aload_n hx hb dL_law_1578 rfl (lv_at hl 2 rfl) ?_
  refine lawM (S := [.int r]) hx hb hml hown hg h1 hS1 hl.1 cpM dL_law_1579 rfl lkL_190 imX12_keep seX12_X12_keep_X12_keep mwX12_keep (by omega) (by omega) rfl (Nat.le_of_ble_eq_true rfl) (fun M2 H2 locs2 hRm h2 hS2 => ?_)
  refine lv_icmp_eq (tgt := 1623) hx hb dL_law_1582 (by decide) (fun _ => ?_) (fun z => absurd rfl z)
  exact k sh2 mi2 mr2 M2 H2 locs2 _ _ (hfin sh2 mi2 mr2 M2 hRc hRm).1 h2 hS2 (by omega) (by omega)

theorem lo_back (hx : p.tables.exec = Jvm.exec) (hb : c.code = code) (hml : c.maxLocals = 4) (hown : s.vm.findClass RL = some m.cls) (hg : LGr g s) (hX : va_X b L xs s s.heap) (hbl : b < s.heap.size) (hi : i + 6 ≤ L) (hL : L ≤ 3072) (hl : lv_has ls 4 [(0, .ref b), (1, .ref s.heap.size), (2, .ref (s.heap.size + 76)), (3, .int (nI i))]) (hrel : REL sh mi mr M Mr) (h : LSt g s.heap.size H sh mi mr M Mr) (hS : va_S (fun q => s.heap.size ≤ q) s.heap H locs) (hc : cells + 2 ≤ 600000) (hs : slots + 99 ≤ 7302250) (k : ∀ (sh2 : List Sh) (mi2 : MI) (mr2 : MR) (M2 : MI) (H1 : Heap) (locs1 : List Loc) (cells1 slots1 : Nat), REL sh2 mi2 mr2 M2 Mr → LSt g s.heap.size H1 sh2 mi2 mr2 M2 Mr → va_S (fun q => s.heap.size ≤ q) s.heap H1 locs1 → cells1 ≤ cells + 2 → slots1 ≤ slots + 99 → W p l e room_1 s m args below meth c H1 locs1 cells1 slots1 QQ (F0 m 1623 ls [])) : W p l e room_1 s m args below meth c H locs cells slots QQ (F0 m 1587 ls []) := by
  obtain ⟨r, Rc, Rm, mc, ms, ⟨hmc, hms⟩, cpC, cpM, hfin⟩ := sim_back hrel 
  refine lv_aload_n hx hb dL_law_1587 rfl (lv_at hl 1 rfl) ?_
  refine lawC (S := []) hx hb hml hown hg h hrel.1.1 hS hl.1 cpC dL_law_1588 rfl lkL_191 imX11_back seX11_X11_back_X11_back mwX11_back (by omega) (by omega) rfl (by decide) (fun sh2 mi2 mr2 H1 locs1 hRc h1 hS1 => ?_)
  refine lv_aload_n hx hb dL_law_1591 rfl (lv_at hl 2 rfl) ?_
  refine lawM (S := [.int r]) hx hb hml hown hg h1 hS1 hl.1 cpM dL_law_1592 rfl lkL_194 imX12_back seX12_X12_back_X12_back mwX12_back (by omega) (by omega) rfl (Nat.le_of_ble_eq_true rfl) (fun M2 H2 locs2 hRm h2 hS2 => ?_)
  refine lv_icmp_eq (tgt := 1623) hx hb dL_law_1595 (by decide) (fun _ => ?_) (fun z => absurd rfl z)
  exact k sh2 mi2 mr2 M2 H2 locs2 _ _ (hfin sh2 mi2 mr2 M2 hRc hRm).1 h2 hS2 (by omega) (by omega)

theorem lo_count (hx : p.tables.exec = Jvm.exec) (hb : c.code = code) (hml : c.maxLocals = 4) (hown : s.vm.findClass RL = some m.cls) (hg : LGr g s) (hX : va_X b L xs s s.heap) (hbl : b < s.heap.size) (hi : i + 6 ≤ L) (hL : L ≤ 3072) (hl : lv_has ls 4 [(0, .ref b), (1, .ref s.heap.size), (2, .ref (s.heap.size + 76)), (3, .int (nI i))]) (hrel : REL sh mi mr M Mr) (h : LSt g s.heap.size H sh mi mr M Mr) (hS : va_S (fun q => s.heap.size ≤ q) s.heap H locs) (hc : cells + 2 ≤ 600000) (hs : slots + 99 ≤ 7302250) (k : ∀ (sh2 : List Sh) (mi2 : MI) (mr2 : MR) (M2 : MI) (H1 : Heap) (locs1 : List Loc) (cells1 slots1 : Nat), REL sh2 mi2 mr2 M2 Mr → LSt g s.heap.size H1 sh2 mi2 mr2 M2 Mr → va_S (fun q => s.heap.size ≤ q) s.heap H1 locs1 → cells1 ≤ cells + 2 → slots1 ≤ slots + 99 → W p l e room_1 s m args below meth c H1 locs1 cells1 slots1 QQ (F0 m 1623 ls [])) : W p l e room_1 s m args below meth c H locs cells slots QQ (F0 m 1600 ls []) := by
  obtain ⟨r, Rc, Rm, mc, ms, ⟨hmc, hms⟩, cpC, cpM, hfin⟩ := sim_count hrel (xs (nI i + 1).toNatClampNeg)
  refine lv_aload_n hx hb dL_law_1600 rfl (lv_at hl 1 rfl) ?_
  refine lv_aload_n hx hb dL_law_1601 rfl (lv_at hl 0 rfl) ?_
  refine lv_iload_n hx hb dL_law_1602 rfl (lv_at hl 3 rfl) ?_
  refine lv_iconst (v := 1) hx hb dL_law_1603 (by decide) ?_
  refine lv_iadd hx hb dL_law_1604 ?_
  refine va_sld hx hb hX hbl (Nat.not_le.mpr hbl) hS (vp_j (j := 1) hi hL (by decide) rfl) dL_law_1605 ?_
  refine lawC (S := []) hx hb hml hown hg h hrel.1.1 hS hl.1 cpC dL_law_1606 rfl lkL_195 imX11_count seX11_X11_count_X11_count mwX11_count (by omega) (by omega) rfl (by decide) (fun sh2 mi2 mr2 H1 locs1 hRc h1 hS1 => ?_)
  refine lv_aload_n hx hb dL_law_1609 rfl (lv_at hl 2 rfl) ?_
  refine lv_aload_n hx hb dL_law_1610 rfl (lv_at hl 0 rfl) ?_
  refine lv_iload_n hx hb dL_law_1611 rfl (lv_at hl 3 rfl) ?_
  refine lv_iconst (v := 1) hx hb dL_law_1612 (by decide) ?_
  refine lv_iadd hx hb dL_law_1613 ?_
  refine va_sld hx hb hX hbl (Nat.not_le.mpr hbl) hS1 (vp_j (j := 1) hi hL (by decide) rfl) dL_law_1614 ?_
  refine lawM (S := [.int r]) hx hb hml hown hg h1 hS1 hl.1 cpM dL_law_1615 rfl lkL_198 imX12_count seX12_X12_count_X12_count mwX12_count (by omega) (by omega) rfl (Nat.le_of_ble_eq_true rfl) (fun M2 H2 locs2 hRm h2 hS2 => ?_)
  refine lv_icmp_eq (tgt := 1623) hx hb dL_law_1618 (by decide) (fun _ => ?_) (fun z => absurd rfl z)
  exact k sh2 mi2 mr2 M2 H2 locs2 _ _ (hfin sh2 mi2 mr2 M2 hRc hRm).1 h2 hS2 (by omega) (by omega)

end
