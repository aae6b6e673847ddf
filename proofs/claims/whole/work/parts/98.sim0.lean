/-! THE CLASS AND THE MODEL SIDE BY SIDE -/
theorem CP.imp {d : Nat} {μ : Mt} {as : List Value} {sh : List Sh} {mi : MI} {mr : MR} {mc ms : Nat} {Q Q2 : QT} (h : CP d μ as sh mi mr mc ms Q) (hq : ∀ v sh2 mi2 mr2, Q v sh2 mi2 mr2 → Q2 v sh2 mi2 mr2) : CP d μ as sh mi mr mc ms Q2 := by
  intro l E hE
  refine Jvm.Free.MetFree.mono (h l E hE) (fun _ _ h => h) (fun _ _ _ _ _ h => h) (fun a s o t _ hQ => ?_)
  obtain ⟨⟨⟨v, sh2, mi2, mr2, e1, e2, e3⟩, h2⟩, h3⟩ := hQ
  exact ⟨⟨⟨v, sh2, mi2, mr2, e1, hq _ _ _ _ e2, e3⟩, h2⟩, h3⟩
def SQ (r : Int32) (R : List Sh → MI → MR → Prop) : QT := fun v sh2 mi2 mr2 => v = some (.int r) ∧ R sh2 mi2 mr2
def RelI (sh : List Sh) (mi : MI) (mr : MR) (M : MI) : Prop := mi 0 4 = M 0 3 ∧ (M 0 3 = 0 ∨ (M 0 3 = 1 ∧ ∃ n m p q, RT sh mi mr 20 (M 2) n m p q ∧ Inv (M 2) n m p q))
def RelP (mi M : MI) : Prop := mi 48 1 = M 0 17 ∧ mi 49 = M 13 ∧ ∃ tp, tp ≤ 96 ∧ M 0 17 = nI tp
def RelG (mi M : MI) : Prop := ∀ k, k < 4 → (mi (53 + 2 * k) 0 = M 4 k ∧ mi (53 + 2 * k) 1 = M 5 k ∧ ∀ j, j < 24 → mi (54 + 2 * k) j = M 6 (24 * k + j)) ∧ (M 4 k = -1 ∨ M 4 k = 0 ∨ M 4 k = 1) ∧ (∃ z, z ≤ 24 ∧ M 5 k = nI z) ∧ ∀ j, j < 24 → M 6 (24 * k + j) = NONEc ∨ inB (M 6 (24 * k + j)) (-99999) 99999 = true
def RelU (mi M : MI) : Prop := ∀ u, u < 5 → mi 61 u = M 7 u ∧ (M 7 u = 1 → mi 62 u = M 8 u ∧ M 9 u = wthK (mi 62 u) (mi 63 u) ∧ ∃ kk, kk < 6 ∧ mi 62 u = nI kk) ∧ (M 7 u = 2 → mi (65 + 2 * u) 1 = M 10 u ∧ (∃ z, z ≤ 24 ∧ M 10 u = nI z) ∧ ∀ j, j < 24 → mi (66 + 2 * u) j = M 11 (24 * u + j)) ∧ (M 7 u = 3 → mi 63 u = M 8 u)
def RelW (mi M : MI) : Prop := mi 0 13 = M 0 32 ∧ mi 75 = M 17 ∧ ∃ w, w ≤ 60 ∧ M 0 32 = nI w
def RelT (sh : List Sh) (mi : MI) (mr : MR) (M : MI) : Prop := ∃ n m p q, RT sh mi mr 8 (M 1) n m p q ∧ Inv (M 1) n m p q
/-- what ties the class's world to the model's -/
def REL (sh : List Sh) (mi : MI) (mr : MR) (M : MI) (Mr : MR) : Prop := (SHC sh ∧ CB mr ∧ MB Mr) ∧ (TxR sh mr 8 ∧ TxR sh mr 20) ∧ RelT sh mi mr M ∧ RelI sh mi mr M ∧ RelP mi M ∧ RelG mi M ∧ RelU mi M ∧ RelW mi M
def SimAt (sh : List Sh) (mi : MI) (mr : MR) (M : MI) (Mr : MR) (yc ym : Mt) (as : List Value) : Prop := ∃ (r : Int32) (Rc : List Sh → MI → MR → Prop) (Rm : MI → Prop) (mc ms : Nat), (mc ≤ 2 ∧ ms ≤ 99) ∧ CP 1200 yc (.ref 0 :: as) sh mi mr mc ms (SQ r Rc) ∧ CP 1200 ym (.ref 0 :: as) shM M Mr 0 0 (SQ r (fun sh2 M2 Mr2 => sh2 = shM ∧ Mr2 = Mr ∧ Rm M2)) ∧ ∀ sh2 mi2 mr2 M2, Rc sh2 mi2 mr2 → Rm M2 → REL sh2 mi2 mr2 M2 Mr ∧ sh2.length ≤ sh.length + 2
/-- the rows of the class that are not the town's -/
def FrC (mi mi2 : MI) : Prop := ∀ x, x = 0 ∨ (20 ≤ x ∧ x ≤ 30) ∨ (48 ≤ x ∧ x ≠ 50 ∧ x ≠ 51) → mi2 x = mi x
def FrM (M M2 : MI) : Prop := (∀ a, a = 2 ∨ (4 ≤ a ∧ a ≤ 11) ∨ a = 13 ∨ a = 17 → M2 a = M a) ∧ M2 0 3 = M 0 3 ∧ M2 0 17 = M 0 17 ∧ M2 0 32 = M 0 32
def MrL (mr mr2 : MR) : Prop := mr2 = mr ∨ mr2 = upR mr 44 0 (some 8)
section
variable {sh sh2 : List Sh} {mi mi2 : MI} {mr mr2 : MR} {M M2 : MI} {Mr : MR} {yc ym : Mt} {as : List Value} {R : Int32}
theorem MrL.cb (h : MrL mr mr2) (hB : CB mr) : CB mr2 := by
  rcases h with rfl | rfl
  · exact hB
  · exact lk_B hB
theorem MrL.ne (h : MrL mr mr2) {x : Nat} (hx : x ≠ 44) : mr2 x = mr x := by
  rcases h with rfl | rfl
  · rfl
  · exact upR_ne hx
theorem MrL.tx (h : MrL mr mr2) {b : Nat} (hb : b + 9 ≠ 44) (h2 : TxR sh mr b) : TxR sh mr2 b := fun t ht a ha => by
  rw [h.ne hb] at ha
  exact h2 t ht a ha
theorem RT.mvq {b : Nat} {s : Rw} {n m p q : Nat} (h : RT sh mi mr b s n m p q) (hI : Inv s n m p q) (hb : b + 9 ≠ 44) (hm : MrL mr mr2) (h1 : ∀ x, b ≤ x → x ≤ b + 10 → mi2 x = mi x) (h2 : ∀ x, 76 ≤ x → mi2 x = mi x) : RT sh mi2 mr2 b s n m p q :=
  h.mv2 hI h1 (hm.ne hb) (fun _ _ h => h) (fun x hx _ => ⟨h2 x hx, hm.ne (by omega)⟩)
/-- the town alone changed -/
theorem REL.town (h : REL sh mi mr M Mr) (hc : FrC mi mi2) (hm : FrM M M2) (hr : MrL mr mr2) {n m p q : Nat} (hR : RT sh mi2 mr2 8 (M2 1) n m p q) (hI : Inv (M2 1) n m p q) : REL sh mi2 mr2 M2 Mr := by
  obtain ⟨⟨a1, a2, a3⟩, ⟨b1, b2⟩, -, ⟨d1, d2⟩, ⟨e1, e2, e3⟩, f, g, ⟨k1, k2, k3⟩⟩ := h
  obtain ⟨m1, m2, m3, m4⟩ := hm
  refine ⟨⟨a1, hr.cb a2, a3⟩, ⟨hr.tx (by decide) b1, hr.tx (by decide) b2⟩, ⟨n, m, p, q, hR, hI⟩, ⟨by rw [hc 0 (by omega), m2]; exact d1, ?_⟩, ⟨by rw [hc 48 (by omega), m3]; exact e1, by rw [hc 49 (by omega), m1 13 (by omega)]; exact e2, by rw [m3]; exact e3⟩, ?_, ?_, ⟨by rw [hc 0 (by omega), m4]; exact k1, by rw [hc 75 (by omega), m1 17 (by omega)]; exact k2, by rw [m4]; exact k3⟩⟩
  · rw [m2, m1 2 (by omega)]
    rcases d2 with z | ⟨z, n2, m2, p2, q2, r1, r2⟩
    · exact Or.inl z
    · exact Or.inr ⟨z, n2, m2, p2, q2, r1.mvq r2 (by decide) hr (fun x h1 h2 => hc x (by omega)) (fun x hx => hc x (by omega)), r2⟩
  · intro k hk
    rw [hc (53 + 2 * k) (by omega), hc (54 + 2 * k) (by omega), m1 4 (by omega), m1 5 (by omega), m1 6 (by omega)]
    exact f k hk
  · intro u hu
    rw [hc 61 (by omega), hc 62 (by omega), hc 63 (by omega), hc (65 + 2 * u) (by omega), hc (66 + 2 * u) (by omega), m1 7 (by omega), m1 8 (by omega), m1 9 (by omega), m1 10 (by omega), m1 11 (by omega)]
    exact g u hu
/-- nothing changed that counts -/
theorem REL.ask (h : REL sh mi mr M Mr) (hc : WF mi mi2) (hm : FrM M M2) (h1 : M2 1 = M 1) (hr : MrL mr mr2) : REL sh mi2 mr2 M2 Mr := by
  obtain ⟨n, m, p, q, r1, r2⟩ := h.2.2.1
  refine h.town (fun x hx => hc x (by omega) (by omega) (by omega) (by omega)) hm hr (n := n) (m := m) (p := p) (q := q) ?_ ?_
  · rw [h1]
    exact r1.mvq r2 (by decide) hr (fun x h1 h2 => hc x (by omega) (by omega) (by omega) (by omega)) (fun x hx => hc x (by omega) (by omega) (by omega) (by omega))
  · rw [h1]; exact r2
theorem FrM.rf (M : MI) : FrM M M := ⟨fun _ _ => rfl, rfl, rfl, rfl⟩
theorem SB.fm (h : SB M M2) : FrM M M2 ∧ M2 1 = M 1 := ⟨⟨fun a ha => h a (by omega) (by omega), by rw [h 0 (by decide) (by decide)], by rw [h 0 (by decide) (by decide)], by rw [h 0 (by decide) (by decide)]⟩, h 1 (by decide) (by decide)⟩
theorem SF.fm (h : SF M M2) : FrM M M2 ∧ M2 1 = M 1 := ⟨⟨fun a ha => h a (by omega) (by omega) (by omega), by rw [h 0 (by decide) (by decide) (by decide)], by rw [h 0 (by decide) (by decide) (by decide)], by rw [h 0 (by decide) (by decide) (by decide)]⟩, h 1 (by decide) (by decide) (by decide)⟩
theorem SH.fm (h : SH M M2 (M 1)) : FrM M M2 ∧ M2 1 = M 1 := ⟨⟨fun a ha => h.2.1 a (by omega) (by omega) (by omega) (by omega), h.2.2 3 (by decide) (by decide) (by decide), h.2.2 17 (by decide) (by decide) (by decide), h.2.2 32 (by decide) (by decide) (by decide)⟩, h.1⟩
theorem SR.fm {s2 : Rw} (h : SR M M2 s2) : FrM M M2 ∧ M2 1 = s2 := ⟨⟨fun a ha => h.2 a (by omega) (by omega) (by omega), by rw [h.2 0 (by decide) (by decide) (by decide)], by rw [h.2 0 (by decide) (by decide) (by decide)], by rw [h.2 0 (by decide) (by decide) (by decide)]⟩, h.1⟩
theorem FrM.up {k : Nat} {v : Int32} (h : FrM M M2) : FrM M (upI M2 1 k v) := ⟨fun a ha => by rw [upI_ne (by omega)]; exact h.1 a ha, by rw [upI_ne (by decide)]; exact h.2.1, by rw [upI_ne (by decide)]; exact h.2.2.1, by rw [upI_ne (by decide)]; exact h.2.2.2⟩
/-- both answer, nothing changes -/
theorem sim_i (h : REL sh mi mr M Mr) (hc : CP 1200 yc (.ref 0 :: as) sh mi mr 0 0 (PI R sh mi mr)) (hm : CP 1200 ym (.ref 0 :: as) shM M Mr 0 0 (PI R shM M Mr)) : SimAt sh mi mr M Mr yc ym as :=
  ⟨R, fun sh2 mi2 mr2 => sh2 = sh ∧ mi2 = mi ∧ mr2 = mr, fun M2 => M2 = M, 0, 0, ⟨by decide, by decide⟩, hc, hm.imp (fun v sh2 mi2 mr2 z => ⟨z.1, z.2.1, z.2.2.2, z.2.2.1⟩), by
    rintro sh2 mi2 mr2 M2 ⟨rfl, rfl, rfl⟩ rfl
    exact ⟨h, by omega⟩⟩
/-- both answer, each as it says -/
theorem sim_x {G : MI → Prop} {H : MI → Prop} (hc : CP 1200 yc (.ref 0 :: as) sh mi mr 0 0 (PX sh mr (fun r mi2 => r = R ∧ G mi2))) (hm : CP 1200 ym (.ref 0 :: as) shM M Mr 0 0 (PX shM Mr (fun r mi2 => r = R ∧ H mi2))) (h : ∀ mi2 M2, G mi2 → H M2 → REL sh mi2 mr M2 Mr) : SimAt sh mi mr M Mr yc ym as :=
  ⟨R, fun sh2 mi2 mr2 => sh2 = sh ∧ mr2 = mr ∧ G mi2, H, 0, 0, ⟨by decide, by decide⟩, hc.imp (fun v sh2 mi2 mr2 z => by obtain ⟨r, e1, e2, e3, e4, e5⟩ := z; exact ⟨by rw [e1, e4], e2, e3, e5⟩), hm.imp (fun v sh2 mi2 mr2 z => by obtain ⟨r, e1, e2, e3, e4, e5⟩ := z; exact ⟨by rw [e1, e4], e2, e3, e5⟩), by
    rintro sh2 mi2 mr2 M2 ⟨rfl, rfl, g⟩ h2
    exact ⟨h mi2 M2 g h2, by omega⟩⟩
theorem sim_y {G : List Sh → MI → MR → Prop} {H : MI → Prop} (hc : CP 1200 yc (.ref 0 :: as) sh mi mr 0 0 (PY (fun r sh2 mi2 mr2 => r = R ∧ sh2 = sh ∧ G sh2 mi2 mr2))) (hm : CP 1200 ym (.ref 0 :: as) shM M Mr 0 0 (PX shM Mr (fun r mi2 => r = R ∧ H mi2))) (h : ∀ mi2 mr2 M2, G sh mi2 mr2 → H M2 → REL sh mi2 mr2 M2 Mr) : SimAt sh mi mr M Mr yc ym as :=
  ⟨R, fun sh2 mi2 mr2 => sh2 = sh ∧ G sh2 mi2 mr2, H, 0, 0, ⟨by decide, by decide⟩, hc.imp (fun v sh2 mi2 mr2 z => by obtain ⟨r, e1, e4, e5⟩ := z; exact ⟨by rw [e1, e4], e5⟩), hm.imp (fun v sh2 mi2 mr2 z => by obtain ⟨r, e1, e2, e3, e4, e5⟩ := z; exact ⟨by rw [e1, e4], e2, e3, e5⟩), by
    rintro sh2 mi2 mr2 M2 ⟨rfl, g⟩ h2
    exact ⟨h mi2 mr2 M2 g h2, by omega⟩⟩
/-- a question of the town, by the class's stack -/
theorem sim_s {H : MI → Prop} (hrel : REL sh mi mr M Mr) (hc : CP 1200 yc (.ref 0 :: as) sh mi mr 0 0 (PX sh mr (fun r mi2 => r = R ∧ SP 19 mi mi2))) (hm : CP 1200 ym (.ref 0 :: as) shM M Mr 0 0 (PX shM Mr (fun r mi2 => r = R ∧ H mi2))) (hH : ∀ M2, H M2 → FrM M M2 ∧ M2 1 = M 1) : SimAt sh mi mr M Mr yc ym as :=
  sim_x hc hm (fun mi2 M2 g h2 => hrel.ask g.w19 (hH M2 h2).1 (hH M2 h2).2 (Or.inl rfl))
/-- a question of the ways -/
theorem sim_w {H : MI → Prop} (hrel : REL sh mi mr M Mr) (hc : CP 1200 yc (.ref 0 :: as) sh mi mr 0 0 (WY sh mi mr R)) (hm : CP 1200 ym (.ref 0 :: as) shM M Mr 0 0 (PX shM Mr (fun r mi2 => r = R ∧ H mi2))) (hH : ∀ M2, H M2 → FrM M M2 ∧ M2 1 = M 1) : SimAt sh mi mr M Mr yc ym as :=
  sim_y (G := fun _ mi2 mr2 => mr2 = upR mr 44 0 (some 8) ∧ WF mi mi2) hc hm (fun mi2 mr2 M2 g h2 => hrel.ask g.2 (hH M2 h2).1 (hH M2 h2).2 (Or.inr g.1))
/-- a change of the town -/
theorem sim_t {G : MI → Prop} {s2 : Rw} {n m p q : Nat} (hrel : REL sh mi mr M Mr) (hc : CP 1200 yc (.ref 0 :: as) sh mi mr 0 0 (PX sh mr (fun r mi2 => r = R ∧ G mi2))) (hm : CP 1200 ym (.ref 0 :: as) shM M Mr 0 0 (PX shM Mr (fun r mi2 => r = R ∧ FrM M mi2 ∧ mi2 1 = s2))) (h : ∀ mi2, G mi2 → FrC mi mi2 ∧ RT sh mi2 mr 8 s2 n m p q) (hI : Inv s2 n m p q) : SimAt sh mi mr M Mr yc ym as :=
  sim_x hc hm (fun mi2 M2 g h2 => by
    obtain ⟨h3, h4⟩ := h mi2 g
    exact hrel.town h3 h2.1 (Or.inl rfl) (by rw [h2.2]; exact h4) (by rw [h2.2]; exact hI))
end
