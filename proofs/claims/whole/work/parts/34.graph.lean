def bt (x : Int32) (i : Nat) : Bool := x.toBitVec.getLsbD i
theorem b_ext {x y : Int32} (h : ∀ i, i < 32 → bt x i = bt y i) : x = y := Int32.toBitVec_inj.mp (BitVec.eq_of_getLsbD_eq (fun i hi => h i hi))
theorem b_or (x y : Int32) (i : Nat) : bt (x ||| y) i = (bt x i || bt y i) := by unfold bt; rw [Int32.toBitVec_or, BitVec.getLsbD_or]
theorem b_and (x y : Int32) (i : Nat) : bt (x &&& y) i = (bt x i && bt y i) := by unfold bt; rw [Int32.toBitVec_and, BitVec.getLsbD_and]
theorem b_xor (x y : Int32) (i : Nat) : bt (x ^^^ y) i = (bt x i ^^ bt y i) := by unfold bt; rw [Int32.toBitVec_xor, BitVec.getLsbD_xor]
theorem b_big {x : Int32} {i : Nat} (h : 32 ≤ i) : bt x i = false := BitVec.getLsbD_of_ge _ _ h
theorem b_m1 : ∀ i, i < 32 → bt (-1) i = true := by decide +kernel
theorem b_0 (i : Nat) : bt 0 i = false := BitVec.getLsbD_zero
theorem s_l : ∀ n, n < 32 → ((nI n &&& 31).toBitVec.smod 32).toNat = n := by decide +kernel
theorem s_u : ∀ n, n < 32 → (((nI n).toUInt32 &&& Int32.toUInt32 31).toBitVec % 32).toNat = n := by decide +kernel
theorem b_shl (n : Nat) (hn : n < 32) (x : Int32) {i : Nat} (hi : i < 32) : bt (x <<< (nI n &&& 31)) i = (decide (n ≤ i) && bt x (i - n)) := by
  unfold bt
  rw [Int32.toBitVec_shiftLeft]
  show (x.toBitVec <<< ((nI n &&& 31).toBitVec.smod 32).toNat).getLsbD i = _
  rw [s_l n hn, BitVec.getLsbD_shiftLeft]
  rcases Nat.lt_or_ge i n with h | h
  · simp [h, Nat.not_le.mpr h]
  · simp [hi, h, Nat.not_lt.mpr h]
theorem b_ushr (n : Nat) (hn : n < 32) (x : Int32) (i : Nat) : bt ((x.toUInt32 >>> ((nI n).toUInt32 &&& Int32.toUInt32 31)).toInt32) i = bt x (n + i) := by
  show (x.toUInt32 >>> ((nI n).toUInt32 &&& Int32.toUInt32 31)).toBitVec.getLsbD i = x.toUInt32.toBitVec.getLsbD (n + i)
  rw [UInt32.toBitVec_shiftRight]
  show (x.toUInt32.toBitVec >>> (((nI n).toUInt32 &&& Int32.toUInt32 31).toBitVec % 32).toNat).getLsbD i = _
  rw [s_u n hn, BitVec.getLsbD_ushiftRight]
theorem b_sshr (n : Nat) (hn : n < 32) (x : Int32) {i : Nat} (hi : i < 32) : bt (x >>> (nI n &&& 31)) i = if n + i < 32 then bt x (n + i) else bt x 31 := by
  unfold bt
  rw [Int32.toBitVec_shiftRight]
  show (x.toBitVec.sshiftRight ((nI n &&& 31).toBitVec.smod 32).toNat).getLsbD i = _
  rw [s_l n hn, BitVec.getLsbD_sshiftRight, BitVec.msb_eq_getLsbD_last]
  simp [hi]
section
variable {E : Nat → Bool} {f t w : Nat → Nat} {n m a c : Nat}
theorem cnt_le' {g h : Nat → Bool} : ∀ n, (∀ i, i < n → g i = true → h i = true) → cntB g n ≤ cntB h n
  | 0, _ => Nat.le_refl _
  | n + 1, hm => by
    simp only [cntB]
    have := cnt_le' n (fun j hj => hm j (by omega))
    have := hm n (by omega)
    cases hg : g n <;> cases hh : h n <;> simp_all <;> omega
theorem cnt_lt {g h : Nat → Bool} : ∀ n, (∀ i, i < n → g i = true → h i = true) → (∃ i, i < n ∧ h i = true ∧ g i = false) → cntB g n < cntB h n
  | 0, _, ⟨_, hi, _⟩ => absurd hi (Nat.not_lt_zero _)
  | n + 1, hm, ⟨i, hi, h1, h2⟩ => by
    simp only [cntB]
    rcases Nat.lt_or_ge i n with hn | hn
    · have := cnt_lt n (fun j hj => hm j (by omega)) ⟨i, hn, h1, h2⟩
      have := hm n (by omega)
      cases hg : g n <;> cases hh : h n <;> simp_all <;> omega
    · obtain rfl : i = n := by omega
      have := cnt_le' (g := g) (h := h) i (fun j hj => hm j (Nat.lt_succ_of_lt hj))
      simp only [h1, h2, if_true, Bool.false_eq_true, if_false]
      omega
theorem cnt_le {g h : Nat → Bool} (n : Nat) (hm : ∀ i, i < n → g i = true → h i = true) : cntB g n ≤ cntB h n := cnt_le' n hm
theorem cnt_all {g : Nat → Bool} : ∀ n, n ≤ cntB g n → ∀ i, i < n → g i = true
  | 0, _, _, hi => absurd hi (Nat.not_lt_zero _)
  | n + 1, h, i, hi => by
    simp only [cntB] at h
    have := cntB_le g n
    cases hg : g n
    · simp [hg] at h; omega
    · simp [hg] at h
      rcases Nat.lt_or_ge i n with hn | hn
      · exact cnt_all n (by omega) i hn
      · obtain rfl : i = n := by omega
        exact hg
/-- one ladder of a pass: its ends join -/
def jnR (E : Nat → Bool) (f t : Nat → Nat) (l : Nat) (P : Nat → Bool) : Nat → Bool :=
  if E l && (P (f l) || P (t l)) then fun b => P b || decide (b = f l) || decide (b = t l) else P
def pasR (E : Nat → Bool) (f t : Nat → Nat) (P : Nat → Bool) : Nat → Nat → Bool
  | 0 => P
  | l + 1 => jnR E f t l (pasR E f t P l)
def Rch (E : Nat → Bool) (f t : Nat → Nat) (m a b : Nat) : Prop := ∀ P : Nat → Bool, P a = true → (∀ l, l < m → E l = true → P (f l) = P (t l)) → P b = true
theorem jnR_m {l : Nat} {P : Nat → Bool} {b : Nat} (h : P b = true) : jnR E f t l P b = true := by
  unfold jnR; split <;> simp [h]
theorem pasR_m {P : Nat → Bool} {b : Nat} : ∀ {i k}, i ≤ k → pasR E f t P i b = true → pasR E f t P k b = true
  | i, 0, h, hp => by obtain rfl : i = 0 := by omega
                      exact hp
  | i, k + 1, h, hp => by
    rcases Nat.lt_or_ge i (k + 1) with h2 | h2
    · exact jnR_m (pasR_m (by omega) hp)
    · obtain rfl : i = k + 1 := by omega
      exact hp
theorem pasR_gr {P : Nat → Bool} {b k : Nat} (h : ¬ pasR E f t P k b = P b) : pasR E f t P k b = true ∧ P b = false := by
  cases hq : P b
  · cases hr : pasR E f t P k b
    · exact absurd (hr.trans hq.symm) h
    · exact ⟨rfl, rfl⟩
  · exact absurd ((pasR_m (i := 0) (Nat.zero_le _) hq).trans hq.symm) h
theorem Rch.st {a : Nat} {l : Nat} (hl : l < m) (hE : E l = true) (h : Rch E f t m a (f l) ∨ Rch E f t m a (t l)) : Rch E f t m a (f l) ∧ Rch E f t m a (t l) := by
  rcases h with h | h
  · exact ⟨h, fun P h1 h2 => (h2 l hl hE) ▸ h P h1 h2⟩
  · exact ⟨fun P h1 h2 => (h2 l hl hE) ▸ h P h1 h2, h⟩
theorem jnR_s {a l : Nat} {P : Nat → Bool} (hl : l < m) (h : ∀ b, P b = true → Rch E f t m a b) : ∀ b, jnR E f t l P b = true → Rch E f t m a b := by
  intro b hb
  unfold jnR at hb
  split at hb
  · rename_i h2
    simp only [Bool.and_eq_true, Bool.or_eq_true] at h2
    have h3 := Rch.st hl h2.1 (h2.2.imp (h _) (h _))
    simp only [Bool.or_eq_true, decide_eq_true_eq] at hb
    rcases hb with (hb | rfl) | rfl
    · exact h b hb
    · exact h3.1
    · exact h3.2
  · exact h b hb
theorem pasR_s {a : Nat} {P : Nat → Bool} (h : ∀ b, P b = true → Rch E f t m a b) : ∀ k, k ≤ m → ∀ b, pasR E f t P k b = true → Rch E f t m a b
  | 0, _ => h
  | k + 1, hk => jnR_s (by omega) (pasR_s h k (by omega))
def ClR (E : Nat → Bool) (f t : Nat → Nat) (m : Nat) (P : Nat → Bool) : Prop := ∀ l, l < m → E l = true → P (f l) = P (t l)
theorem pasR_e {P : Nat → Bool} {l : Nat} (hE : E l = true) (h : pasR E f t P l (f l) = true ∨ pasR E f t P l (t l) = true) : pasR E f t P (l + 1) (f l) = true ∧ pasR E f t P (l + 1) (t l) = true := by
  show jnR E f t l _ _ = true ∧ jnR E f t l _ _ = true
  unfold jnR
  rw [if_pos (by simp [hE, h])]
  simp
theorem pasR_fix {P : Nat → Bool} (hf : ∀ l, l < m → f l < 10) (ht : ∀ l, l < m → t l < 10) (h : ∀ b, b < 10 → pasR E f t P m b = P b) : ClR E f t m P := by
  intro l hl hE
  rw [Bool.eq_iff_iff]
  constructor
  · intro h1
    rw [← h _ (ht l hl)]
    exact pasR_m (i := l + 1) hl (pasR_e hE (Or.inl (pasR_m (i := 0) (Nat.zero_le _) h1))).2
  · intro h1
    rw [← h _ (hf l hl)]
    exact pasR_m (i := l + 1) hl (pasR_e hE (Or.inr (pasR_m (i := 0) (Nat.zero_le _) h1))).1
theorem pasR_new {P : Nat → Bool} {b : Nat} (hb : P b = false) : ∀ k, pasR E f t P k b = true → ∃ l, l < k ∧ E l = true ∧ (b = f l ∨ b = t l) ∧ pasR E f t P (l + 1) (f l) = true ∧ pasR E f t P (l + 1) (t l) = true
  | 0, h => by rw [show pasR E f t P 0 b = P b from rfl, hb] at h; cases h
  | k + 1, h => by
    cases h0 : pasR E f t P k b
    · have h1 := h
      rw [show pasR E f t P (k + 1) b = jnR E f t k (pasR E f t P k) b from rfl] at h1
      unfold jnR at h1
      split at h1
      · rename_i h2
        simp only [Bool.and_eq_true, Bool.or_eq_true] at h2
        simp only [h0, Bool.false_or, Bool.or_eq_true, decide_eq_true_eq] at h1
        exact ⟨k, Nat.lt_succ_self k, h2.1, h1, pasR_e h2.1 h2.2⟩
      · rw [h0] at h1; cases h1
    · obtain ⟨l, h1, h2⟩ := pasR_new hb k h0
      exact ⟨l, by omega, h2⟩
/-- ladders with both ends inside -/
def insR (E : Nat → Bool) (f t : Nat → Nat) (m : Nat) (P : Nat → Bool) : Nat := cntB (fun l => !E l || (P (f l) && P (t l))) m
theorem insR_up {P : Nat → Bool} {b : Nat} (h1 : pasR E f t P m b = true) (h2 : P b = false) : insR E f t m P < insR E f t m (pasR E f t P m) := by
  obtain ⟨l, hl, hE, hb, h3, h4⟩ := pasR_new h2 m h1
  refine cnt_lt m (fun i hi h => ?_) ⟨l, hl, ?_, ?_⟩
  · simp only [Bool.or_eq_true, Bool.and_eq_true] at h ⊢
    exact h.imp id (fun q => ⟨pasR_m (i := 0) (Nat.zero_le _) q.1, pasR_m (i := 0) (Nat.zero_le _) q.2⟩)
  · simp [pasR_m (Nat.succ_le_of_lt hl) h3, pasR_m (Nat.succ_le_of_lt hl) h4]
  · rcases hb with rfl | rfl <;> simp [hE, h2]
theorem insR_cl {P : Nat → Bool} (h : m ≤ insR E f t m P) : ClR E f t m P := by
  intro l hl hE
  have := cnt_all m h l hl
  simp only [hE, Bool.not_true, Bool.false_or, Bool.and_eq_true] at this
  rw [this.1, this.2]
/-- so many passes -/
def itR (E : Nat → Bool) (f t : Nat → Nat) (m a : Nat) : Nat → Nat → Bool
  | 0 => fun b => decide (b = a)
  | k + 1 => pasR E f t (itR E f t m a k) m
def rcB (E : Nat → Bool) (f t : Nat → Nat) (m a : Nat) : Nat → Bool := itR E f t m a m
theorem Rch.rf (b : Nat) : Rch E f t m b b := fun _ h _ => h
theorem itR_s : ∀ k b, itR E f t m a k b = true → Rch E f t m a b
  | 0, b, h => by simp only [itR, decide_eq_true_eq] at h; subst h; exact Rch.rf _
  | k + 1, b, h => pasR_s (itR_s k) m (Nat.le_refl m) b h
theorem itR_a : ∀ k, itR E f t m a k a = true
  | 0 => by simp [itR]
  | k + 1 => pasR_m (i := 0) (Nat.zero_le _) (itR_a k)
theorem pasR_fx {P : Nat → Bool} (h : ClR E f t m P) : ∀ k, k ≤ m → pasR E f t P k = P
  | 0, _ => rfl
  | k + 1, hk => by
    show jnR E f t k (pasR E f t P k) = P
    rw [pasR_fx h k (by omega)]
    unfold jnR
    split
    · rename_i h2
      simp only [Bool.and_eq_true, Bool.or_eq_true] at h2
      have h3 := h k (by omega) h2.1
      funext b
      have h4 : P (f k) = true ∧ P (t k) = true := by rcases h2.2 with q | q <;> simp_all
      by_cases h5 : b = f k
      · subst h5; simp [h4]
      · by_cases h6 : b = t k
        · subst h6; simp [h4]
        · simp [h5, h6]
    · rfl
theorem itR_k (hf : ∀ l, l < m → f l < 10) (ht : ∀ l, l < m → t l < 10) : ∀ k, ClR E f t m (itR E f t m a k) ∨ k ≤ insR E f t m (itR E f t m a k)
  | 0 => Or.inr (Nat.zero_le _)
  | k + 1 => by
    rcases itR_k hf ht k with h | h
    · left
      rw [show itR E f t m a (k + 1) = itR E f t m a k from pasR_fx h m (Nat.le_refl m)]
      exact h
    · by_cases h1 : ∀ b, b < 10 → pasR E f t (itR E f t m a k) m b = itR E f t m a k b
      · left
        have h2 := pasR_fix hf ht h1
        rw [show itR E f t m a (k + 1) = itR E f t m a k from pasR_fx h2 m (Nat.le_refl m)]
        exact h2
      · right
        obtain ⟨b, hb⟩ := Classical.not_forall.mp h1
        obtain ⟨hb, h3⟩ := Classical.not_imp.mp hb
        have h4 : itR E f t m a k b = false := by
          cases hq : itR E f t m a k b
          · rfl
          · exact absurd ((pasR_m (i := 0) (Nat.zero_le _) hq).trans hq.symm) h3
        have h5 : pasR E f t (itR E f t m a k) m b = true := by
          cases hq : pasR E f t (itR E f t m a k) m b
          · exact absurd (hq.trans h4.symm) h3
          · rfl
        exact Nat.lt_of_le_of_lt h (insR_up h5 h4)
theorem rcB_cl (hf : ∀ l, l < m → f l < 10) (ht : ∀ l, l < m → t l < 10) : ClR E f t m (rcB E f t m a) := (itR_k hf ht m).elim id insR_cl
theorem rcB_iff (hf : ∀ l, l < m → f l < 10) (ht : ∀ l, l < m → t l < 10) (b : Nat) : rcB E f t m a b = true ↔ Rch E f t m a b :=
  ⟨itR_s m b, fun h => h _ (itR_a m) (rcB_cl hf ht)⟩
/-- what is sound and closed is it -/
theorem rcB_un (hf : ∀ l, l < m → f l < 10) (ht : ∀ l, l < m → t l < 10) {P : Nat → Bool} (ha : P a = true) (hs : ∀ b, P b = true → Rch E f t m a b) (hc : ClR E f t m P) (b : Nat) : P b = rcB E f t m a b := by
  rw [Bool.eq_iff_iff, rcB_iff hf ht]
  exact ⟨hs b, fun h => h P ha hc⟩
theorem Rch.sy {a b : Nat} (h : Rch E f t m a b) : Rch E f t m b a := by
  intro P hb hc
  cases ha : P a
  · have := h (fun x => !P x) (by simp [ha]) (fun l hl hE => by simp [hc l hl hE])
    simp [hb] at this
  · rfl
theorem Rch.tr {a b d : Nat} (h : Rch E f t m a b) (h2 : Rch E f t m b d) : Rch E f t m a d := fun P ha hc => h2 P (h P ha hc) hc
end
section
variable {E : Nat → Bool} {f t w : Nat → Nat} {n m a c : Nat}
/-- a way of e ladders to b, of M minutes -/
def Wk (E : Nat → Bool) (f t w : Nat → Nat) (m a : Nat) : Nat → Nat → Nat → Prop
  | 0, b, M => b = a ∧ M = 0
  | e + 1, b, M => ∃ l x M', l < m ∧ E l = true ∧ Wk E f t w m a e x M' ∧ ((x = f l ∧ b = t l) ∨ (x = t l ∧ b = f l)) ∧ M = M' + w l
theorem wk_lt (ha : a < n) (hf : ∀ l, l < m → f l < n) (ht : ∀ l, l < m → t l < n) : ∀ {e b M}, Wk E f t w m a e b M → b < n
  | 0, _, _, h => h.1 ▸ ha
  | _ + 1, _, _, ⟨l, _, _, hl, _, _, h, _⟩ => by
    rcases h with h | h
    · exact h.2 ▸ ht l hl
    · exact h.2 ▸ hf l hl
theorem nat_mn {P : Nat → Prop} : ∀ k, P k → ∃ j, P j ∧ ∀ i, P i → j ≤ i := by
  intro k
  induction k using Nat.strongRecOn with
  | ind k ih =>
    intro hk
    by_cases h : ∃ i, i < k ∧ P i
    · obtain ⟨i, h1, h2⟩ := h
      exact ih i h1 h2
    · exact ⟨k, hk, fun i hi => Nat.le_of_not_lt (fun q => h ⟨i, q, hi⟩)⟩
def MnW (E : Nat → Bool) (f t w : Nat → Nat) (m a c e b M : Nat) : Prop := Wk E f t w m a e b M ∧ ∀ e' M', Wk E f t w m a e' b M' → c * M + e ≤ c * M' + e'
theorem wk_mn {e b M : Nat} (h : Wk E f t w m a e b M) (c : Nat) : ∃ e M, MnW E f t w m a c e b M := by
  obtain ⟨j, ⟨e', M', h1, rfl⟩, h3⟩ := nat_mn (P := fun k => ∃ e M, Wk E f t w m a e b M ∧ k = c * M + e) _ ⟨e, M, h, rfl⟩
  exact ⟨e', M', h1, fun e2 M2 h4 => h3 _ ⟨e2, M2, h4, rfl⟩⟩
theorem wk_cnt (ha : a < n) (hf : ∀ l, l < m → f l < n) (ht : ∀ l, l < m → t l < n) : ∀ {e b M}, MnW E f t w m a c e b M → e ≤ cntB (fun x => @decide (∃ e' M', Wk E f t w m a e' x M' ∧ c * M' + e' < c * M + e) (Classical.propDecidable _)) n
  | 0, _, _, _ => Nat.zero_le _
  | e + 1, b, _, ⟨⟨l, x, M, hl, hE, hw, hd, rfl⟩, hm⟩ => by
    have hp : MnW E f t w m a c e x M := ⟨hw, fun e' M' h' => by
      have := hm (e' + 1) (M' + w l) ⟨l, x, M', hl, hE, h', hd, rfl⟩
      rw [Nat.mul_add, Nat.mul_add] at this
      omega⟩
    refine Nat.lt_of_le_of_lt (wk_cnt ha hf ht hp) (cnt_lt n (fun i hi h => ?_) ⟨x, wk_lt ha hf ht hw, ?_, ?_⟩)
    · simp only [decide_eq_true_eq] at h ⊢
      obtain ⟨e', M', h1, h2⟩ := h
      exact ⟨e', M', h1, by rw [Nat.mul_add]; omega⟩
    · simp only [decide_eq_true_eq]
      exact ⟨e, M, hw, by rw [Nat.mul_add]; omega⟩
    · simp only [decide_eq_false_iff_not]
      intro ⟨e', M', h1, h2⟩
      exact absurd (hp.2 e' M' h1) (by omega)
theorem cnt_ltn {g : Nat → Bool} {b : Nat} (hb : b < n) (h : g b = false) : cntB g n < n := by
  have h1 := cntB_le g n
  rcases Nat.lt_or_ge (cntB g n) n with q | q
  · exact q
  · rw [cnt_all n q b hb] at h; cases h
theorem wk_9 (ha : a < n) (hf : ∀ l, l < m → f l < n) (ht : ∀ l, l < m → t l < n) {e b M : Nat} (h : MnW E f t w m a c e b M) : e < n := by
  refine Nat.lt_of_le_of_lt (wk_cnt ha hf ht h) (cnt_ltn (wk_lt ha hf ht h.1) ?_)
  simp only [decide_eq_false_iff_not]
  intro ⟨e', M', h1, h2⟩
  exact absurd (h.2 e' M' h1) (by omega)
theorem wk_bd (hw : ∀ l, l < m → w l ≤ 40) : ∀ {e b M}, Wk E f t w m a e b M → M ≤ 40 * e
  | 0, _, _, h => by rw [h.2]; exact Nat.zero_le _
  | e + 1, _, _, ⟨l, _, M', hl, _, h1, _, h2⟩ => by
    have := wk_bd hw h1
    have := hw l hl
    omega
/-- the least of g over l < k, and x -/
def mnL (g : Nat → Nat) (x : Nat) : Nat → Nat
  | 0 => x
  | l + 1 => min (mnL g x l) (g l)
theorem mnL_x {g : Nat → Nat} {x : Nat} : ∀ k, mnL g x k ≤ x
  | 0 => Nat.le_refl _
  | k + 1 => Nat.le_trans (Nat.min_le_left _ _) (mnL_x k)
theorem mnL_g {g : Nat → Nat} {x l : Nat} : ∀ k, l < k → mnL g x k ≤ g l
  | 0, h => absurd h (Nat.not_lt_zero _)
  | k + 1, h => by
    rcases Nat.lt_or_ge l k with q | q
    · exact Nat.le_trans (Nat.min_le_left _ _) (mnL_g k q)
    · obtain rfl : l = k := by omega
      exact Nat.min_le_right _ _
theorem mnL_c {g : Nat → Nat} {x : Nat} : ∀ k, mnL g x k = x ∨ ∃ l, l < k ∧ mnL g x k = g l
  | 0 => Or.inl rfl
  | k + 1 => by
    show min (mnL g x k) (g k) = x ∨ ∃ l, l < k + 1 ∧ min (mnL g x k) (g k) = g l
    rcases Nat.le_total (mnL g x k) (g k) with h | h
    · rw [Nat.min_eq_left h]
      exact (mnL_c k).imp id (fun ⟨l, h1, h2⟩ => ⟨l, by omega, h2⟩)
    · rw [Nat.min_eq_right h]
      exact Or.inr ⟨k, Nat.lt_succ_self k, rfl⟩
def FARn : Nat := 1000000
/-- how far in so many steps -/
def dK (E : Nat → Bool) (f t w : Nat → Nat) (m a c : Nat) : Nat → Nat → Nat
  | 0, b => if b = a then 0 else FARn
  | k + 1, b => mnL (fun l => if E l = true then min (if t l = b then min FARn (dK E f t w m a c k (f l) + (c * w l + 1)) else FARn) (if f l = b then min FARn (dK E f t w m a c k (t l) + (c * w l + 1)) else FARn) else FARn) (dK E f t w m a c k b) m
def SnD (E : Nat → Bool) (f t w : Nat → Nat) (m a c : Nat) (D : Nat → Nat) (b : Nat) : Prop := D b = FARn ∨ (D b < FARn ∧ ∃ e M, Wk E f t w m a e b M ∧ D b = c * M + e)
theorem SnD.le {D : Nat → Nat} {b : Nat} (h : SnD E f t w m a c D b) : D b ≤ FARn := h.elim (fun q => by omega) (fun q => Nat.le_of_lt q.1)
theorem snd_st {D : Nat → Nat} {b x l : Nat} (hl : l < m) (hE : E l = true) (hd : (x = f l ∧ b = t l) ∨ (x = t l ∧ b = f l)) (h : SnD E f t w m a c D x) (hlt : D x + (c * w l + 1) < FARn) : ∃ e M, Wk E f t w m a e b M ∧ D x + (c * w l + 1) = c * M + e := by
  rcases h with h | ⟨_, e, M, h1, h2⟩
  · omega
  · exact ⟨e + 1, M + w l, ⟨l, x, M, hl, hE, h1, hd, rfl⟩, by rw [Nat.mul_add]; omega⟩
theorem fhlp (p : Prop) [Decidable p] (v : Nat) : (if p then min FARn v else FARn) = FARn ∨ ((if p then min FARn v else FARn) < FARn ∧ p ∧ (if p then min FARn v else FARn) = v ∧ v < FARn) := by
  by_cases h : p
  · rw [if_pos h]
    rcases Nat.lt_or_ge v FARn with q | q
    · rw [Nat.min_eq_right (Nat.le_of_lt q)]
      exact Or.inr ⟨q, h, rfl, q⟩
    · exact Or.inl (Nat.min_eq_left q)
  · exact Or.inl (if_neg h)
theorem dK_s : ∀ k b, SnD E f t w m a c (dK E f t w m a c k) b
  | 0, b => by
    by_cases h : b = a
    · exact Or.inr ⟨by simp [dK, h, FARn], 0, 0, ⟨h, rfl⟩, by simp [dK, h]⟩
    · exact Or.inl (by simp [dK, h])
  | k + 1, b => by
    unfold SnD
    rw [dK]
    rcases mnL_c (g := fun l => if E l = true then min (if t l = b then min FARn (dK E f t w m a c k (f l) + (c * w l + 1)) else FARn) (if f l = b then min FARn (dK E f t w m a c k (t l) + (c * w l + 1)) else FARn) else FARn) (x := dK E f t w m a c k b) m with h | ⟨l, hl, h⟩
    · rw [h]
      exact dK_s k b
    · rw [h]
      by_cases hE : E l = true
      · have h1 := dK_s k (f l)
        have h2 := dK_s k (t l)
        simp only [hE, if_true]
        have a1 := fhlp (t l = b) (dK E f t w m a c k (f l) + (c * w l + 1))
        have a2 := fhlp (f l = b) (dK E f t w m a c k (t l) + (c * w l + 1))
        generalize (if t l = b then min FARn (dK E f t w m a c k (f l) + (c * w l + 1)) else FARn) = A at a1 ⊢
        generalize (if f l = b then min FARn (dK E f t w m a c k (t l) + (c * w l + 1)) else FARn) = B at a2 ⊢
        rcases Nat.le_total A B with z | z
        · rw [Nat.min_eq_left z]
          refine a1.imp id (fun ⟨q1, q2, q3, q4⟩ => ⟨q1, ?_⟩)
          obtain ⟨e, M, h3, h4⟩ := snd_st (b := b) hl hE (Or.inl ⟨rfl, q2.symm⟩) h1 q4
          exact ⟨e, M, h3, q3.trans h4⟩
        · rw [Nat.min_eq_right z]
          refine a2.imp id (fun ⟨q1, q2, q3, q4⟩ => ⟨q1, ?_⟩)
          obtain ⟨e, M, h3, h4⟩ := snd_st (b := b) hl hE (Or.inr ⟨rfl, q2.symm⟩) h2 q4
          exact ⟨e, M, h3, q3.trans h4⟩
      · left
        simp only [hE, if_false, Bool.false_eq_true]
theorem dK_b (hw : ∀ l, l < m → w l ≤ 40) (hc : c ≤ 100) : ∀ {k e b M}, e ≤ k → e ≤ 10 → Wk E f t w m a e b M → dK E f t w m a c k b ≤ c * M + e
  | 0, e, b, M, he, _, h => by
    obtain rfl : e = 0 := by omega
    simp [dK, h.1]
  | k + 1, 0, b, M, he, h10, h => Nat.le_trans (mnL_x m) (dK_b hw hc (k := k) (Nat.zero_le _) h10 h)
  | k + 1, e + 1, b, M, he, h10, ⟨l, x, M', hl, hE, h1, hd, h2⟩ => by
    rw [dK]
    refine Nat.le_trans (mnL_g (l := l) m hl) ?_
    have h3 := dK_b hw hc (k := k) (e := e) (by omega) (by omega) h1
    have h4 := wk_bd hw h1
    have h5 := hw l hl
    have h6 : c * w l ≤ 100 * 40 := Nat.mul_le_mul hc h5
    have h7 : c * M' ≤ 100 * (40 * e) := Nat.mul_le_mul hc h4
    simp only [hE, if_true]
    rw [h2, Nat.mul_add]
    rcases hd with ⟨rfl, rfl⟩ | ⟨rfl, rfl⟩
    · simp only [if_true]
      omega
    · simp only [if_true]
      omega
/-- the measure of a least way at scale c -/
def dS (E : Nat → Bool) (f t w : Nat → Nat) (m a c : Nat) : Nat → Nat := dK E f t w m a c 10
theorem dS_no {D : Nat → Nat} {b : Nat} (hs : SnD E f t w m a c D b) (h : ¬ ∃ e M, Wk E f t w m a e b M) : D b = FARn := by
  rcases hs with q | ⟨_, e, M, q, _⟩
  · exact q
  · exact absurd ⟨e, M, q⟩ h
theorem dS_un (ha : a < n) (hf : ∀ l, l < m → f l < n) (ht : ∀ l, l < m → t l < n) (hw : ∀ l, l < m → w l ≤ 40) (hc : c ≤ 100) (hn : n ≤ 10) {D : Nat → Nat} {b : Nat} (hs : SnD E f t w m a c D b) (hb : ∀ e M, e < n → Wk E f t w m a e b M → D b ≤ c * M + e) :
    (D b = FARn ∧ ¬ ∃ e M, Wk E f t w m a e b M) ∨ (∃ e M, MnW E f t w m a c e b M ∧ e < n ∧ M ≤ 40 * e ∧ D b = c * M + e) := by
  by_cases h : ∃ e M, Wk E f t w m a e b M
  · right
    obtain ⟨e, M, h⟩ := h
    obtain ⟨e, M, h⟩ := wk_mn h c
    have h9 := wk_9 ha hf ht h
    have h40 := wk_bd hw h.1
    refine ⟨e, M, h, h9, h40, ?_⟩
    have h1 := hb e M h9 h.1
    have h2 : c * M ≤ 100 * (40 * e) := Nat.mul_le_mul hc h40
    rcases hs with q | ⟨_, e', M', q1, q2⟩
    · unfold FARn at q; omega
    · have := h.2 e' M' q1
      omega
  · exact Or.inl ⟨dS_no hs h, h⟩
theorem dS_eq (ha : a < n) (hf : ∀ l, l < m → f l < n) (ht : ∀ l, l < m → t l < n) (hw : ∀ l, l < m → w l ≤ 40) (hc : c ≤ 100) (hn : n ≤ 10) {D : Nat → Nat} {b : Nat} (hs : SnD E f t w m a c D b) (hb : ∀ e M, e < n → Wk E f t w m a e b M → D b ≤ c * M + e) : D b = dS E f t w m a c b := by
  have h2 := dS_un ha hf ht hw hc hn (dK_s (E := E) (f := f) (t := t) (w := w) (m := m) (a := a) (c := c) 10 b) (fun e M he h => dK_b hw hc (by omega) (by omega) h)
  rcases dS_un ha hf ht hw hc hn hs hb with ⟨h1, h3⟩ | ⟨e, M, h1, _, _, h3⟩ <;> rcases h2 with ⟨h4, h5⟩ | ⟨e', M', h4, _, _, h5⟩
  · exact h1.trans h4.symm
  · exact absurd ⟨e', M', h4.1⟩ h3
  · exact absurd ⟨e, M, h1.1⟩ h5
  · have q1 := h1.2 e' M' h4.1
    have q2 := h4.2 e M h1.1
    show D b = dK E f t w m a c 10 b
    omega
/-- no ladder shortens: then it is the least -/
theorem fix_b {D : Nat → Nat} (h0 : D a = 0) (hx : ∀ l, l < m → E l = true → D (t l) ≤ D (f l) + (c * w l + 1) ∧ D (f l) ≤ D (t l) + (c * w l + 1)) : ∀ {e b M}, Wk E f t w m a e b M → D b ≤ c * M + e
  | 0, _, _, h => by rw [h.1, h0]; exact Nat.zero_le _
  | e + 1, _, _, ⟨l, x, M', hl, hE, h1, hd, h2⟩ => by
    have h3 := fix_b h0 hx h1
    have h4 := hx l hl hE
    rw [h2, Nat.mul_add]
    rcases hd with ⟨rfl, rfl⟩ | ⟨rfl, rfl⟩ <;> omega
/-- the two scales agree -/
theorem dS_two (ha : a < n) (hf : ∀ l, l < m → f l < n) (ht : ∀ l, l < m → t l < n) (hw : ∀ l, l < m → w l ≤ 40) (hn : n ≤ 10) (b : Nat) :
    (dS E f t w m a 100 b = FARn ∧ dS E f t w m a 16 b = FARn) ∨ ∃ e M, e ≤ 9 ∧ M ≤ 360 ∧ dS E f t w m a 100 b = 100 * M + e ∧ dS E f t w m a 16 b = 16 * M + e := by
  rcases dS_un ha hf ht hw (c := 100) (by omega) hn (dK_s (E := E) (f := f) (t := t) (w := w) (m := m) (a := a) 10 b) (fun e M he h => dK_b hw (by omega) (by omega) (by omega) h) with ⟨h1, h3⟩ | ⟨e, M, h1, h2, h6, h3⟩ <;>
  rcases dS_un ha hf ht hw (c := 16) (by omega) hn (dK_s (E := E) (f := f) (t := t) (w := w) (m := m) (a := a) 10 b) (fun e M he h => dK_b hw (by omega) (by omega) (by omega) h) with ⟨h4, h5⟩ | ⟨e', M', h4, h7, h8, h5⟩
  · exact Or.inl ⟨h1, h4⟩
  · exact absurd ⟨e', M', h4.1⟩ h3
  · exact absurd ⟨e, M, h1.1⟩ h5
  · have q1 := h1.2 e' M' h4.1
    have q2 := h4.2 e M h1.1
    exact Or.inr ⟨e, M, by omega, by omega, h3, by unfold dS; omega⟩
end
theorem bt_1 : ∀ i, i < 32 → bt 1 i = decide (i = 0) := by decide +kernel
theorem bt_sh {k i : Nat} (hk : k < 32) (hi : i < 32) : bt (1 <<< (nI k &&& 31)) i = decide (i = k) := by
  rw [b_shl k hk 1 hi, bt_1 (i - k) (by omega), Bool.eq_iff_iff]
  simp only [Bool.and_eq_true, decide_eq_true_eq]
  omega
theorem bt_bits (P : Nat → Bool) : ∀ n, n ≤ 32 → ∀ i, i < 32 → bt (bitsB P n) i = (decide (i < n) && P i)
  | 0, _, i, _ => by
    show bt 0 i = _
    rw [b_0]; simp
  | n + 1, hn, i, hi => by
    show bt (bitsB P n ||| _) i = _
    rw [b_or, bt_bits P n (by omega) i hi]
    cases hp : P n
    · rw [if_neg (by simp), b_0, Bool.eq_iff_iff]
      simp only [Bool.or_false, Bool.and_eq_true, decide_eq_true_eq]
      constructor
      · intro h; exact ⟨by omega, h.2⟩
      · intro h
        refine ⟨?_, h.2⟩
        rcases Nat.lt_or_ge i n with q | q
        · exact q
        · obtain rfl : i = n := by omega
          rw [h.2] at hp; cases hp
    · rw [if_pos rfl, bt_sh (by omega) hi, Bool.eq_iff_iff]
      simp only [Bool.or_eq_true, Bool.and_eq_true, decide_eq_true_eq]
      constructor
      · rintro (h | rfl)
        · exact ⟨by omega, h.2⟩
        · exact ⟨by omega, hp⟩
      · intro h
        rcases Nat.lt_or_ge i n with q | q
        · exact Or.inl ⟨q, h.2⟩
        · exact Or.inr (by omega)
theorem bits_cong {P Q : Nat → Bool} : ∀ n, (∀ b, b < n → P b = Q b) → bitsB P n = bitsB Q n
  | 0, _ => rfl
  | n + 1, h => by
    show bitsB P n ||| _ = bitsB Q n ||| _
    rw [bits_cong n (fun b hb => h b (by omega)), h n (by omega)]
theorem bits_inj {P Q : Nat → Bool} {n : Nat} (hn : n ≤ 32) (h : bitsB P n = bitsB Q n) : ∀ b, b < n → P b = Q b := by
  intro b hb
  have h1 := bt_bits P n hn b (by omega)
  have h2 := bt_bits Q n hn b (by omega)
  rw [h, h2] at h1
  simpa [hb] using h1.symm
theorem bits_one {k n : Nat} (hk : k < n) (hn : n ≤ 32) : 1 <<< (nI k &&& 31) = bitsB (fun b => decide (b = k)) n := by
  refine b_ext (fun i hi => ?_)
  rw [bt_bits _ n hn i hi, bt_sh (by omega) hi, Bool.eq_iff_iff]
  simp only [Bool.and_eq_true, decide_eq_true_eq]
  omega
theorem bits_or2 {P : Nat → Bool} {x y n : Nat} (hx : x < n) (hy : y < n) (hn : n ≤ 32) : bitsB P n ||| (1 <<< (nI x &&& 31) ||| 1 <<< (nI y &&& 31)) = bitsB (fun b => P b || decide (b = x) || decide (b = y)) n := by
  refine b_ext (fun i hi => ?_)
  rw [b_or, b_or, bt_bits _ n hn i hi, bt_bits _ n hn i hi, bt_sh (by omega) hi, bt_sh (by omega) hi, Bool.eq_iff_iff]
  simp only [Bool.and_eq_true, Bool.or_eq_true, decide_eq_true_eq]
  constructor
  · rintro (h | h | h)
    · exact ⟨h.1, Or.inl (Or.inl h.2)⟩
    · exact ⟨by omega, Or.inl (Or.inr h)⟩
    · exact ⟨by omega, Or.inr h⟩
  · rintro ⟨h, (h2 | h2) | h2⟩
    · exact Or.inl ⟨h, h2⟩
    · exact Or.inr (Or.inl h2)
    · exact Or.inr (Or.inr h2)
theorem bits_and {P : Nat → Bool} {x y n : Nat} (hx : x < n) (hy : y < n) (hn : n ≤ 32) : (bitsB P n &&& (1 <<< (nI x &&& 31) ||| 1 <<< (nI y &&& 31)) = 0) ↔ (P x || P y) = false := by
  have hb : ∀ i, i < 32 → bt (bitsB P n &&& (1 <<< (nI x &&& 31) ||| 1 <<< (nI y &&& 31))) i = (decide (i < n) && P i && (decide (i = x) || decide (i = y))) := by
    intro i hi
    rw [b_and, b_or, bt_bits _ n hn i hi, bt_sh (by omega) hi, bt_sh (by omega) hi]
  constructor
  · intro h
    have h1 := hb x (by omega)
    have h2 := hb y (by omega)
    rw [h, b_0] at h1 h2
    simp [hx, hy] at h1 h2
    simp [h1, h2]
  · intro h
    refine b_ext (fun i hi => ?_)
    rw [hb i hi, b_0]
    simp only [Bool.or_eq_false_iff] at h
    by_cases q : i = x
    · subst q; simp [h.1]
    · by_cases q2 : i = y
      · subst q2; simp [h.2]
      · simp [q, q2]
theorem bits_at {P : Nat → Bool} {b n : Nat} (hb : b < n) (hn : n < 32) : bitsB P n >>> (nI b &&& 31) &&& 1 = b2i (P b) := by
  refine b_ext (fun i hi => ?_)
  rw [b_and, b_sshr b (by omega) _ hi, bt_1 i hi]
  by_cases h0 : i = 0
  · subst h0
    rw [if_pos (by omega), bt_bits _ n (by omega) _ (by omega)]
    cases P b
    · simp [b2i, b_0]
    · simp [b2i, hb, bt_1]
  · simp only [h0, decide_false, Bool.and_false]
    cases P b
    · exact (b_0 i).symm
    · show false = bt 1 i
      rw [bt_1 i hi]; simp [h0]
theorem bits_0 {P : Nat → Bool} {n : Nat} (h0 : 0 < n) (hn : n < 32) : bitsB P n &&& 1 = b2i (P 0) := by
  rw [← bits_at (P := P) h0 hn]
  congr 1
  refine b_ext (fun i hi => ?_)
  rw [show (0 : Nat) = 0 from rfl, b_sshr 0 (by omega) _ hi]
  simp [hi]
