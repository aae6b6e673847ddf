theorem pd_z {m0 : MI} {mr : MR} {tp at_ : Nat} {key : Int32} {μ : Mt} {code : Nat} : PDC m0 mr tp at_ key μ 0 code := fun _ _ _ _ _ _ _ _ _ _ _ h => by cases h
theorem pd_all {m0 : MI} {mr : MR} (hM : MB mr) {tp at_ : Nat} (h96 : tp ≤ 96) (hat : at_ ≤ 2880) {key : Int32} (hkey : key = 0 ∨ key = 1 ∨ key = 2) : ∀ f f2, f2 ≤ f → PDC m0 mr tp at_ key mX12_part0 f2 0 ∧ PDC m0 mr tp at_ key mX12_term f2 1 ∧ PDC m0 mr tp at_ key mX12_sum f2 3 ∧ PDC m0 mr tp at_ key mX12_test f2 5 ∧ PDC m0 mr tp at_ key mX12_both f2 6 ∧ PDC m0 mr tp at_ key mX12_either f2 8 := by
  intro f
  induction f with
  | zero =>
    intro f2 h
    obtain rfl : f2 = 0 := by omega
    exact ⟨pd_z, pd_z, pd_z, pd_z, pd_z, pd_z⟩
  | succ f ih =>
    intro f2 h
    rcases Nat.lt_or_ge f2 (f + 1) with q | q
    · exact ih f2 (by omega)
    · obtain rfl : f2 = f + 1 := by omega
      exact ⟨c_pdP hM h96 hat hkey (ih f (Nat.le_refl _)).1 (ih f (Nat.le_refl _)).2.2.2.2.2,
        c_pdT hM h96 hat (fun f2 h => (ih f2 h).1), c_pdS hM h96 hat (fun f2 h => (ih f2 h).2.1), c_pdC hM h96 hat (fun f2 h => (ih f2 h).2.2.1),
        c_pdB hM h96 hat (fun f2 h => (ih f2 h).2.2.2.1), c_pdE hM h96 hat (fun f2 h => (ih f2 h).2.2.2.2.1)⟩

