abbrev rgMi : Nat → Int → Prop := fun c k => (c = 22 ∧ k = 5) ∨ c = 23 ∨ c = 24
theorem mT_bd {σ : eS} {t : Nat} (hT : iT σ t) (hM : mT σ t) (h : σ t 3 ≠ -1) : 0 < σ t 3 ∧ σ t 3 ≤ 799999992 := by
  rcases hM with q | ⟨q1, q2⟩
  · exact absurd q.1 h
  · have := (rowT_bd hT (i := 0) ⟨by decide, by decide⟩).2
    have := q1.2.1
    omega
theorem QA_C {σ τ : eS} (h : IA σ) (f : fr rgCh σ τ) (c : iCh τ) (hk : mkS 20000 σ τ) : QA σ τ := by
  have e3 := f 10 3 (by simp [rgCh])
  refine ⟨⟨?_, iTs_cg h.2.1 (fun c k a b d => f c k (by simp only [rgCh]; omega)), c, iMi_cg h.2.2.2.1 (fun c k a b => f c k (by simp only [rgCh]; omega)), iSh_cg h.2.2.2.2.1 (fun k => f _ k (by simp [rgCh])), iSu_cg h.2.2.2.2.2 (fun k => f _ k (by simp [rgCh]))⟩, ⟨fun k => f _ k (by simp [rgCh]), fun k => f _ k (by simp [rgCh])⟩, fun c k a b d => f c k (by simp only [rgCh]; omega), fun c k a b => f c k (by simp only [rgCh]; omega), fun c k a b => f c k (by simp only [rgCh]; omega), hk⟩
  unfold tL
  rw [e3]
  exact h.1
theorem QA_18 {σ τ : eS} (h : IA σ) (f : fr (fun c _ => c = 18) σ τ) : QA σ τ := QA_C h (f.mono (fun c k w => by simp only [rgCh]; omega)) (iCh_cg h.2.2.1 (fun k => f _ _ (by simp))) (mkS_fr (by decide) f (by omega) (fun k => by omega))
