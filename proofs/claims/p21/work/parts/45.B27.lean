abbrev rgU : Nat → Int → Prop := fun c _ => c = 20
theorem mul_le_div {v p X : Int} (hv : 0 < v) (h : p ≤ X / v) : v * p ≤ X := by
  have a := Int.mul_le_mul_of_nonneg_left h (Int.le_of_lt hv)
  have b := Int.mul_ediv_add_emod X v
  have c := Int.emod_nonneg X (by omega : v ≠ 0)
  omega
theorem wo_bd {σ : eS} {s : Int} (hB : iB1 σ) (ht : tabB σ s) : nW (wo σ s (σ 1 s) (σ 1 s * σ 1 s)) ∧ wBd (wo σ s (σ 1 s) (σ 1 s * σ 1 s)) := by
  obtain ⟨u1, u2, u3⟩ := ht
  have tn := (hB.1 s u1 u2).2.1
  have e : wo σ s (σ 1 s) (σ 1 s * σ 1 s) 0 22 = σ 1 s := by simp [wo]
  refine ⟨⟨by omega, by omega⟩, fun i j a b c d => ?_⟩
  rw [e] at b d
  rw [wo_wk ⟨by omega, tn⟩ rfl ⟨a, b⟩ ⟨c, d⟩]
  have := cB_bd hB ⟨u1, u2⟩ ⟨a, b⟩ ⟨c, d⟩
  omega
