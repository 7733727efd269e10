abbrev rgO : Nat → Int → Prop := fun c k => (c = 0 ∧ k = 4) ∨ c = 1 ∨ c = 2 ∨ c = 3 ∨ c = 4 ∨ c = 6 ∨ c = 7
def QO (σ : eS) (σ' : eS) (z : Int) : Prop := fr rgO σ σ' ∧ iB1 σ' ∧ (z = 0 ∨ z = 1)
theorem gcd_div {u g : Int} (hu : 1 ≤ u) (hg : 1 ≤ g) (h : g ≤ u) : 1 ≤ u / g ∧ u / g ≤ u := by
  have h1 : u / g ≤ u := Int.ediv_le_self g (by omega)
  have h2 : 1 ≤ u / g := (Int.le_ediv_iff_mul_le (by omega)).mpr (by omega)
  exact ⟨h2, h1⟩
theorem div_bd {u g B : Int} (hu : 0 ≤ u ∧ u ≤ B) (hg : 1 ≤ g) : 0 ≤ u / g ∧ u / g ≤ B := by
  have h1 : u / g ≤ u := Int.ediv_le_self g hu.1
  have h2 : 0 ≤ u / g := Int.ediv_nonneg hu.1 (by omega)
  exact ⟨h2, by omega⟩
theorem mul_bd {a b A B : Int} (ha : 0 ≤ a ∧ a ≤ A) (hb : 0 ≤ b ∧ b ≤ B) : 0 ≤ a * b ∧ a * b ≤ A * B :=
  ⟨Int.mul_nonneg ha.1 hb.1, Int.mul_le_mul ha.2 hb.2 hb.1 (Int.le_trans ha.1 ha.2)⟩
