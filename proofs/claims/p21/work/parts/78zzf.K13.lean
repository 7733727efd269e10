/-! GROUPS: rows that hang together, counted by rounds and by labels -/
noncomputable def ind (p : Prop) : Int := @ite Int p (Classical.propDecidable _) 1 0
noncomputable def W2 (n : Int) (W : Int → Int → Int) (r k : Int) : Int := ind (∃ j, 0 ≤ j ∧ j < n ∧ 1 ≤ W r j ∧ 1 ≤ W k j)
