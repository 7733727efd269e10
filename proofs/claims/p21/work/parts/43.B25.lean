abbrev rgW : Nat → Int → Prop := fun c k => c = 23 ∨ (c = 0 ∧ k = 42)
def tn (e : Int) : Int := if e < 0 then 0 else if e = 0 then 1 else if e = 1 then 10 else if e = 2 then 100 else if e = 3 then 1000 else if e = 4 then 10000 else if e = 5 then 100000 else if e = 6 then 1000000 else if e = 7 then 10000000 else if e = 8 then 100000000 else 1000000000
theorem tn_s {e : Int} (h : 0 ≤ e ∧ e ≤ 8) : tn e * 10 = tn (e + 1) ∧ 1 ≤ tn e ∧ tn e ≤ 100000000 := by
  rcases (show e = 0 ∨ e = 1 ∨ e = 2 ∨ e = 3 ∨ e = 4 ∨ e = 5 ∨ e = 6 ∨ e = 7 ∨ e = 8 by omega) with q | q | q | q | q | q | q | q | q <;> subst q <;> exact ⟨rfl, by decide, by decide⟩
theorem tn_d {e : Int} (h : 0 ≤ e ∧ e ≤ 8) : tn e / 10 = tn (e - 1) := by
  rcases (show e = 0 ∨ e = 1 ∨ e = 2 ∨ e = 3 ∨ e = 4 ∨ e = 5 ∨ e = 6 ∨ e = 7 ∨ e = 8 by omega) with q | q | q | q | q | q | q | q | q <;> subst q <;> rfl
theorem tn_8 : tn 8 = 100000000 := rfl
theorem tn_n {e : Int} (h : 1 ≤ tn e) : 0 ≤ e := by
  by_cases q : e < 0
  · unfold tn at h
    rw [if_pos q] at h
    omega
  · omega
