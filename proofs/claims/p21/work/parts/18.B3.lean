/-! reading: what each step keeps -/
def P0 (σ : eS) : Prop := 0 ≤ σ 0 13 ∧ σ 0 13 ≤ σ 0 6 ∧ σ 0 6 ≤ 600
def lex (σ σ' : eS) : Prop := fr (fun c k => c = 0 ∧ 11 ≤ k ∧ k ≤ 15) σ σ' ∧ σ 0 13 ≤ σ' 0 12 ∧ σ' 0 12 ≤ σ' 0 13 ∧ σ' 0 13 ≤ σ 0 6 ∧ (σ' 0 11 = 0 ∨ σ' 0 11 = 2 ∨ σ' 0 11 = 3) ∧ (σ' 0 11 ≠ 0 → σ' 0 12 < σ' 0 13) ∧ 0 ≤ σ' 0 14 ∧ σ' 0 14 ≤ 999999
theorem seeB_lt {σ : eS} {k : Int} (h : seeB σ k ≠ -1) : k < σ 0 6 := by
  unfold seeB at h
  split at h
  · next q => exact q
  · exact absurd rfl h
def p10 (d : Int) : Int := if d ≤ 0 then 0 else if d = 1 then 9 else if d = 2 then 99 else if d = 3 then 999 else if d = 4 then 9999 else if d = 5 then 99999 else 999999
theorem p10_s {d x c : Int} (h0 : 0 ≤ d) (h1 : d < 6) (hx : x ≤ p10 d) (hc : c ≤ 9) : 10 * x + c ≤ p10 (d + 1) := by
  have : d = 0 ∨ d = 1 ∨ d = 2 ∨ d = 3 ∨ d = 4 ∨ d = 5 := by omega
  rcases this with rfl | rfl | rfl | rfl | rfl | rfl <;> simp [p10] at hx ⊢ <;> omega
theorem p10_m {d : Int} (h0 : 6 ≤ d) : p10 d = 999999 := by
  unfold p10
  repeat rw [if_neg (by omega)]
theorem p10_le (d : Int) : p10 d ≤ 999999 := by
  unfold p10
  repeat (split; omega)
  omega
