/-- the loop: from its head, with both sides alike -/
theorem lw_lp {b L : Nat} {xs : Nat → Int32} {cells slots : Nat} (hL : L ≤ 4096) (hcs : cells ≤ 600000) (hss : slots ≤ 7302250) : ∀ (n : Nat) (i : Int) (σ τ : eS), 0 ≤ i → i ≤ (L : Int) → (L : Int) - i ≤ (n : Int) → JJ i σ τ → LOk b L xs cells slots 18 (lsL i) [] σ τ := by
  intro n
  induction n using Nat.strongRecOn with
  | ind n ih =>
    intro i σ τ i0 iL hn h
    refine lo_ild (tH_ok.d 0 rfl rfl) rfl rfl (lo_ald (tH_ok.d 1 rfl rfl) rfl rfl (lo_slen (tH_ok.d 2 rfl rfl) rfl hL (lo_bp (tH_ok.d 3 rfl rfl) rfl (by decide) (by decide) (lo_sub (tH_ok.d 4 rfl rfl) rfl ⟨by omega, by omega⟩ (lo_gt (tH_ok.d 5 rfl rfl) rfl rfl (fun h1 => ?_) (fun h1 => ?_))))))
    · exact lo_ic (tE_ok.d 2 rfl rfl) rfl (by decide) (lo_end (tE_ok.d 3 rfl rfl) hcs hss)
    · have K : ∀ σ' τ', JJ (i + 8) σ' τ' → LOk b L xs cells slots 1333 (lsL i) [] σ' τ' := fun σ' τ' h' => lo_inc (tE_ok.d 0 rfl rfl) rfl rfl ⟨by omega, by omega⟩ (lo_goto (tE_ok.d 1 rfl rfl) rfl (ih (n - 8) (by omega) (i + 8) σ' τ' (by omega) (by omega) (by omega) h'))
      refine lo_ald (tH_ok.d 6 rfl rfl) rfl rfl (lo_ild (tH_ok.d 7 rfl rfl) rfl rfl (lo_sld (tH_ok.d 8 rfl rfl) rfl ⟨by omega, by omega⟩ hL (lo_bp (tH_ok.d 9 rfl rfl) rfl (by decide) (by decide) (lo_and (tH_ok.d 10 rfl rfl) rfl ?_))))
      obtain ⟨w, ew⟩ : ∃ w : Int, w = iand (xs i.toNat).toInt 63 := ⟨_, rfl⟩
      rw [← ew]
      clear ew
      rcases (by omega : w = 0 ∨ w = 1 ∨ w = 2 ∨ w = 3 ∨ w = 4 ∨ w = 5 ∨ w = 6 ∨ w = 7 ∨ w = 8 ∨ w = 9 ∨ w = 10 ∨ w = 11 ∨ w = 12 ∨ w = 13 ∨ w = 14 ∨ w = 15 ∨ w = 16 ∨ w = 17 ∨ w = 18 ∨ w = 19 ∨ w = 20 ∨ w = 21 ∨ w = 22 ∨ w = 23 ∨ w = 24 ∨ w = 25 ∨ w = 26 ∨ w = 27 ∨ w = 28 ∨ w = 29 ∨ w = 30 ∨ w = 31 ∨ w = 32 ∨ (w < 0 ∨ 32 < w)) with q | q | q | q | q | q | q | q | q | q | q | q | q | q | q | q | q | q | q | q | q | q | q | q | q | q | q | q | q | q | q | q | q | q
      · subst q
        exact lo_tin (len := 147) (tH_ok.d 11 rfl rfl) (by decide) (by decide) rfl rfl (lw_c0 hL ⟨i0, by omega⟩ hcs hss h K)
      · subst q
        exact lo_tin (len := 147) (tH_ok.d 11 rfl rfl) (by decide) (by decide) rfl rfl (lw_c1 hL ⟨i0, by omega⟩ hcs hss h K)
      · subst q
        exact lo_tin (len := 147) (tH_ok.d 11 rfl rfl) (by decide) (by decide) rfl rfl (lw_c2 hL ⟨i0, by omega⟩ hcs hss h K)
      · subst q
        exact lo_tin (len := 147) (tH_ok.d 11 rfl rfl) (by decide) (by decide) rfl rfl (lw_c3 hL ⟨i0, by omega⟩ hcs hss h K)
      · subst q
        exact lo_tin (len := 147) (tH_ok.d 11 rfl rfl) (by decide) (by decide) rfl rfl (lw_c4 hL ⟨i0, by omega⟩ hcs hss h K)
      · subst q
        exact lo_tin (len := 147) (tH_ok.d 11 rfl rfl) (by decide) (by decide) rfl rfl (lw_c5 hL ⟨i0, by omega⟩ hcs hss h K)
      · subst q
        exact lo_tin (len := 147) (tH_ok.d 11 rfl rfl) (by decide) (by decide) rfl rfl (lw_c6 hL ⟨i0, by omega⟩ hcs hss h K)
      · subst q
        exact lo_tin (len := 147) (tH_ok.d 11 rfl rfl) (by decide) (by decide) rfl rfl (lw_c7 hL ⟨i0, by omega⟩ hcs hss h K)
      · subst q
        exact lo_tin (len := 147) (tH_ok.d 11 rfl rfl) (by decide) (by decide) rfl rfl (lw_c8 hL ⟨i0, by omega⟩ hcs hss h K)
      · subst q
        exact lo_tin (len := 147) (tH_ok.d 11 rfl rfl) (by decide) (by decide) rfl rfl (lw_c9 hL ⟨i0, by omega⟩ hcs hss h K)
      · subst q
        exact lo_tin (len := 147) (tH_ok.d 11 rfl rfl) (by decide) (by decide) rfl rfl (lw_c10 hL ⟨i0, by omega⟩ hcs hss h K)
      · subst q
        exact lo_tin (len := 147) (tH_ok.d 11 rfl rfl) (by decide) (by decide) rfl rfl (lw_c11 hL ⟨i0, by omega⟩ hcs hss h K)
      · subst q
        exact lo_tin (len := 147) (tH_ok.d 11 rfl rfl) (by decide) (by decide) rfl rfl (lw_c12 hL ⟨i0, by omega⟩ hcs hss h K)
      · subst q
        exact lo_tin (len := 147) (tH_ok.d 11 rfl rfl) (by decide) (by decide) rfl rfl (lw_c13 hL ⟨i0, by omega⟩ hcs hss h K)
      · subst q
        exact lo_tin (len := 147) (tH_ok.d 11 rfl rfl) (by decide) (by decide) rfl rfl (lw_c14 hL ⟨i0, by omega⟩ hcs hss h K)
      · subst q
        exact lo_tin (len := 147) (tH_ok.d 11 rfl rfl) (by decide) (by decide) rfl rfl (lw_c15 hL ⟨i0, by omega⟩ hcs hss h K)
      · subst q
        exact lo_tin (len := 147) (tH_ok.d 11 rfl rfl) (by decide) (by decide) rfl rfl (lw_c16 hL ⟨i0, by omega⟩ hcs hss h K)
      · subst q
        exact lo_tin (len := 147) (tH_ok.d 11 rfl rfl) (by decide) (by decide) rfl rfl (lw_c17 hL ⟨i0, by omega⟩ hcs hss h K)
      · subst q
        exact lo_tin (len := 147) (tH_ok.d 11 rfl rfl) (by decide) (by decide) rfl rfl (lw_c18 hL ⟨i0, by omega⟩ hcs hss h K)
      · subst q
        exact lo_tin (len := 147) (tH_ok.d 11 rfl rfl) (by decide) (by decide) rfl rfl (lw_c19 hL ⟨i0, by omega⟩ hcs hss h K)
      · subst q
        exact lo_tin (len := 147) (tH_ok.d 11 rfl rfl) (by decide) (by decide) rfl rfl (lw_c20 hL ⟨i0, by omega⟩ hcs hss h K)
      · subst q
        exact lo_tin (len := 147) (tH_ok.d 11 rfl rfl) (by decide) (by decide) rfl rfl (lw_c21 hL ⟨i0, by omega⟩ hcs hss h K)
      · subst q
        exact lo_tin (len := 147) (tH_ok.d 11 rfl rfl) (by decide) (by decide) rfl rfl (lw_c22 hL ⟨i0, by omega⟩ hcs hss h K)
      · subst q
        exact lo_tin (len := 147) (tH_ok.d 11 rfl rfl) (by decide) (by decide) rfl rfl (lw_c23 hL ⟨i0, by omega⟩ hcs hss h K)
      · subst q
        exact lo_tin (len := 147) (tH_ok.d 11 rfl rfl) (by decide) (by decide) rfl rfl (lw_c24 hL ⟨i0, by omega⟩ hcs hss h K)
      · subst q
        exact lo_tin (len := 147) (tH_ok.d 11 rfl rfl) (by decide) (by decide) rfl rfl (lw_c25 hL ⟨i0, by omega⟩ hcs hss h K)
      · subst q
        exact lo_tin (len := 147) (tH_ok.d 11 rfl rfl) (by decide) (by decide) rfl rfl (lw_c26 hL ⟨i0, by omega⟩ hcs hss h K)
      · subst q
        exact lo_tin (len := 147) (tH_ok.d 11 rfl rfl) (by decide) (by decide) rfl rfl (lw_c27 hL ⟨i0, by omega⟩ hcs hss h K)
      · subst q
        exact lo_tin (len := 147) (tH_ok.d 11 rfl rfl) (by decide) (by decide) rfl rfl (lw_c28 hL ⟨i0, by omega⟩ hcs hss h K)
      · subst q
        exact lo_tin (len := 147) (tH_ok.d 11 rfl rfl) (by decide) (by decide) rfl rfl (lw_c29 hL ⟨i0, by omega⟩ hcs hss h K)
      · subst q
        exact lo_tin (len := 147) (tH_ok.d 11 rfl rfl) (by decide) (by decide) rfl rfl (lw_c30 hL ⟨i0, by omega⟩ hcs hss h K)
      · subst q
        exact lo_tin (len := 147) (tH_ok.d 11 rfl rfl) (by decide) (by decide) rfl rfl (lw_c31 hL ⟨i0, by omega⟩ hcs hss h K)
      · subst q
        exact lo_tin (len := 147) (tH_ok.d 11 rfl rfl) (by decide) (by decide) rfl rfl (lw_c32 hL ⟨i0, by omega⟩ hcs hss h K)
      · exact lo_tout (len := 147) (tH_ok.d 11 rfl rfl) q rfl (K σ τ h.mn)
