/-! PAIRED: the first of the joined choices, on both sides -/
def okPr (T : Prop) (n l r : Int) : Prop := T ∧ isL l ∧ 0 ≤ r ∧ r < n
def paS (n : Int) (op : Int → Int → Prop) (r z : Int) : Prop := (¬ cpl n op n.toNat 0 ∧ z = -1) ∨ (cpl n op n.toNat 0 ∧ ∃ ch : Int → Int, fstC n (okJ n op) ch ∧ z = ch r)
theorem paS_un {n r z z' : Int} {op op' : Int → Int → Prop} (hn : 0 ≤ n ∧ n ≤ 8) (hr : 0 ≤ r ∧ r < n) (e : ∀ i j, 0 ≤ i → i < n → 0 ≤ j → j < n → (op i j ↔ op' i j)) (h : paS n op r z) (h' : paS n op' r z') : z = z' := by
  have c := cpl_cg e n.toNat 0 (by omega)
  rcases h with ⟨a1, a2⟩ | ⟨a1, ch, a2, a3⟩ <;> rcases h' with ⟨b1, b2⟩ | ⟨b1, ch', b2, b3⟩
  · rw [a2, b2]
  · exact absurd (c.mpr b1) a1
  · exact absurd (c.mp a1) b1
  · rw [a3, b3]; exact lex_un hn e a2 b2 r hr.1 hr.2
theorem paS_cg {n r z : Int} {op op' : Int → Int → Prop} (hn : 0 ≤ n ∧ n ≤ 8) (e : ∀ i j, 0 ≤ i → i < n → 0 ≤ j → j < n → (op i j ↔ op' i j)) (h : paS n op r z) : paS n op' r z := by
  have c := cpl_cg e n.toNat 0 (by omega)
  rcases h with ⟨a1, a2⟩ | ⟨a1, ch, a2, a3⟩
  · exact Or.inl ⟨fun q => a1 (c.mpr q), a2⟩
  · exact Or.inr ⟨c.mp a1, ch, lex_cg hn e a2, a3⟩
theorem t_Ev_paired {σ : eS} {s m r : Int} (h : IA σ ∧ iSe σ ∧ σ 16 3 + 64 < 2147483647) : MtI shA M_Ev_paired [vr 0, vi s, vi m, vi r] σ (fun σ' z => QA σ σ' ∧ ((¬ okPr (tabA σ s) (σ (s.toNat + 2) 1) m r ∧ z = -1) ∨ (okPr (tabA σ s) (σ (s.toNat + 2) 1) m r ∧ paS (σ (s.toNat + 2) 1) (fun i j => m ≤ cT σ (s.toNat + 2) i j) r z))) := by
  refine Mt.of okM_Ev_paired (Nat.le_of_ble_eq_true rfl) (fun hk hg => ?_)
  obtain ⟨h, hS, hS2⟩ := h
  refine ok_aload_n 0 rfl rfl rfl (ok_iload_n 1 rfl rfl rfl (ok_callVR (M' := M_Ev_filledSlot) (as := [_]) 2 rfl rfl ml_X11_137 (s_Ev_filledSlot) rfl rfl (Nat.le_of_ble_eq_true rfl) ⟨Nat.le_of_ble_eq_true rfl, Nat.le_of_ble_eq_true rfl⟩ rfl (Nat.le_of_ble_eq_true rfl) (fun σ' z hz => ?_)))
  obtain ⟨hs_, hz⟩ := hz
  rw [hs_]; clear hs_ σ'
  rcases hz with ⟨q, q0⟩ | ⟨q1, q2, q, q3⟩
  · subst q
    refine ok_ast4 3 rfl rfl rfl (ok_aload 4 rfl rfl rfl (ok_ifnullN 5 28 rfl rfl rfl (ok_iconst 13 rfl rfl (by decide) (ok_iret 14 rfl rfl rfl ?_))))
    exact ⟨_, rfl, QA_rf h, Or.inl ⟨fun c => q0 c.1, rfl⟩⟩
  · subst q
    have ht := sl_tA ⟨q1, q2⟩
    have hT := (h.2.1 _ ht).1
    have m1 := hT.1
    have m2 := hT.2.1
    refine ok_ast4 3 rfl rfl rfl (ok_aload 4 rfl rfl rfl (ok_ifnull 5 rfl rfl (ok_iload_n 6 rfl rfl rfl (ok_callSI (M' := M_Ev_isCell) (as := [_]) 7 rfl rfl ml_X11_208 (s_Ev_isCell) ⟨Nat.le_of_ble_eq_true rfl, Nat.le_of_ble_eq_true rfl⟩ rfl (Nat.le_of_ble_eq_true rfl) (fun σ' z0 x0 => ?_)))))
    obtain ⟨hs_, x0⟩ := x0
    rw [hs_]; clear hs_ σ'
    refine ok_if_eq 8 28 rfl rfl rfl (fun h16 => ?_) (fun h16 => ?_)
    · refine ok_iconst 13 rfl rfl (by decide) (ok_iret 14 rfl rfl rfl ?_)
      exact ⟨_, rfl, QA_rf h, Or.inl ⟨fun c => by have c2 := c.2.1; unfold isL at c2; omega, rfl⟩⟩
    · refine ok_aload 9 rfl rfl rfl (ok_iload_n 10 rfl rfl rfl (ok_callVI (M' := M_Ta_has) (as := [_]) 11 rfl rfl ml_X11_129 (s_Ta_has ht) (sT ht) rfl (Nat.le_of_ble_eq_true rfl) ⟨Nat.le_of_ble_eq_true rfl, Nat.le_of_ble_eq_true rfl⟩ rfl (Nat.le_of_ble_eq_true rfl) (fun σ' z1 x1 => ?_)))
      obtain ⟨hs_, x1⟩ := x1
      rw [hs_]; clear hs_ σ'
      refine ok_if_ne 12 30 rfl rfl rfl (fun h25 => ?_) (fun h25 => ?_)
      · refine ok_aload_n 15 rfl rfl rfl (ok_getR 16 rfl rfl fl_X11_32 rfl rfl (ok_aload 17 rfl rfl rfl (ok_iload_n 18 rfl rfl rfl (ok_callVL (M' := M_Ta_joinedBy) (as := [_]) 19 rfl rfl ml_X11_119 (t_Ta_joinedBy ht hT) (sT ht) rfl (Nat.le_of_ble_eq_true rfl) ⟨Nat.le_of_ble_eq_true rfl, Nat.le_of_ble_eq_true rfl⟩ rfl (Nat.le_of_ble_eq_true rfl) (fun σ' z2 x2 => ?_)))))
        obtain ⟨hs_, x2⟩ := x2
        rw [hs_]; clear hs_ σ'
        refine ok_aload 20 rfl rfl rfl (ok_getI 21 rfl rfl fl_X11_103 (sT ht) rfl (Or.inl rfl) (ok_callVI (M' := M_Ch_findFirst) (as := [_, _]) 22 rfl rfl ml_X11_223 (t_Ch_findFirst h.2.2.1 ⟨m1, m2⟩ x2 hS (by omega)) rfl rfl (Nat.le_of_ble_eq_true rfl) ⟨Nat.le_of_ble_eq_true rfl, Nat.le_of_ble_eq_true rfl⟩ rfl (Nat.le_of_ble_eq_true rfl) (fun τ z3 f => ?_)))
        obtain ⟨f1, f2, f3, f4, f5⟩ := f
        have fq : fr rgCh σ τ := f1.mono (fun c k w => by simp only [rgFf, rgCh] at w ⊢; omega)
        have hQ := QA_C h fq f2 (fun _ _ => ⟨f4, by omega, by omega⟩)
        have hok : okPr (tabA σ s) (σ (s.toNat + 2) 1) m r := ⟨⟨q1, q2, q3⟩, by unfold isL; omega, by omega, by omega⟩
        refine ok_if_eq 23 63 rfl rfl rfl (fun h48 => ?_) (fun h48 => ?_)
        · refine ok_iconst 30 rfl rfl (by decide) (ok_iret 31 rfl rfl rfl ?_)
          refine ⟨_, rfl, hQ, Or.inr ⟨hok, ?_⟩⟩
          rcases f5 with ⟨g1, g2⟩ | ⟨g1, g2, g3⟩
          · first | (exfalso; omega) | exact Or.inl ⟨g2, rfl⟩
          · first | (exfalso; omega) | exact Or.inr ⟨g2, fun i => τ 17 i, g3, rfl⟩
        · refine ok_aload_n 24 rfl rfl rfl (ok_getR 25 rfl rfl fl_X11_32 rfl rfl (ok_getR 26 rfl rfl fl_X11_227 rfl rfl (ok_iload_n 27 rfl rfl rfl (ok_iald 28 rfl rfl rfl (by first | omega | (simp [up_if]; omega) | (simp [up_if] at *; omega)) (ok_goto 29 64 rfl rfl rfl (ok_iret 31 rfl rfl rfl ?_))))))
          refine ⟨_, rfl, hQ, Or.inr ⟨hok, ?_⟩⟩
          rcases f5 with ⟨g1, g2⟩ | ⟨g1, g2, g3⟩
          · first | (exfalso; omega) | exact Or.inl ⟨g2, rfl⟩
          · first | (exfalso; omega) | exact Or.inr ⟨g2, fun i => τ 17 i, g3, rfl⟩
      · refine ok_iconst 13 rfl rfl (by decide) (ok_iret 14 rfl rfl rfl ?_)
        exact ⟨_, rfl, QA_rf h, Or.inl ⟨fun c => by have c2 := c.2.2; omega, rfl⟩⟩
theorem t_Mo_paired {σ : eS} {s l r : Int} (hB : iB1 σ) : MtI shB M_Mo_paired [vr 0, vi s, vi l, vi r] σ (fun σ' z => fr rgS σ σ' ∧ ((¬ okPr (tabB σ s) (σ 1 s) l r ∧ z = -1) ∨ (okPr (tabB σ s) (σ 1 s) l r ∧ paS (σ 1 s) (fun i j => l ≤ cB σ s i j) r z))) := by
  refine Mt.of okM_Mo_paired (Nat.le_of_ble_eq_true rfl) (fun hk hg => ?_)
  refine ok_aload_n 0 rfl rfl rfl (ok_iload_n 1 rfl rfl rfl (ok_callVI (M' := M_Mo_isTable) (as := [_]) 2 rfl rfl ml_X12_111 (s_Mo_isTable_r) rfl rfl (Nat.le_of_ble_eq_true rfl) ⟨Nat.le_of_ble_eq_true rfl, Nat.le_of_ble_eq_true rfl⟩ rfl (Nat.le_of_ble_eq_true rfl) (fun σ' z1 a1 => ?_)))
  obtain ⟨hs_, a1⟩ := a1
  rw [hs_]; clear hs_ σ'
  refine ok_if_eq 3 33 rfl rfl rfl (fun h5 => ?_) (fun h5 => ?_)
  · refine ok_iconst 19 rfl rfl (by decide) (ok_iret 20 rfl rfl rfl ?_)
    exact ⟨_, rfl, fr.rf, Or.inl ⟨fun c => no1 a1 h5 c.1, rfl⟩⟩
  · refine ok_iload_n 4 rfl rfl rfl (ok_callSI (M' := M_Mo_isLeast) (as := [_]) 5 rfl rfl ml_X12_343 (s_Mo_isLeast) ⟨Nat.le_of_ble_eq_true rfl, Nat.le_of_ble_eq_true rfl⟩ rfl (Nat.le_of_ble_eq_true rfl) (fun σ' z2 a2 => ?_))
    obtain ⟨hs_, a2⟩ := a2
    rw [hs_]; clear hs_ σ'
    refine ok_if_eq 6 33 rfl rfl rfl (fun h12 => ?_) (fun h12 => ?_)
    · refine ok_iconst 19 rfl rfl (by decide) (ok_iret 20 rfl rfl rfl ?_)
      exact ⟨_, rfl, fr.rf, Or.inl ⟨fun c => no1 a2 h12 c.2.1, rfl⟩⟩
    · obtain ⟨u1, u2, u3⟩ := yes1 a1 h5
      have tn := hB.1 s u1 u2
      refine ok_iload_n 7 rfl rfl rfl (ok_i2l 8 rfl rfl (ok_lconst (w := 0) 9 rfl rfl rfl (by decide) (ok_aload_n 10 rfl rfl rfl (ok_getR 11 rfl rfl fl_X12_7 rfl rfl (ok_iload_n 12 rfl rfl rfl (ok_iald 13 rfl rfl rfl (by first | omega | (simp [up_if]; omega) | (simp [up_if] at *; omega)) (ok_iconst 14 rfl rfl (by decide) (ok_isub 15 rfl rfl (by first | omega | (simp [up_if]; omega) | (simp [up_if] at *; omega)) (ok_i2l 16 rfl rfl (ok_callSI (M' := M_Mo_isIn) (as := [_, _, _]) 17 rfl rfl ml_X12_99 (s_Mo_isIn_r) ⟨Nat.le_of_ble_eq_true rfl, Nat.le_of_ble_eq_true rfl⟩ rfl (Nat.le_of_ble_eq_true rfl) (fun σ' z3 a3 => ?_)))))))))))
      obtain ⟨hs_, a3⟩ := a3
      rw [hs_]; clear hs_ σ'
      refine ok_if_ne 18 35 rfl rfl rfl (fun h30 => ?_) (fun h30 => ?_)
      · have f := wo_fr σ s (σ 1 s) (σ 1 s * σ 1 s)
        have hr := yes1 a3 h30
        have e22 := wo_22 σ s
        have hnW : nW (wo σ s (σ 1 s) (σ 1 s * σ 1 s)) := by unfold nW; rw [e22]; omega
        have hag := wo_wkB hB ⟨u1, u2, u3⟩
        have hok : okPr (tabB σ s) (σ 1 s) l r := ⟨⟨u1, u2, u3⟩, yes1 a2 h12, by omega, by omega⟩
        have he : ∀ i j, 0 ≤ i → i < σ 1 s → 0 ≤ j → j < σ 1 s → (opB (wo σ s (σ 1 s) (σ 1 s * σ 1 s)) l (-1) (-1) i j ↔ l ≤ cB σ s i j) := fun i j a b c d => by rw [opB_m i j a b c d, hag i j a b c d]
        refine ok_aload_n 21 rfl rfl rfl (ok_iload_n 22 rfl rfl rfl (ok_callVV (M' := M_Mo_worksOn) (as := [_]) 23 rfl rfl ml_X12_294 (s_Mo_worksOn hB ⟨u1, u2, u3⟩) rfl rfl (Nat.le_of_ble_eq_true rfl) ⟨Nat.le_of_ble_eq_true rfl, Nat.le_of_ble_eq_true rfl⟩ rfl (Nat.le_of_ble_eq_true rfl) (fun σ' hz => ?_)))
        rw [hz]
        clear hz σ'
        refine ok_aload_n 24 rfl rfl rfl (ok_iload_n 25 rfl rfl rfl (ok_iconst 26 rfl rfl (by decide) (ok_iconst 27 rfl rfl (by decide) (ok_callVI (M' := M_Mo_isChosen) (as := [_, _, _]) 28 rfl rfl ml_X12_260 (s_Mo_isChosen hnW) rfl rfl (Nat.le_of_ble_eq_true rfl) ⟨Nat.le_of_ble_eq_true rfl, Nat.le_of_ble_eq_true rfl⟩ rfl (Nat.le_of_ble_eq_true rfl) (fun σ' z hz => ?_)))))
        have g := f.tr hz.fr1
        rw [e22] at hz
        refine ok_if_eq 29 59 rfl rfl rfl (fun h47 => ?_) (fun h47 => ?_)
        · refine ok_iconst 35 rfl rfl (by decide) (ok_iret 36 rfl rfl rfl ?_)
          refine ⟨_, rfl, g, Or.inr ⟨hok, paS_cg ⟨by omega, by omega⟩ he ?_⟩⟩
          rcases hz with ⟨y1, y2, -⟩ | ⟨y1, y2, -, y3⟩
          · first | (exfalso; omega) | exact Or.inl ⟨y2, rfl⟩
          · first | (exfalso; omega) | exact Or.inr ⟨y2, fun i => σ' 11 i, lex_fst y3, rfl⟩
        · refine ok_aload_n 30 rfl rfl rfl (ok_getR 31 rfl rfl fl_X12_45 rfl rfl (ok_iload_n 32 rfl rfl rfl (ok_iald 33 rfl rfl rfl (by first | omega | (simp [up_if]; omega) | (simp [up_if] at *; omega)) (ok_goto 34 60 rfl rfl rfl (ok_iret 36 rfl rfl rfl ?_)))))
          refine ⟨_, rfl, g, Or.inr ⟨hok, paS_cg ⟨by omega, by omega⟩ he ?_⟩⟩
          rcases hz with ⟨y1, y2, -⟩ | ⟨y1, y2, -, y3⟩
          · first | (exfalso; omega) | exact Or.inl ⟨y2, rfl⟩
          · first | (exfalso; omega) | exact Or.inr ⟨y2, fun i => σ' 11 i, lex_fst y3, rfl⟩
      · refine ok_iconst 19 rfl rfl (by decide) (ok_iret 20 rfl rfl rfl ?_)
        exact ⟨_, rfl, fr.rf, Or.inl ⟨fun c => no1 a3 h30 (by have := c.2.2; omega), rfl⟩⟩
