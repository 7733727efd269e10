def shr (x y : Int) : Prop := 0 ≤ x ∧ x ≤ 9999 ∧ 1 ≤ y ∧ y ≤ 9999
def XmA (σ : eS) (s x y o u v w : Int) (σ' : eS) (z : Int) : Prop := (z = 0 ∧ tbS σ σ' ∧ ¬ (shr x y ∧ shr u v ∧ likeA σ s o w)) ∨ ((shr x y ∧ shr u v ∧ likeA σ s o w) ∧ MXA σ (s.toNat + 2) (o.toNat + 2) (w.toNat + 2) x y u v σ' z)
def XtA (σ : eS) (s o w : Int) (σ' : eS) (z : Int) : Prop := (z = 0 ∧ tbS σ σ' ∧ ¬ likeA σ s o w) ∨ (likeA σ s o w ∧ MA σ (w.toNat + 2) (σ (s.toNat + 2) 1) (σ (s.toNat + 2) 2 * σ (o.toNat + 2) 2) (pdF σ (s.toNat + 2) (o.toNat + 2)) σ' z)
def okU (n s w r o : Int) : Prop := (0 ≤ s ∧ s < 4 ∧ n ≠ 0) ∧ (0 ≤ o ∧ o < 4) ∧ (0 ≤ w ∧ w ≤ 5) ∧ (3 < w → 0 ≤ r ∧ r < n)
def XuA (σ : eS) (s w r o : Int) (σ' : eS) (z : Int) : Prop := (z = 0 ∧ tbS σ σ' ∧ ¬ okU (σ (s.toNat + 2) 1) s w r o) ∨ (okU (σ (s.toNat + 2) 1) s w r o ∧ MA σ (o.toNat + 2) (σ (s.toNat + 2) 1) (σ (s.toNat + 2) 2) (tuF σ (s.toNat + 2) w r (σ (s.toNat + 2) 1)) σ' z)
theorem tbS_rf (σ : eS) : tbS σ σ := fun _ _ _ _ _ => rfl
theorem t_Ev_mix {σ : eS} {s x y o u v w : Int} (h : IA σ) : MtI shA M_Ev_mix [vr 0, vi s, vi x, vi y, vi o, vi u, vi v, vi w] σ (fun σ' z => QA0 σ σ' ∧ XmA σ s x y o u v w σ' z) := by
  refine Mt.of okM_Ev_mix (Nat.le_of_ble_eq_true rfl) (fun hk hg => ?_)
  refine ok_iload_n 0 rfl rfl rfl (ok_iload_n 1 rfl rfl rfl (ok_callSI (M' := M_Ev_isShare) (as := [_, _]) 2 rfl rfl ml_X11_143 (s_Ev_isShare) ⟨Nat.le_of_ble_eq_true rfl, Nat.le_of_ble_eq_true rfl⟩ rfl (Nat.le_of_ble_eq_true rfl) (fun σ' z1 x1 => ?_)))
  obtain ⟨hs_, x1⟩ := x1
  rw [hs_]; clear hs_ σ'
  refine ok_if_eq 3 30 rfl rfl rfl (fun h5 => ?_) (fun h5 => ?_)
  · refine ok_iconst 14 rfl rfl (by decide) (ok_zret 15 rfl rfl rfl (by first | omega | (simp [up_if]; omega) | (simp [up_if] at *; omega)) ?_)
    exact ⟨_, rfl, (QA_rf h).q0, Or.inl ⟨rfl, tbS_rf _, fun q => by have := q.1; unfold shr at this; omega⟩⟩
  · refine ok_iload 4 rfl rfl rfl (ok_iload 5 rfl rfl rfl (ok_callSI (M' := M_Ev_isShare) (as := [_, _]) 6 rfl rfl ml_X11_143 (s_Ev_isShare) ⟨Nat.le_of_ble_eq_true rfl, Nat.le_of_ble_eq_true rfl⟩ rfl (Nat.le_of_ble_eq_true rfl) (fun σ' z2 x2 => ?_)))
    obtain ⟨hs_, x2⟩ := x2
    rw [hs_]; clear hs_ σ'
    refine ok_if_eq 7 30 rfl rfl rfl (fun h15 => ?_) (fun h15 => ?_)
    · refine ok_iconst 14 rfl rfl (by decide) (ok_zret 15 rfl rfl rfl (by first | omega | (simp [up_if]; omega) | (simp [up_if] at *; omega)) ?_)
      exact ⟨_, rfl, (QA_rf h).q0, Or.inl ⟨rfl, tbS_rf _, fun q => by have := q.2.1; unfold shr at this; omega⟩⟩
    · refine ok_aload_n 8 rfl rfl rfl (ok_iload_n 9 rfl rfl rfl (ok_iload 10 rfl rfl rfl (ok_iload 11 rfl rfl rfl (ok_callVI (M' := M_Ev_areLike) (as := [_, _, _]) 12 rfl rfl ml_X11_147 (s_Ev_areLike) rfl rfl (Nat.le_of_ble_eq_true rfl) ⟨Nat.le_of_ble_eq_true rfl, Nat.le_of_ble_eq_true rfl⟩ rfl (Nat.le_of_ble_eq_true rfl) (fun σ' z3 x3 => ?_)))))
      obtain ⟨hs_, x3⟩ := x3
      rw [hs_]; clear hs_ σ'
      refine ok_if_ne 13 32 rfl rfl rfl (fun h27 => ?_) (fun h27 => ?_)
      · have hl : likeA σ s o w := by
          rcases x3 with q | q
          · exact absurd q.1 h27
          · exact q.2
        obtain ⟨a1, a2, a3, a4, a5, a6, a7, a8⟩ := id hl
        clear x3 h27
        have ht := sl_tA ⟨a1, a2⟩
        have hu := sl_tA ⟨a3, a4⟩
        have hv := sl_tA ⟨a5, a6⟩
        refine ok_aload_n 16 rfl rfl rfl (ok_getR 17 rfl rfl fl_X11_25 rfl rfl (ok_aload_n 18 rfl rfl rfl (ok_getR 19 rfl rfl fl_X11_11 rfl rfl (ok_iload_n 20 rfl rfl rfl (ok_aald 21 (s.toNat + 2) rfl rfl rfl (Or.inl rfl) (by omega) (sl_at (by omega)) (ok_iload_n 22 rfl rfl rfl (ok_iload_n 23 rfl rfl rfl (ok_aload_n 24 rfl rfl rfl (ok_getR 25 rfl rfl fl_X11_11 rfl rfl (ok_iload 26 rfl rfl rfl (ok_aald 27 (o.toNat + 2) rfl rfl rfl (Or.inl rfl) (by omega) (sl_at (by omega)) (ok_iload 28 rfl rfl rfl (ok_iload 29 rfl rfl rfl (ok_aload_n 30 rfl rfl rfl (ok_getR 31 rfl rfl fl_X11_11 rfl rfl (ok_iload 32 rfl rfl rfl (ok_aald 33 (w.toNat + 2) rfl rfl rfl (Or.inl rfl) (by omega) (sl_at (by omega)) (ok_callVI (M' := M_Mk_makeMixture) (as := [_, _, _, _, _, _, _]) 34 rfl rfl ml_X11_151 (t_Mk_makeMixture ht hu hv h.2.2.2.2.2 (h.2.1 _ ht).1 (h.2.1 _ hu).1 (h.2.1 _ hv).1 (h.2.1 _ hv).2 a7 a8 (by omega) (by omega)) rfl rfl (Nat.le_of_ble_eq_true rfl) ⟨Nat.le_of_ble_eq_true rfl, Nat.le_of_ble_eq_true rfl⟩ rfl (Nat.le_of_ble_eq_true rfl) (fun τ z hz => ?_)))))))))))))))))))
        refine ok_zret 35 rfl rfl rfl hz.1.2.2.2.2 ?_
        exact ⟨_, rfl, QA_mk h hv hz.1, Or.inr ⟨⟨⟨by omega, by omega, by omega, by omega⟩, ⟨by omega, by omega, by omega, by omega⟩, hl⟩, hz.2⟩⟩
      · refine ok_iconst 14 rfl rfl (by decide) (ok_zret 15 rfl rfl rfl (by first | omega | (simp [up_if]; omega) | (simp [up_if] at *; omega)) ?_)
        refine ⟨_, rfl, (QA_rf h).q0, Or.inl ⟨rfl, tbS_rf _, fun q => ?_⟩⟩
        rcases x3 with c | c
        · exact c.2 q.2.2
        · omega
theorem t_Ev_times {σ : eS} {s o w : Int} (h : IA σ) : MtI shA M_Ev_times [vr 0, vi s, vi o, vi w] σ (fun σ' z => QA0 σ σ' ∧ XtA σ s o w σ' z) := by
  refine Mt.of okM_Ev_times (Nat.le_of_ble_eq_true rfl) (fun hk hg => ?_)
  refine ok_aload_n 0 rfl rfl rfl (ok_iload_n 1 rfl rfl rfl (ok_iload_n 2 rfl rfl rfl (ok_iload_n 3 rfl rfl rfl (ok_callVI (M' := M_Ev_areLike) (as := [_, _, _]) 4 rfl rfl ml_X11_147 (s_Ev_areLike) rfl rfl (Nat.le_of_ble_eq_true rfl) ⟨Nat.le_of_ble_eq_true rfl, Nat.le_of_ble_eq_true rfl⟩ rfl (Nat.le_of_ble_eq_true rfl) (fun σ' z3 x3 => ?_)))))
  obtain ⟨hs_, x3⟩ := x3
  rw [hs_]; clear hs_ σ'
  refine ok_if_eq 5 42 rfl rfl rfl (fun h7 => ?_) (fun h7 => ?_)
  · refine ok_iconst 24 rfl rfl (by decide) (ok_zret 25 rfl rfl rfl (by first | omega | (simp [up_if]; omega) | (simp [up_if] at *; omega)) ?_)
    refine ⟨_, rfl, (QA_rf h).q0, Or.inl ⟨rfl, tbS_rf _, fun q => ?_⟩⟩
    rcases x3 with c | c
    · exact c.2 q
    · omega
  · have hl : likeA σ s o w := by
      rcases x3 with q | q
      · exact absurd q.1 h7
      · exact q.2
    obtain ⟨a1, a2, a3, a4, a5, a6, a7, a8⟩ := id hl
    clear x3 h7
    have ht := sl_tA ⟨a1, a2⟩
    have hu := sl_tA ⟨a3, a4⟩
    have hv := sl_tA ⟨a5, a6⟩
    refine ok_aload_n 6 rfl rfl rfl (ok_getR 7 rfl rfl fl_X11_25 rfl rfl (ok_aload_n 8 rfl rfl rfl (ok_getR 9 rfl rfl fl_X11_11 rfl rfl (ok_iload_n 10 rfl rfl rfl (ok_aald 11 (s.toNat + 2) rfl rfl rfl (Or.inl rfl) (by omega) (sl_at (by omega)) (ok_aload_n 12 rfl rfl rfl (ok_getR 13 rfl rfl fl_X11_11 rfl rfl (ok_iload_n 14 rfl rfl rfl (ok_aald 15 (o.toNat + 2) rfl rfl rfl (Or.inl rfl) (by omega) (sl_at (by omega)) (ok_aload_n 16 rfl rfl rfl (ok_getR 17 rfl rfl fl_X11_11 rfl rfl (ok_iload_n 18 rfl rfl rfl (ok_aald 19 (w.toNat + 2) rfl rfl rfl (Or.inl rfl) (by omega) (sl_at (by omega)) (ok_callVI (M' := M_Mk_makeProduct) (as := [_, _, _]) 20 rfl rfl ml_X11_155 (t_Mk_makeProduct ht hu hv h.2.2.2.2.2 (h.2.1 _ ht).1 (h.2.1 _ hu).1 (h.2.1 _ hv).1 (h.2.1 _ hv).2 a7 a8) rfl rfl (Nat.le_of_ble_eq_true rfl) ⟨Nat.le_of_ble_eq_true rfl, Nat.le_of_ble_eq_true rfl⟩ rfl (Nat.le_of_ble_eq_true rfl) (fun τ z hz => ?_)))))))))))))))
    refine ok_if_eq 21 42 rfl rfl rfl (fun h35 => ?_) (fun h35 => ?_)
    · refine ok_iconst 24 rfl rfl (by decide) (ok_zret 25 rfl rfl rfl (by first | omega | (simp [up_if]; omega) | (simp [up_if] at *; omega)) ?_)
      refine ⟨_, rfl, QA_mk h hv hz.1, Or.inr ⟨hl, ?_⟩⟩
      have hz1 := hz.1.2.2.2.2
      have hz2 := hz.2
      first | (rw [show z = 0 by omega] at hz2; exact hz2) | (rw [show z = 1 by omega] at hz2; exact hz2)
    · refine ok_iconst 22 rfl rfl (by decide) (ok_goto 23 43 rfl rfl rfl (ok_zret 25 rfl rfl rfl (by first | omega | (simp [up_if]; omega) | (simp [up_if] at *; omega)) ?_))
      refine ⟨_, rfl, QA_mk h hv hz.1, Or.inr ⟨hl, ?_⟩⟩
      have hz1 := hz.1.2.2.2.2
      have hz2 := hz.2
      first | (rw [show z = 0 by omega] at hz2; exact hz2) | (rw [show z = 1 by omega] at hz2; exact hz2)
theorem t_Ev_turn {σ : eS} {s w r o : Int} (h : IA σ) : MtI shA M_Ev_turn [vr 0, vi s, vi w, vi r, vi o] σ (fun σ' z => QA0 σ σ' ∧ XuA σ s w r o σ' z) := by
  refine Mt.of okM_Ev_turn (Nat.le_of_ble_eq_true rfl) (fun hk hg => ?_)
  refine ok_aload_n 0 rfl rfl rfl (ok_iload_n 1 rfl rfl rfl (ok_callVR (M' := M_Ev_filledSlot) (as := [_]) 2 rfl rfl ml_X11_137 (s_Ev_filledSlot) rfl rfl (Nat.le_of_ble_eq_true rfl) ⟨Nat.le_of_ble_eq_true rfl, Nat.le_of_ble_eq_true rfl⟩ rfl (Nat.le_of_ble_eq_true rfl) (fun σ' z1 x1 => ?_)))
  obtain ⟨hs_, x1⟩ := x1
  rw [hs_]; clear hs_ σ'
  refine ok_ast5 3 rfl rfl rfl (ok_aload_n 4 rfl rfl rfl (ok_iload 5 rfl rfl rfl (ok_callVR (M' := M_Ev_slotAt) (as := [_]) 6 rfl rfl ml_X11_86 (s_Ev_slotAt) rfl rfl (Nat.le_of_ble_eq_true rfl) ⟨Nat.le_of_ble_eq_true rfl, Nat.le_of_ble_eq_true rfl⟩ rfl (Nat.le_of_ble_eq_true rfl) (fun σ' z2 x2 => ?_))))
  obtain ⟨hs_, x2⟩ := x2
  rw [hs_]; clear hs_ σ'
  rcases x1 with ⟨q, q0⟩ | ⟨q1, q2, q, q3⟩
  · subst q
    refine ok_ast6 7 rfl rfl rfl (ok_aload 8 rfl rfl rfl (ok_ifnullN 9 48 rfl rfl rfl (ok_iconst 24 rfl rfl (by decide) (ok_zret 25 rfl rfl rfl (by first | omega | (simp [up_if]; omega) | (simp [up_if] at *; omega)) ?_))))
    exact ⟨_, rfl, (QA_rf h).q0, Or.inl ⟨rfl, tbS_rf _, fun q => q0 q.1⟩⟩
  · subst q
    have ht := sl_tA ⟨q1, q2⟩
    rcases x2 with ⟨q, q4⟩ | ⟨r1, r2, q⟩
    · subst q
      refine ok_ast6 7 rfl rfl rfl (ok_aload 8 rfl rfl rfl (ok_ifnull 9 rfl rfl (ok_aload 10 rfl rfl rfl (ok_ifnullN 11 48 rfl rfl rfl (ok_iconst 24 rfl rfl (by decide) (ok_zret 25 rfl rfl rfl (by first | omega | (simp [up_if]; omega) | (simp [up_if] at *; omega)) ?_))))))
      exact ⟨_, rfl, (QA_rf h).q0, Or.inl ⟨rfl, tbS_rf _, fun q => q4 q.2.1⟩⟩
    · subst q
      have hu := sl_tA ⟨r1, r2⟩
      have tail : 0 ≤ w → w ≤ 5 → (3 < w → 0 ≤ r ∧ r < σ (s.toNat + 2) 1) → Ok shA M_Ev_turn 50 [some (vr 0), some (vi s), some (vi w), some (vi r), some (vi o), some (vr (s.toNat + 2)), some (vr (o.toNat + 2))] [] σ (fun σ' v => ∃ z, v = some (vi z) ∧ QA0 σ σ' ∧ XuA σ s w r o σ' z) := by
        intro w1 w2 hr
        refine ok_aload_n 26 rfl rfl rfl (ok_getR 27 rfl rfl fl_X11_25 rfl rfl (ok_aload 28 rfl rfl rfl (ok_iload_n 29 rfl rfl rfl (ok_iload_n 30 rfl rfl rfl (ok_aload 31 rfl rfl rfl (ok_callVI (M' := M_Mk_makeTurned) (as := [_, _, _, _]) 32 rfl rfl ml_X11_159 (t_Mk_makeTurned ht hu h.2.2.2.2.2 (h.2.1 _ ht).1 (h.2.1 _ hu).1 (h.2.1 _ hu).2 q3 hr ⟨w1, w2⟩) rfl rfl (Nat.le_of_ble_eq_true rfl) ⟨Nat.le_of_ble_eq_true rfl, Nat.le_of_ble_eq_true rfl⟩ rfl (Nat.le_of_ble_eq_true rfl) (fun τ z hz => ?_)))))))
        refine ok_zret 33 rfl rfl rfl hz.1.2.2.2.2 ?_
        exact ⟨_, rfl, QA_mk h hu hz.1, Or.inr ⟨⟨⟨q1, q2, q3⟩, ⟨r1, r2⟩, ⟨w1, w2⟩, hr⟩, hz.2⟩⟩
      refine ok_ast6 7 rfl rfl rfl (ok_aload 8 rfl rfl rfl (ok_ifnull 9 rfl rfl (ok_aload 10 rfl rfl rfl (ok_ifnull 11 rfl rfl (ok_iload_n 12 rfl rfl rfl (ok_if_lt 13 48 rfl rfl rfl (fun h26 => ?_) (fun h26 => ?_)))))))
      · refine ok_iconst 24 rfl rfl (by decide) (ok_zret 25 rfl rfl rfl (by first | omega | (simp [up_if]; omega) | (simp [up_if] at *; omega)) ?_)
        exact ⟨_, rfl, (QA_rf h).q0, Or.inl ⟨rfl, tbS_rf _, fun q => by obtain ⟨-, -, c, d⟩ := q; omega⟩⟩
      · refine ok_iload_n 14 rfl rfl rfl (ok_iconst 15 rfl rfl (by decide) (ok_icmp_gt 16 48 rfl rfl rfl (fun h31 => ?_) (fun h31 => ?_)))
        · refine ok_iconst 24 rfl rfl (by decide) (ok_zret 25 rfl rfl rfl (by first | omega | (simp [up_if]; omega) | (simp [up_if] at *; omega)) ?_)
          exact ⟨_, rfl, (QA_rf h).q0, Or.inl ⟨rfl, tbS_rf _, fun q => by obtain ⟨-, -, c, d⟩ := q; omega⟩⟩
        · refine ok_iload_n 17 rfl rfl rfl (ok_iconst 18 rfl rfl (by decide) (ok_icmp_le 19 50 rfl rfl rfl (fun h36 => ?_) (fun h36 => ?_)))
          · exact tail (by omega) (by omega) (by omega)
          · refine ok_aload 20 rfl rfl rfl (ok_iload_n 21 rfl rfl rfl (ok_callVI (M' := M_Ta_has) (as := [_]) 22 rfl rfl ml_X11_129 (s_Ta_has ht) (sT ht) rfl (Nat.le_of_ble_eq_true rfl) ⟨Nat.le_of_ble_eq_true rfl, Nat.le_of_ble_eq_true rfl⟩ rfl (Nat.le_of_ble_eq_true rfl) (fun σ' z3 x3 => ?_)))
            obtain ⟨hs_, x3⟩ := x3
            rw [hs_]; clear hs_ σ'
            refine ok_if_ne 23 50 rfl rfl rfl (fun h45 => ?_) (fun h45 => ?_)
            · exact tail (by omega) (by omega) (by omega)
            · refine ok_iconst 24 rfl rfl (by decide) (ok_zret 25 rfl rfl rfl (by first | omega | (simp [up_if]; omega) | (simp [up_if] at *; omega)) ?_)
              exact ⟨_, rfl, (QA_rf h).q0, Or.inl ⟨rfl, tbS_rf _, fun q => by obtain ⟨-, -, c, d⟩ := q; omega⟩⟩
