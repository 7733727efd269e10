section
/-! PEEL and SHOP, the class -/
theorem t_Mi_start {σ : eS} {a b c d : Int} : MtV shA M_Mi_start [vr 22, vi a, vi b, vi c, vi d] σ (fun σ' => fr (fun c k => c = 22 ∧ 2 ≤ k ∧ k ≤ 6) σ σ' ∧ σ' 22 2 = a ∧ σ' 22 3 = b ∧ σ' 22 4 = c ∧ σ' 22 5 = 0 ∧ σ' 22 6 = d) := by
  refine Mt.of okM_Mi_start (Nat.le_of_ble_eq_true rfl) (fun hk hg => ?_)
  refine ok_aload_n 0 rfl rfl rfl (ok_iload_n 1 rfl rfl rfl (ok_putI 2 rfl rfl fl_X3_18 rfl rfl rfl rfl (ok_aload_n 3 rfl rfl rfl (ok_iload_n 4 rfl rfl rfl (ok_putI 5 rfl rfl fl_X3_22 rfl rfl rfl rfl (ok_aload_n 6 rfl rfl rfl (ok_iload_n 7 rfl rfl rfl (ok_putI 8 rfl rfl fl_X3_25 rfl rfl rfl rfl (ok_aload_n 9 rfl rfl rfl (ok_iload 10 rfl rfl rfl (ok_putI 11 rfl rfl fl_X3_31 rfl rfl rfl rfl (ok_aload_n 12 rfl rfl rfl (ok_iconst 13 rfl rfl (by decide) (ok_putI 14 rfl rfl fl_X3_28 rfl rfl rfl rfl (ok_vret 15 rfl rfl rfl ?_)))))))))))))))
  exact ⟨rfl, fr_up (fr_up (fr_up (fr_up (fr_up fr.rf (by simp)) (by simp)) (by simp)) (by simp)) (by simp), by simp [up_if], by simp [up_if], by simp [up_if], by simp [up_if], by simp [up_if]⟩
abbrev rgPl : Nat → Int → Prop := fun c k => (16 ≤ c ∧ c ≤ 21) ∨ (c = 22 ∧ 2 ≤ k ∧ k ≤ 6) ∨ c = 23 ∨ c = 24
/-- parts are kept: kind, n, rows, whole and the parts -/
def mpA (σ σ' : eS) (kind n rows m r z : Int) (W : Int → Int → Int) : Prop := fr rgPl σ σ' ∧ iCh σ' ∧ cSe σ σ' 64 ∧ iMi σ' ∧ (σ' 22 2 = kind ∧ σ' 22 3 = n ∧ σ' 22 4 = rows ∧ σ' 22 5 = z ∧ σ' 22 6 = m) ∧ PE rows r W (fun q => σ' 23 q) (fun q i => σ' 24 (8 * q + i)) z
def evA (σ : eS) (s : Int) : Prop := 0 ≤ s ∧ s < 4 ∧ σ (s.toNat + 2) 3 ≠ -1
def okP (E : Prop) (r : Int) : Prop := E ∧ 0 ≤ r ∧ r ≤ 3
theorem evT_ev {σ : eS} {t : Nat} (hT : iT σ t) (h : evT σ t) : EvW (σ t 1) (cT σ t) (rowT σ t 0) := by
  refine ⟨fun i j a b c d => (cT_bd hT ⟨a, by have := hT.2.1; omega⟩ ⟨c, by have := hT.2.1; omega⟩).1, fun i a b => h.2.2.1 i a b, fun j a b => h.2.2.2 j a b⟩
def XpA (σ : eS) (s r : Int) (σ' : eS) (z : Int) : Prop := (¬ okP (evA σ s) r ∧ σ' = σ ∧ z = -1) ∨ (okP (evA σ s) r ∧ mpA σ σ' 1 (σ (s.toNat + 2) 1) (σ (s.toNat + 2) 1) (σ (s.toNat + 2) 3) r z (cT σ (s.toNat + 2)))
theorem t_Ev_peel {σ : eS} {s r : Int} (h : IA σ) (hS : iSe σ) (hS2 : σ 16 3 + 64 < 2147483647) : MtI shA M_Ev_peel [vr 0, vi s, vi r] σ (XpA σ s r) := by
  refine Mt.of okM_Ev_peel (Nat.le_of_ble_eq_true rfl) (fun hk hg => ?_)
  refine ok_aload_n 0 rfl rfl rfl (ok_iload_n 1 rfl rfl rfl (ok_callVR (M' := M_Ev_evenSlot) (as := [_]) 2 rfl rfl ml_X11_163 (s_Ev_evenSlot) rfl rfl (Nat.le_of_ble_eq_true rfl) ⟨Nat.le_of_ble_eq_true rfl, Nat.le_of_ble_eq_true rfl⟩ rfl (Nat.le_of_ble_eq_true rfl) (fun σ' z hz => ?_)))
  obtain ⟨hs_, hz⟩ := hz
  rw [hs_]; clear hs_ σ'
  rcases hz with ⟨q, q0⟩ | ⟨q1, q2, q, q3⟩
  · subst q
    refine ok_ast3 3 rfl rfl rfl (ok_aload_n 4 rfl rfl rfl (ok_ifnullN 5 17 rfl rfl rfl (ok_iconst 9 rfl rfl (by decide) (ok_iret 10 rfl rfl rfl ?_))))
    exact ⟨_, rfl, Or.inl ⟨fun c => q0 c.1, rfl, rfl⟩⟩
  · subst q
    have ht := sl_tA ⟨q1, q2⟩
    have nA := tA_10 ht
    obtain ⟨hT, hM⟩ := h.2.1 _ ht
    have hb := mT_bd hT hM q3
    have m2 := hT.2.1
    have hm := h.2.2.2.1
    obtain ⟨v1, v2⟩ : evT σ (s.toNat + 2) ∧ σ (s.toNat + 2) 3 = rowT σ (s.toNat + 2) 0 := by
      rcases hM with q | q
      · exact absurd q.1 q3
      · exact q
    have m1 := v1.1
    have hev := evT_ev hT v1
    rw [← v2] at hev
    refine ok_ast3 3 rfl rfl rfl (ok_aload_n 4 rfl rfl rfl (ok_ifnull 5 rfl rfl (ok_iload_n 6 rfl rfl rfl (ok_callSI (M' := M_Ev_isRule) (as := [_]) 7 rfl rfl ml_X11_166 (s_Ev_isRule) ⟨Nat.le_of_ble_eq_true rfl, Nat.le_of_ble_eq_true rfl⟩ rfl (Nat.le_of_ble_eq_true rfl) (fun σ' z1 x1 => ?_)))))
    obtain ⟨hs_, x1⟩ := x1
    rw [hs_]; clear hs_ σ'
    refine ok_if_ne 8 19 rfl rfl rfl (fun h14 => ?_) (fun h14 => ?_)
    · refine ok_aload_n 11 rfl rfl rfl (ok_getR 12 rfl rfl fl_X11_41 rfl rfl (ok_aload_n 13 rfl rfl rfl (ok_callVV (M' := M_Pe_startTable) (as := [_]) 14 rfl rfl ml_X11_169 (t_Pe_startTable (p := 20) (q := 21) (Or.inl ⟨rfl, rfl⟩) ht) rfl rfl (Nat.le_of_ble_eq_true rfl) ⟨Nat.le_of_ble_eq_true rfl, Nat.le_of_ble_eq_true rfl⟩ rfl (Nat.le_of_ble_eq_true rfl) (fun τ f => ?_))))
      obtain ⟨f1, f2, f3, f4, f5⟩ := f
      have e1 : τ (s.toNat + 2) 1 = σ (s.toNat + 2) 1 := f1 _ _ (by simp only [rgP0]; omega)
      have e3 : τ (s.toNat + 2) 3 = σ (s.toNat + 2) 3 := f1 _ _ (by simp only [rgP0]; omega)
      refine ok_aload_n 15 rfl rfl rfl (ok_getR 16 rfl rfl fl_X11_48 rfl rfl (ok_iconst 17 rfl rfl (by decide) (ok_aload_n 18 rfl rfl rfl (ok_getI 19 rfl rfl fl_X11_103 (sT ht) rfl (Or.inl rfl) (ok_aload_n 20 rfl rfl rfl (ok_getI 21 rfl rfl fl_X11_103 (sT ht) rfl (Or.inl rfl) (ok_aload_n 22 rfl rfl rfl (ok_getI 23 rfl rfl fl_X11_109 (sT ht) rfl (Or.inl rfl) (ok_callVV (M' := M_Mi_start) (as := [_, _, _, _]) 24 rfl rfl ml_X11_173 (t_Mi_start) rfl rfl (Nat.le_of_ble_eq_true rfl) ⟨Nat.le_of_ble_eq_true rfl, Nat.le_of_ble_eq_true rfl⟩ rfl (Nat.le_of_ble_eq_true rfl) (fun υ g => ?_))))))))))
      obtain ⟨g1, g2, g3, g4, g5, g6⟩ := g
      have k2 : υ 20 2 = σ (s.toNat + 2) 1 := by rw [g1 20 2 (by simp), f2]
      have k3 : υ 20 3 = σ (s.toNat + 2) 3 := by rw [g1 20 3 (by simp), f3]
      have F : fr rgPl σ υ := (f1.mono (fun c k w => by simp only [rgP0, rgPl] at w ⊢; omega)).tr (g1.mono (fun c k w => by simp only [rgPl]; omega))
      have M : iMi υ := ⟨by omega, fun k a b => by omega, fun k a b => by rw [g1 24 k (by simp), f1 24 k (by simp [rgP0])]; exact hm.2.2.1 k a b, by rw [g5, g6]; show (0 : Int) ≤ _; omega⟩
      have C : iCh υ := iCh_cg h.2.2.1 (fun k => by rw [g1 17 k (by simp), f1 17 k (by simp [rgP0])])
      have c16 : υ 16 3 = σ 16 3 := by rw [g1 16 3 (by simp), f1 16 3 (by simp [rgP0])]
      have SS : iSe υ := iSe_cg hS c16 (fun k => by rw [g1 19 k (by simp), f1 19 k (by simp [rgP0])])
      have B : bd64 υ 21 := fun k a b => by rw [g1 21 k (by simp), f5 k a b]; have := hT.2.2.2 k a b; omega
      have G : ag (σ (s.toNat + 2) 1) (pk υ 21) (cT σ (s.toNat + 2)) := fun i j a b c d => by
        unfold pk cT
        rw [g1 21 _ (by simp), f5 _ (by omega) (by omega)]
      refine ok_aload_n 25 rfl rfl rfl (ok_iload_n 26 rfl rfl rfl (ok_callVI (M' := M_Ev_keepParts) (as := [_]) 27 rfl rfl ml_X11_177 (t_Ev_keepParts (n := σ (s.toNat + 2) 1) (m := σ (s.toNat + 2) 3) (by omega) ⟨by omega, m2⟩ C SS (by omega) k2 B k3 ⟨by omega, by omega⟩ (EvW_cg hev (fun i j a b c d => G i j a b c d)) M g5 (by rw [g6, e3])) rfl rfl (Nat.le_of_ble_eq_true rfl) ⟨Nat.le_of_ble_eq_true rfl, Nat.le_of_ble_eq_true rfl⟩ rfl (Nat.le_of_ble_eq_true rfl) (fun ω z2 w => ?_)))
      refine ok_iret 28 rfl rfl rfl ?_
      obtain ⟨w1, w2, ⟨w3, w4, w5⟩, w6, w7, w8⟩ := w
      refine ⟨_, rfl, Or.inr ⟨⟨⟨q1, q2, q3⟩, by omega⟩, F.tr (w1.mono (fun c k w => by simp only [rgKq, rgPl] at w ⊢; omega)), w2, ⟨w3, by omega, by omega⟩, w6, ⟨?_, ?_, ?_, w7.symm, ?_⟩, PE_w0 G w8⟩⟩
      · rw [w1 22 2 (by simp [rgKq]), g2]
      · rw [w1 22 3 (by simp [rgKq]), g3, e1]
      · rw [w1 22 4 (by simp [rgKq]), g4, e1]
      · rw [w1 22 6 (by simp [rgKq]), g6, e3]
    · refine ok_iconst 9 rfl rfl (by decide) (ok_iret 10 rfl rfl rfl ?_)
      exact ⟨_, rfl, Or.inl ⟨fun c => by have := c.2; omega, rfl, rfl⟩⟩
/-- is there a cell above 0 -/
def anyP (n : Int) (c : Int → Int → Int) : Prop := ∃ i j, (0 ≤ i ∧ i < n) ∧ (0 ≤ j ∧ j < n) ∧ 0 < c i j
theorem t_Ta_greatestCell {σ : eS} {t : Nat} (ht : tA t) (hT : iT σ t) : MtI shA M_Ta_greatestCell [vr t] σ (fun σ' z => σ' = σ ∧ 0 ≤ z ∧ (z = 0 ↔ ¬ anyP (σ t 1) (cT σ t))) := by
  refine Mt.of okM_Ta_greatestCell (Nat.le_of_ble_eq_true rfl) (fun hk hg => ?_)
  have hn := hT.1
  have hn2 := hT.2.1
  refine ok_iconst 0 rfl rfl (by decide) (ok_ist1 1 rfl rfl rfl (ok_iconst 2 rfl rfl (by decide) (ok_ist2 3 rfl rfl rfl ?_)))
  refine lpO2 (fun v i : Int => [some (vr t), some (vi v), some (vi i), none]) (fun _ _ => σ) (fun v i => (0 ≤ i ∧ i ≤ σ t 1 ∧ 0 ≤ v) ∧ (0 < v → anyP (σ t 1) (cT σ t)) ∧ ∀ x y, 0 ≤ x → x < i → 0 ≤ y → y < σ t 1 → cT σ t x y ≤ v) (fun _ i => (8 - i).toNat) ?_ 0 0 ⟨⟨by omega, by omega, by omega⟩, fun q => by omega, fun x y a b => by omega⟩
  rintro v i ⟨⟨i1, i2, v1⟩, v2, v3⟩ ih
  refine ok_iload_n 4 rfl rfl rfl (ok_aload_n 5 rfl rfl rfl (ok_getI 6 rfl rfl fl_X9_15 (sT ht) rfl (Or.inl rfl) (ok_icmp_ge 7 50 rfl rfl rfl (fun h9 => ?_) (fun h9 => ?_))))
  · refine ok_iload_n 29 rfl rfl rfl (ok_iret 30 rfl rfl rfl ?_)
    refine ⟨_, rfl, rfl, v1, ⟨fun q => ?_, fun q => ?_⟩⟩
    · rintro ⟨x, y, a, b, c⟩
      have := v3 x y a.1 (by omega) b.1 b.2
      omega
    · by_cases w : 0 < v
      · exact absurd (v2 w) q
      · omega
  · refine ok_iconst 8 rfl rfl (by decide) (ok_ist3 9 rfl rfl rfl ?_)
    have il : i < σ t 1 := by omega
    refine lpO2 (fun v j : Int => [some (vr t), some (vi v), some (vi i), some (vi j)]) (fun _ _ => σ) (fun v j => (0 ≤ j ∧ j ≤ σ t 1 ∧ 0 ≤ v) ∧ (0 < v → anyP (σ t 1) (cT σ t)) ∧ ∀ x y, 0 ≤ x → 0 ≤ y → y < σ t 1 → (x < i ∨ (x = i ∧ y < j)) → cT σ t x y ≤ v) (fun _ j => (8 - j).toNat) ?_ v 0 ⟨⟨by omega, by omega, v1⟩, v2, fun x y a b c d => v3 x y a (by omega) b c⟩
    clear v1 v2 v3 v
    rintro v j ⟨⟨j1, j2, v1⟩, v2, v3⟩ ih2
    refine ok_iload_n 10 rfl rfl rfl (ok_aload_n 11 rfl rfl rfl (ok_getI 12 rfl rfl fl_X9_15 (sT ht) rfl (Or.inl rfl) (ok_icmp_ge 13 44 rfl rfl rfl (fun h19 => ?_) (fun h19 => ?_))))
    · refine ok_inc2 27 rfl rfl rfl (by first | omega | (simp [up_if]; omega) | (simp [up_if] at *; omega)) (ok_goto 28 4 rfl rfl rfl ?_)
      exact ok_fg [some (vr t), some (vi _), some (vi (i + 1)), none] ⟨rfl, rfl, rfl, trivial⟩ (ih _ (i + 1) ⟨⟨by omega, by omega, v1⟩, v2, fun x y a b c d => v3 x y a c d (by omega)⟩ (by omega))
    · refine ok_iload_n 14 rfl rfl rfl (ok_aload_n 15 rfl rfl rfl (ok_getR 16 rfl rfl fl_X9_9 (sT ht) rfl (ok_iload_n 17 rfl rfl rfl (ok_bipush 18 rfl rfl (by decide) (by decide) (ok_imul 19 rfl rfl (by first | omega | (simp [up_if]; omega) | (simp [up_if] at *; omega)) (ok_iload_n 20 rfl rfl rfl (ok_iadd 21 rfl rfl (by first | omega | (simp [up_if]; omega) | (simp [up_if] at *; omega)) (ok_iald 22 rfl rfl (sC ht) (by first | omega | (simp [up_if]; omega) | (simp [up_if] at *; omega)) (ok_mmax 23 rfl rfl ml_X9_42 ⟨Nat.le_of_ble_eq_true rfl, Nat.le_of_ble_eq_true rfl⟩ (ok_ist1 24 rfl rfl rfl (ok_inc3 25 rfl rfl rfl (by first | omega | (simp [up_if]; omega) | (simp [up_if] at *; omega)) (ok_goto 26 14 rfl rfl rfl ?_))))))))))))
      obtain ⟨x, ex⟩ : ∃ x, x = σ (t + 4) (i * 8 + j) := ⟨_, rfl⟩
      rw [← ex]
      refine ih2 _ (j + 1) ⟨⟨by omega, by omega, by omega⟩, fun q => ?_, fun a b a1 b1 b2 s => ?_⟩ (by omega)
      · by_cases w : 0 < v
        · exact v2 w
        · exact ⟨i, j, ⟨i1, il⟩, ⟨j1, by omega⟩, by unfold cT; rw [← ex]; omega⟩
      · by_cases w : a = i ∧ b = j
        · rw [w.1, w.2]; unfold cT; rw [← ex]; omega
        · have := v3 a b a1 b1 b2 (by omega); omega
theorem shW_ev {σ : eS} {t : Nat} {L : Int} (hT : iT σ t) (h : grS (rowT σ t) (colT σ t) (σ t 1) L) : EvW (2 * σ t 1) (shW σ t L) L :=
  tg_ev hT.1 (fun i j a b c d => (cT_bd hT ⟨a, by have := hT.2.1; omega⟩ ⟨c, by have := hT.2.1; omega⟩).1) (fun i a b => (h.1 i a b).1) (fun i a b => (h.1 i a b).2)
theorem gr_pos {σ : eS} {t : Nat} {L : Int} (hT : iT σ t) (h : grS (rowT σ t) (colT σ t) (σ t 1) L) (ha : anyP (σ t 1) (cT σ t)) : 1 ≤ L := by
  obtain ⟨i, j, a, b, c⟩ := ha
  have m2 := hT.2.1
  have x := sm_le (f := fun j => cT σ t i j) (n := (σ t 1).toNat) (fun k p q => (cT_bd hT ⟨a.1, by omega⟩ ⟨p, by omega⟩).1) j b.1 (by omega)
  have y := (h.1 i a.1 a.2).1
  unfold rowT at y
  try dsimp only at x
  omega
def okS (T A : Prop) (n r : Int) : Prop := T ∧ n ≤ 4 ∧ A ∧ 0 ≤ r ∧ r ≤ 3
def XsA (σ : eS) (s r : Int) (σ' : eS) (z : Int) : Prop := (¬ okS (tabA σ s) (anyP (σ (s.toNat + 2) 1) (cT σ (s.toNat + 2))) (σ (s.toNat + 2) 1) r ∧ σ' = σ ∧ z = -1) ∨ (okS (tabA σ s) (anyP (σ (s.toNat + 2) 1) (cT σ (s.toNat + 2))) (σ (s.toNat + 2) 1) r ∧ ∃ L, grS (rowT σ (s.toNat + 2)) (colT σ (s.toNat + 2)) (σ (s.toNat + 2) 1) L ∧ mpA σ σ' 2 (σ (s.toNat + 2) 1) (2 * σ (s.toNat + 2) 1) L r z (shW σ (s.toNat + 2) L))
theorem t_Ev_shop {σ : eS} {s r : Int} (h : IA σ) (hS : iSe σ) (hS2 : σ 16 3 + 64 < 2147483647) : MtI shA M_Ev_shop [vr 0, vi s, vi r] σ (XsA σ s r) := by
  refine Mt.of okM_Ev_shop (Nat.le_of_ble_eq_true rfl) (fun hk hg => ?_)
  refine ok_aload_n 0 rfl rfl rfl (ok_iload_n 1 rfl rfl rfl (ok_callVR (M' := M_Ev_filledSlot) (as := [_]) 2 rfl rfl ml_X11_137 (s_Ev_filledSlot) rfl rfl (Nat.le_of_ble_eq_true rfl) ⟨Nat.le_of_ble_eq_true rfl, Nat.le_of_ble_eq_true rfl⟩ rfl (Nat.le_of_ble_eq_true rfl) (fun σ' z hz => ?_)))
  obtain ⟨hs_, hz⟩ := hz
  rw [hs_]; clear hs_ σ'
  rcases hz with ⟨q, q0⟩ | ⟨q1, q2, q, q3⟩
  · subst q
    refine ok_ast3 3 rfl rfl rfl (ok_aload_n 4 rfl rfl rfl (ok_ifnullN 5 32 rfl rfl rfl (ok_iconst 16 rfl rfl (by decide) (ok_iret 17 rfl rfl rfl ?_))))
    exact ⟨_, rfl, Or.inl ⟨fun c => q0 c.1, rfl, rfl⟩⟩
  · subst q
    have ht := sl_tA ⟨q1, q2⟩
    have nA := tA_10 ht
    obtain ⟨hT, hM⟩ := h.2.1 _ ht
    have m1 := hT.1
    have hm := h.2.2.2.1
    refine ok_ast3 3 rfl rfl rfl (ok_aload_n 4 rfl rfl rfl (ok_ifnull 5 rfl rfl (ok_aload_n 6 rfl rfl rfl (ok_getI 7 rfl rfl fl_X11_103 (sT ht) rfl (Or.inl rfl) (ok_iconst 8 rfl rfl (by decide) (ok_icmp_gt 9 32 rfl rfl rfl (fun h15 => ?_) (fun h15 => ?_)))))))
    · refine ok_iconst 16 rfl rfl (by decide) (ok_iret 17 rfl rfl rfl ?_)
      exact ⟨_, rfl, Or.inl ⟨fun c => by have := c.2.1; omega, rfl, rfl⟩⟩
    · refine ok_aload_n 10 rfl rfl rfl (ok_callVI (M' := M_Ta_greatestCell) (as := []) 11 rfl rfl ml_X11_116 (t_Ta_greatestCell ht hT) (sT ht) rfl (Nat.le_of_ble_eq_true rfl) ⟨Nat.le_of_ble_eq_true rfl, Nat.le_of_ble_eq_true rfl⟩ rfl (Nat.le_of_ble_eq_true rfl) (fun σ' z0 x0 => ?_))
      obtain ⟨hs_, x0⟩ := x0
      rw [hs_]; clear hs_ σ'
      refine ok_if_eq 12 32 rfl rfl rfl (fun h22 => ?_) (fun h22 => ?_)
      · refine ok_iconst 16 rfl rfl (by decide) (ok_iret 17 rfl rfl rfl ?_)
        exact ⟨_, rfl, Or.inl ⟨fun c => x0.2.mp h22 c.2.2.1, rfl, rfl⟩⟩
      · refine ok_iload_n 13 rfl rfl rfl (ok_callSI (M' := M_Ev_isRule) (as := [_]) 14 rfl rfl ml_X11_166 (s_Ev_isRule) ⟨Nat.le_of_ble_eq_true rfl, Nat.le_of_ble_eq_true rfl⟩ rfl (Nat.le_of_ble_eq_true rfl) (fun σ' z1 x1 => ?_))
        obtain ⟨hs_, x1⟩ := x1
        rw [hs_]; clear hs_ σ'
        refine ok_if_ne 15 34 rfl rfl rfl (fun h29 => ?_) (fun h29 => ?_)
        · refine ok_aload_n 18 rfl rfl rfl (ok_getR 19 rfl rfl fl_X11_41 rfl rfl (ok_aload_n 20 rfl rfl rfl (ok_callVV (M' := M_Pe_startShop) (as := [_]) 21 rfl rfl ml_X11_294 (t_Pe_startShop (p := 20) (q := 21) (Or.inl ⟨rfl, rfl⟩) ht hT (by omega)) rfl rfl (Nat.le_of_ble_eq_true rfl) ⟨Nat.le_of_ble_eq_true rfl, Nat.le_of_ble_eq_true rfl⟩ rfl (Nat.le_of_ble_eq_true rfl) (fun τ f => ?_))))
          obtain ⟨f1, f2, f3, f4, f5, f6, f7⟩ := f
          have ha : anyP (σ (s.toNat + 2) 1) (cT σ (s.toNat + 2)) := Classical.byContradiction (fun c => h22 (x0.2.mpr c))
          have hL := gr_pos hT f6 ha
          have e1 : τ (s.toNat + 2) 1 = σ (s.toNat + 2) 1 := f1 _ _ (by simp only [rgP0]; omega)
          refine ok_aload_n 22 rfl rfl rfl (ok_getR 23 rfl rfl fl_X11_48 rfl rfl (ok_iconst 24 rfl rfl (by decide) (ok_aload_n 25 rfl rfl rfl (ok_getI 26 rfl rfl fl_X11_103 (sT ht) rfl (Or.inl rfl) (ok_iconst 27 rfl rfl (by decide) (ok_aload_n 28 rfl rfl rfl (ok_getI 29 rfl rfl fl_X11_103 (sT ht) rfl (Or.inl rfl) (ok_imul 30 rfl rfl (by first | omega | (simp [up_if]; omega) | (simp [up_if] at *; omega)) (ok_aload_n 31 rfl rfl rfl (ok_getR 32 rfl rfl fl_X11_41 rfl rfl (ok_getI 33 rfl rfl fl_X11_297 rfl rfl (Or.inl rfl) (ok_callVV (M' := M_Mi_start) (as := [_, _, _, _]) 34 rfl rfl ml_X11_173 (t_Mi_start) rfl rfl (Nat.le_of_ble_eq_true rfl) ⟨Nat.le_of_ble_eq_true rfl, Nat.le_of_ble_eq_true rfl⟩ rfl (Nat.le_of_ble_eq_true rfl) (fun υ g => ?_)))))))))))))
          obtain ⟨g1, g2, g3, g4, g5, g6⟩ := g
          have k2 : υ 20 2 = 2 * σ (s.toNat + 2) 1 := by rw [g1 20 2 (by simp), f3]
          have k3 : υ 20 3 = τ 20 3 := g1 20 3 (by simp)
          have F : fr rgPl σ υ := (f1.mono (fun c k w => by simp only [rgP0, rgPl] at w ⊢; omega)).tr (g1.mono (fun c k w => by simp only [rgPl]; omega))
          have M : iMi υ := ⟨by omega, fun k a b => by omega, fun k a b => by rw [g1 24 k (by simp), f1 24 k (by simp [rgP0])]; exact hm.2.2.1 k a b, by rw [g5, g6]; show (0 : Int) ≤ _; omega⟩
          have C : iCh υ := iCh_cg h.2.2.1 (fun k => by rw [g1 17 k (by simp), f1 17 k (by simp [rgP0])])
          have c16 : υ 16 3 = σ 16 3 := by rw [g1 16 3 (by simp), f1 16 3 (by simp [rgP0])]
          have SS : iSe υ := iSe_cg hS c16 (fun k => by rw [g1 19 k (by simp), f1 19 k (by simp [rgP0])])
          have B : bd64 υ 21 := fun k a b => by rw [g1 21 k (by simp)]; exact f2 k a b
          have G : ag (2 * σ (s.toNat + 2) 1) (pk υ 21) (shW σ (s.toNat + 2) (τ 20 3)) := fun i j a b c d => by
            rw [← f7 i j a b c d]
            exact g1 21 _ (by simp)
          have E := EvW_cg (shW_ev hT f6) (fun i j a b c d => G i j a b c d)
          refine ok_aload_n 35 rfl rfl rfl (ok_iload_n 36 rfl rfl rfl (ok_callVI (M' := M_Ev_keepParts) (as := [_]) 37 rfl rfl ml_X11_177 (t_Ev_keepParts (n := 2 * σ (s.toNat + 2) 1) (m := τ 20 3) (by omega) ⟨by omega, by omega⟩ C SS (by omega) k2 B k3 ⟨by omega, by omega⟩ E M g5 g6) rfl rfl (Nat.le_of_ble_eq_true rfl) ⟨Nat.le_of_ble_eq_true rfl, Nat.le_of_ble_eq_true rfl⟩ rfl (Nat.le_of_ble_eq_true rfl) (fun ω z2 w => ?_)))
          refine ok_iret 38 rfl rfl rfl ?_
          obtain ⟨w1, w2, ⟨w3, w4, w5⟩, w6, w7, w8⟩ := w
          refine ⟨_, rfl, Or.inr ⟨⟨⟨q1, q2, q3⟩, by omega, ha, by omega⟩, τ 20 3, f6, F.tr (w1.mono (fun c k w => by simp only [rgKq, rgPl] at w ⊢; omega)), w2, ⟨w3, by omega, by omega⟩, w6, ⟨?_, ?_, ?_, w7.symm, ?_⟩, PE_w0 G w8⟩⟩
          · rw [w1 22 2 (by simp [rgKq]), g2]
          · rw [w1 22 3 (by simp [rgKq]), g3, e1]
          · rw [w1 22 4 (by simp [rgKq]), g4, e1]
          · rw [w1 22 6 (by simp [rgKq]), g6]
        · refine ok_iconst 16 rfl rfl (by decide) (ok_iret 17 rfl rfl rfl ?_)
          exact ⟨_, rfl, Or.inl ⟨fun c => by have := c.2.2.2; omega, rfl, rfl⟩⟩
end
section
/-! PEEL and SHOP, the reference -/
def mpB (σ σ' : eS) (kind rows m r z : Int) (W : Int → Int → Int) : Prop := QP σ σ' ∧ (σ' 0 30 = kind ∧ σ' 0 28 = rows ∧ σ' 0 27 = z ∧ σ' 0 29 = m) ∧ PE rows r W (fun q => σ' 12 q) (fun q i => σ' 13 (8 * q + i)) z
def XpB (σ : eS) (s r : Int) (σ' : eS) (z : Int) : Prop := (¬ okP (evB σ s) r ∧ σ' = σ ∧ z = -1) ∨ (okP (evB σ s) r ∧ mpB σ σ' 1 (σ 1 s) (rowB σ s 0) r z (cB σ s))
theorem t_Mo_peel {σ : eS} {s r : Int} (hB : iB1 σ) : MtI shB M_Mo_peel [vr 0, vi s, vi r] σ (XpB σ s r) := by
  refine Mt.of okM_Mo_peel (Nat.le_of_ble_eq_true rfl) (fun hk hg => ?_)
  refine ok_aload_n 0 rfl rfl rfl (ok_iload_n 1 rfl rfl rfl (ok_callVI (M' := M_Mo_isEven) (as := [_]) 2 rfl rfl ml_X12_202 (s_Mo_isEven hB) rfl rfl (Nat.le_of_ble_eq_true rfl) ⟨Nat.le_of_ble_eq_true rfl, Nat.le_of_ble_eq_true rfl⟩ rfl (Nat.le_of_ble_eq_true rfl) (fun σ' z1 a1 => ?_)))
  obtain ⟨hs_, a1⟩ := a1
  rw [hs_]; clear hs_ σ'
  refine ok_if_eq 3 15 rfl rfl rfl (fun h5 => ?_) (fun h5 => ?_)
  · refine ok_iconst 7 rfl rfl (by decide) (ok_iret 8 rfl rfl rfl ?_)
    exact ⟨_, rfl, Or.inl ⟨fun c => no1 a1 h5 c.1, rfl, rfl⟩⟩
  · refine ok_iload_n 4 rfl rfl rfl (ok_callSI (M' := M_Mo_isRule) (as := [_]) 5 rfl rfl ml_X12_291 (s_Mo_isRule) ⟨Nat.le_of_ble_eq_true rfl, Nat.le_of_ble_eq_true rfl⟩ rfl (Nat.le_of_ble_eq_true rfl) (fun σ' z2 a2 => ?_))
    obtain ⟨hs_, a2⟩ := a2
    rw [hs_]; clear hs_ σ'
    refine ok_if_ne 6 17 rfl rfl rfl (fun h12 => ?_) (fun h12 => ?_)
    · have he := yes1 a1 h5
      have hr := yes1 a2 h12
      obtain ⟨t1, t2, t3⟩ := id he.1
      have tn := hB.1 s t1 t2
      have rb := rowB_bd hB ⟨t1, t2⟩ (i := 0) ⟨by omega, by omega⟩
      have hev := wo_ev hB he
      have hag := wo_wkB hB he.1
      have f := wo_fr σ s (σ 1 s) (σ 1 s * σ 1 s)
      refine ok_aload_n 9 rfl rfl rfl (ok_iload_n 10 rfl rfl rfl (ok_callVV (M' := M_Mo_worksOn) (as := [_]) 11 rfl rfl ml_X12_294 (s_Mo_worksOn hB he.1) rfl rfl (Nat.le_of_ble_eq_true rfl) ⟨Nat.le_of_ble_eq_true rfl, Nat.le_of_ble_eq_true rfl⟩ rfl (Nat.le_of_ble_eq_true rfl) (fun σ' hz => ?_)))
      rw [hz]
      clear hz σ'
      obtain ⟨τ, eτ⟩ : ∃ τ, τ = wo σ s (σ 1 s) (σ 1 s * σ 1 s) := ⟨_, rfl⟩
      rw [← eτ] at hev hag f ⊢
      have e22 : τ 0 22 = σ 1 s := by rw [eτ]; simp [wo]
      have hB' : iB1 τ := hB.fr (fun c k q => f c k (by simp only [rgS]; omega))
      have er : rowB τ s 0 = rowB σ s 0 := by
        unfold rowB cB
        rw [f 1 s (by simp)]
        exact sm_cg (fun k _ _ => by rw [f 3 _ (by simp)])
      have hnW : nW τ := ⟨by omega, by omega⟩
      refine ok_aload_n 12 rfl rfl rfl (ok_iload_n 13 rfl rfl rfl (ok_iconst 14 rfl rfl (by decide) (ok_aload_n 15 rfl rfl rfl (ok_iload_n 16 rfl rfl rfl (ok_iconst 17 rfl rfl (by decide) (ok_callVL (M' := M_Mo_rowOf) (as := [_, _]) 18 rfl rfl ml_X12_114 (s_Mo_rowOf hB' ⟨t1, t2⟩ (by rw [f 1 s (by simp)]; omega)) rfl rfl (Nat.le_of_ble_eq_true rfl) ⟨Nat.le_of_ble_eq_true rfl, Nat.le_of_ble_eq_true rfl⟩ rfl (Nat.le_of_ble_eq_true rfl) (fun σ' z hz => ?_)))))))
      rw [hz.1, hz.2, er]; clear hz z σ'
      refine ok_l2i 19 rfl rfl (by first | omega | (simp [up_if]; omega) | (simp [up_if] at *; omega)) (ok_callVI (M' := M_Mo_keepsAll) (as := [_, _, _]) 20 rfl rfl ml_X12_297 (t_Mo_keepsAll hnW hr (by rw [e22]; exact hev) ⟨by have := he.2.1; omega, by omega⟩) rfl rfl (Nat.le_of_ble_eq_true rfl) ⟨Nat.le_of_ble_eq_true rfl, Nat.le_of_ble_eq_true rfl⟩ rfl (Nat.le_of_ble_eq_true rfl) (fun σ' z hz => ?_))
      obtain ⟨hz, hP⟩ := hz
      rw [e22] at hP
      refine ok_iret 21 rfl rfl rfl ?_
      exact ⟨_, rfl, Or.inr ⟨⟨he, hr⟩, ⟨(f.mono (fun c k q => by simp only [rgS, rgP] at q ⊢; omega)).tr (hz.1.mono (fun c k q => by simp only [rgK, rgP] at q ⊢; omega)), fun _ => hz.iK hnW ⟨by omega, by omega⟩ (fun q => by omega)⟩, ⟨hz.2.2.2.2.2.2.1, by rw [hz.2.2.2.2.1, e22], hz.2.1.symm, hz.2.2.2.2.2.1⟩, PE_w0 (fun i j a b c d => hag i j a b c d) hP⟩⟩
    · refine ok_iconst 7 rfl rfl (by decide) (ok_iret 8 rfl rfl rfl ?_)
      exact ⟨_, rfl, Or.inl ⟨fun c => no1 a2 h12 c.2, rfl, rfl⟩⟩
theorem cnt_no {σ : eS} {s : Int} (hn : 0 ≤ σ 1 s ∧ σ 1 s ≤ 8) (h : cntB σ s = 0) : ¬ anyP (σ 1 s) (cB σ s) := by
  rintro ⟨i, j, a, b, c⟩
  obtain ⟨y1, y2, y3, y4⟩ := ix8 (n := σ 1 s) (i := i) (j := j) hn a b
  have x := sm_le (f := fun k => if 0 < σ 3 (64 * s + k) then (1 : Int) else 0) (n := (σ 1 s * σ 1 s).toNat) (fun k _ _ => by (try dsimp only); split <;> omega) (σ 1 s * i + j) (by omega) (by omega)
  unfold cB at c
  try dsimp only at x
  rw [if_pos (by rw [← Int.add_assoc]; exact c)] at x
  unfold cntB at h
  omega
def shB' (σ : eS) (s L : Int) : Int → Int → Int := tg (σ 1 s) L (cB σ s) (rowB σ s) (colB σ s) (σ 1 s) 0
def XsB (σ : eS) (s r : Int) (σ' : eS) (z : Int) : Prop := (¬ okS (tabB σ s) (anyP (σ 1 s) (cB σ s)) (σ 1 s) r ∧ σ' = σ ∧ z = -1) ∨ (okS (tabB σ s) (anyP (σ 1 s) (cB σ s)) (σ 1 s) r ∧ ∃ L, grS (rowB σ s) (colB σ s) (σ 1 s) L ∧ mpB σ σ' 2 (2 * σ 1 s) L r z (shB' σ s L) ∧ σ' 0 31 = σ 1 s)
theorem t_Mo_shop {σ : eS} {s r : Int} (hB : iB1 σ) : MtI shB M_Mo_shop [vr 0, vi s, vi r] σ (XsB σ s r) := by
  refine Mt.of okM_Mo_shop (Nat.le_of_ble_eq_true rfl) (fun hk hg => ?_)
  refine ok_aload_n 0 rfl rfl rfl (ok_iload_n 1 rfl rfl rfl (ok_callVI (M' := M_Mo_isTable) (as := [_]) 2 rfl rfl ml_X12_111 (s_Mo_isTable_r) rfl rfl (Nat.le_of_ble_eq_true rfl) ⟨Nat.le_of_ble_eq_true rfl, Nat.le_of_ble_eq_true rfl⟩ rfl (Nat.le_of_ble_eq_true rfl) (fun σ' z1 a1 => ?_)))
  obtain ⟨hs_, a1⟩ := a1
  rw [hs_]; clear hs_ σ'
  refine ok_if_eq 3 33 rfl rfl rfl (fun h5 => ?_) (fun h5 => ?_)
  · refine ok_iconst 17 rfl rfl (by decide) (ok_iret 18 rfl rfl rfl ?_)
    exact ⟨_, rfl, Or.inl ⟨fun c => no1 a1 h5 c.1, rfl, rfl⟩⟩
  · obtain ⟨u1, u2, u3⟩ := yes1 a1 h5
    have tn := hB.1 s u1 u2
    refine ok_aload_n 4 rfl rfl rfl (ok_getR 5 rfl rfl fl_X12_7 rfl rfl (ok_iload_n 6 rfl rfl rfl (ok_iald 7 rfl rfl rfl (by first | omega | (simp [up_if]; omega) | (simp [up_if] at *; omega)) (ok_iconst 8 rfl rfl (by decide) (ok_icmp_gt 9 33 rfl rfl rfl (fun h15 => ?_) (fun h15 => ?_))))))
    · refine ok_iconst 17 rfl rfl (by decide) (ok_iret 18 rfl rfl rfl ?_)
      exact ⟨_, rfl, Or.inl ⟨fun c => by have := c.2.1; omega, rfl, rfl⟩⟩
    · refine ok_aload_n 10 rfl rfl rfl (ok_iload_n 11 rfl rfl rfl (ok_callVI (M' := M_Mo_aboveNought) (as := [_]) 12 rfl rfl ml_X12_205 (s_Mo_aboveNought hB ⟨u1, u2⟩) rfl rfl (Nat.le_of_ble_eq_true rfl) ⟨Nat.le_of_ble_eq_true rfl, Nat.le_of_ble_eq_true rfl⟩ rfl (Nat.le_of_ble_eq_true rfl) (fun σ' z hz => ?_)))
      rw [hz.1, hz.2]
      clear hz z σ'
      refine ok_if_eq 13 33 rfl rfl rfl (fun h23 => ?_) (fun h23 => ?_)
      · refine ok_iconst 17 rfl rfl (by decide) (ok_iret 18 rfl rfl rfl ?_)
        exact ⟨_, rfl, Or.inl ⟨fun c => cnt_no ⟨by omega, by omega⟩ h23 c.2.2.1, rfl, rfl⟩⟩
      · refine ok_iload_n 14 rfl rfl rfl (ok_callSI (M' := M_Mo_isRule) (as := [_]) 15 rfl rfl ml_X12_291 (s_Mo_isRule) ⟨Nat.le_of_ble_eq_true rfl, Nat.le_of_ble_eq_true rfl⟩ rfl (Nat.le_of_ble_eq_true rfl) (fun σ' z2 a2 => ?_))
        obtain ⟨hs_, a2⟩ := a2
        rw [hs_]; clear hs_ σ'
        refine ok_if_ne 16 35 rfl rfl rfl (fun h30 => ?_) (fun h30 => ?_)
        · refine ok_aload_n 19 rfl rfl rfl (ok_getR 20 rfl rfl fl_X12_7 rfl rfl (ok_iload_n 21 rfl rfl rfl (ok_iald 22 rfl rfl rfl (by first | omega | (simp [up_if]; omega) | (simp [up_if] at *; omega)) (ok_ist3 23 rfl rfl rfl (ok_lconst (w := 0) 24 rfl rfl rfl (by decide) (ok_lst4 25 rfl rfl rfl (ok_iconst 26 rfl rfl (by decide) (ok_ist6 27 rfl rfl rfl ?_))))))))
          obtain ⟨i0, j0, p1, p2, p3, p4, p5⟩ := cnt_ex ⟨by omega, by omega⟩ h23
          have hr := yes1 a2 h30
          obtain ⟨n, en⟩ : ∃ n, n = σ 1 s := ⟨_, rfl⟩
          rw [← en]
          have n1 : 1 ≤ n ∧ n ≤ 4 := by omega
          refine lpO2 (fun v i : Int => [some (vr 0), some (vi s), some (vi r), some (vi n), some (vl v), none, some (vi i), none]) (fun _ _ => σ) (fun v i => 0 ≤ i ∧ i ≤ n ∧ 0 ≤ v ∧ v ≤ 799999992 ∧ grS (rowB σ s) (colB σ s) i v) (fun _ i => (n - i).toNat) ?_ 0 0 ⟨by omega, by omega, by omega, by omega, fun k a b => by omega, Or.inl rfl⟩
          rintro v i ⟨i1, i2, v1, v2, vm, vx⟩ ih
          refine ok_iload 28 rfl rfl rfl (ok_iload_n 29 rfl rfl rfl (ok_icmp_ge 30 84 rfl rfl rfl (fun h51 => ?_) (fun h51 => ?_)))
          · have ei : i = n := by omega
            have vrow : ∀ k, 0 ≤ k → k < n → rowB σ s k ≤ v := fun k a b => (vm k a (by omega)).1
            have vcol : ∀ k, 0 ≤ k → k < n → colB σ s k ≤ v := fun k a b => (vm k a (by omega)).2
            have vp : 1 ≤ v := by
              have := sm_le (f := fun j => cB σ s i0 j) (n := (σ 1 s).toNat) (fun k a b => (cB_bd hB ⟨u1, u2⟩ ⟨p1, p2⟩ ⟨a, by omega⟩).1) j0 p3 (by omega)
              have h2 := vrow i0 p1 (by omega)
              unfold rowB at h2
              omega
            have hgr : grS (rowB σ s) (colB σ s) n v := by rw [← ei]; exact ⟨vm, vx⟩
            clear vm vx ih
            refine ok_aload_n 45 rfl rfl rfl (ok_iconst 46 rfl rfl (by decide) (ok_iload_n 47 rfl rfl rfl (ok_imul 48 rfl rfl (by first | omega | (simp [up_if]; omega) | (simp [up_if] at *; omega)) (ok_putI 49 rfl rfl fl_X12_234 rfl rfl rfl rfl (ok_iconst 50 rfl rfl (by decide) (ok_ist6 51 rfl rfl rfl ?_))))))
            refine lpO2 (fun (i : Int) (_ : eS) => [some (vr 0), some (vi s), some (vi r), some (vi n), some (vl v), none, some (vi i), none]) (fun _ ρ => ρ) (fun i ρ => 0 ≤ i ∧ i ≤ 64 ∧ fr rgS σ ρ ∧ ρ 0 22 = 2 * n ∧ ∀ k, 0 ≤ k → k < i → ρ 9 k = 0) (fun i _ => (64 - i).toNat) ?_ 0 _ ⟨by omega, by omega, fr_up fr.rf (by simp [rgS]), up_same _ _ _ _, fun k a b => by omega⟩
            rintro i ρ ⟨i1, i2, f, e22, hz⟩ ih
            refine ok_iload 52 rfl rfl rfl (ok_bipush 53 rfl rfl (by decide) (by decide) (ok_icmp_ge 54 115 rfl rfl rfl (fun h98 => ?_) (fun h98 => ?_)))
            · have w0 : ∀ a b, 0 ≤ a → a < 2 * n → 0 ≤ b → b < 2 * n → wk ρ a b = 0 := fun a b a1 a2 b1 b2 => by
                have g := ix8 (n := 2 * n) (i := a) (j := b) ⟨by omega, by omega⟩ ⟨a1, a2⟩ ⟨b1, b2⟩
                unfold wk
                rw [e22]
                exact hz _ (by omega) (by omega)
              clear hz ih
              refine ok_iconst 62 rfl rfl (by decide) (ok_ist6 63 rfl rfl rfl ?_)
              refine lpO2 (fun (i : Int) (_ : eS) => [some (vr 0), some (vi s), some (vi r), some (vi n), some (vl v), none, some (vi i), none]) (fun _ ρ => ρ) (fun i ρ => 0 ≤ i ∧ i ≤ n ∧ fr rgS σ ρ ∧ ρ 0 22 = 2 * n ∧ ∀ a b, 0 ≤ a → a < 2 * n → 0 ≤ b → b < 2 * n → wk ρ a b = tg n v (cB σ s) (rowB σ s) (colB σ s) i 0 a b) (fun i _ => (n - i).toNat) ?_ 0 _ ⟨by omega, by omega, f, e22, fun a b a1 a2 b1 b2 => by rw [w0 a b a1 a2 b1 b2, tg_0 ⟨a1, a2⟩ ⟨b1, b2⟩]⟩
              clear w0 f e22 i1 i2 ρ
              rintro i ρ ⟨i1, i2, f, e22, hw⟩ ih
              refine ok_iload 64 rfl rfl rfl (ok_iload_n 65 rfl rfl rfl (ok_icmp_ge 66 253 rfl rfl rfl (fun h121 => ?_) (fun h121 => ?_)))
              · have hagr : ag (2 * n) (wk (up ρ 0 31 n)) (tg n v (cB σ s) (rowB σ s) (colB σ s) n 0) := fun a b a1 a2 b1 b2 => by
                  have ei : i = n := by omega
                  have hw' := hw a b a1 a2 b1 b2
                  rw [ei] at hw'
                  rw [← hw']
                  unfold wk
                  rw [up_ne _ _ _ _ (show (9 : Nat) ≠ 0 by decide), up_nk _ _ _ _ (show (22 : Int) ≠ 31 by decide)]
                have hev : EvW (2 * n) (wk (up ρ 0 31 n)) v := by
                  refine EvW_cg (w := tg n v (cB σ s) (rowB σ s) (colB σ s) n 0) ?_ hagr
                  · have hr2 : rowB σ s = fun i => sm (fun j => cB σ s i j) n.toNat := by funext i; unfold rowB; rw [en]
                    have hc2 : colB σ s = fun j => sm (fun i => cB σ s i j) n.toNat := by funext i; unfold colB; rw [en]
                    rw [hr2] at vrow ⊢
                    rw [hc2] at vcol ⊢
                    exact tg_ev (by omega) (fun i j a b c d => (cB_bd hB ⟨u1, u2⟩ ⟨a, by omega⟩ ⟨c, by omega⟩).1) vrow vcol
                have f31 : fr rgP σ (up ρ 0 31 n) := fr_up (f.mono (fun c k q => by simp only [rgS, rgP] at q ⊢; omega)) (by simp [rgP])
                have e22' : up ρ 0 31 n 0 22 = 2 * n := by rw [up_nk _ _ _ _ (by decide)]; exact e22
                have e31 : up ρ 0 31 n 0 31 = n := up_same _ _ _ _
                have hnW : nW (up ρ 0 31 n) := ⟨by omega, by omega⟩
                refine ok_aload_n 144 rfl rfl rfl (ok_iload_n 145 rfl rfl rfl (ok_putI 146 rfl rfl fl_X12_363 rfl rfl rfl rfl (ok_aload_n 147 rfl rfl rfl (ok_iload_n 148 rfl rfl rfl (ok_iconst 149 rfl rfl (by decide) (ok_lload 150 rfl rfl rfl (ok_l2i 151 rfl rfl (by first | omega | (simp [up_if]; omega) | (simp [up_if] at *; omega)) (ok_callVI (M' := M_Mo_keepsAll) (as := [_, _, _]) 152 rfl rfl ml_X12_297 (t_Mo_keepsAll hnW hr (by rw [e22']; exact hev) ⟨vp, v2⟩) rfl rfl (Nat.le_of_ble_eq_true rfl) ⟨Nat.le_of_ble_eq_true rfl, Nat.le_of_ble_eq_true rfl⟩ rfl (Nat.le_of_ble_eq_true rfl) (fun σ' z hz => ?_)))))))))
                obtain ⟨hz, hP⟩ := hz
                rw [e22'] at hP
                refine ok_iret 153 rfl rfl rfl ?_
                refine ⟨_, rfl, Or.inr ⟨⟨⟨u1, u2, u3⟩, by omega, ⟨i0, j0, ⟨p1, p2⟩, ⟨p3, p4⟩, p5⟩, hr⟩, v, by rw [← en]; exact hgr, ⟨⟨f31.tr (hz.1.mono (fun c k q => by simp only [rgK, rgP] at q ⊢; omega)), fun _ => hz.iK hnW ⟨by omega, v2⟩ (fun _ => by rw [e31, e22']; omega)⟩, ⟨hz.2.2.2.2.2.2.1, by rw [hz.2.2.2.2.1, e22', en], hz.2.1.symm, hz.2.2.2.2.2.1⟩, ?_⟩, by rw [hz.1 0 31 (by simp [rgK]), e31, en]⟩⟩
                unfold shB'
                rw [← en]
                exact PE_w0 hagr hP
              · refine ok_iconst 67 rfl rfl (by decide) (ok_ist7 68 rfl rfl rfl ?_)
                refine lpO2 (fun (j : Int) (_ : eS) => [some (vr 0), some (vi s), some (vi r), some (vi n), some (vl v), none, some (vi i), some (vi j)]) (fun _ υ => υ) (fun j υ => 0 ≤ j ∧ j ≤ n ∧ fr rgS σ υ ∧ υ 0 22 = 2 * n ∧ ∀ a b, 0 ≤ a → a < 2 * n → 0 ≤ b → b < 2 * n → wk υ a b = tg n v (cB σ s) (rowB σ s) (colB σ s) i j a b) (fun j _ => (n - j).toNat) ?_ 0 _ ⟨by omega, by omega, f, e22, hw⟩
                clear hw f e22 ρ
                rintro j υ ⟨j1, j2, f, e22, hw⟩ ih2
                have bi1 := ix8 (n := 2 * n) (i := i) (j := j) ⟨by omega, by omega⟩ ⟨by omega, by omega⟩ ⟨by omega, by omega⟩
                have bi2 := ix8 (n := 2 * n) (i := i) (j := n + i) ⟨by omega, by omega⟩ ⟨by omega, by omega⟩ ⟨by omega, by omega⟩
                have bi3 := ix8 (n := 2 * n) (i := n + i) (j := i) ⟨by omega, by omega⟩ ⟨by omega, by omega⟩ ⟨by omega, by omega⟩
                have E : ∀ τ : eS, fr rgS σ τ → iB1 τ ∧ τ 1 s = n ∧ cB τ s = cB σ s ∧ rowB τ s = rowB σ s ∧ colB τ s = colB σ s := fun τ g => by
                  have e1 : ∀ k, τ 1 k = σ 1 k := fun k => g 1 k (by simp [rgS])
                  have e3 : ∀ k, τ 3 k = σ 3 k := fun k => g 3 k (by simp [rgS])
                  refine ⟨iB1_frS hB g (fun c k q => by simp only [rgS]; omega), by rw [e1, en], ?_, ?_, ?_⟩
                  · funext a b; unfold cB; rw [e1, e3]
                  · funext a; unfold rowB cB; simp only [e1, e3]
                  · funext a; unfold colB cB; simp only [e1, e3]
                refine ok_iload 69 rfl rfl rfl (ok_iload_n 70 rfl rfl rfl (ok_icmp_ge 71 191 rfl rfl rfl (fun h130 => ?_) (fun h130 => ?_)))
                · have ej : j = n := by omega
                  obtain ⟨eb, e1, ec, er, el⟩ := E υ f
                  have g1 := fun z => E (up υ 9 (2 * n * i + n + i) z) (fr_up f (by simp [rgS]))
                  have b1 := vrow i (by omega) (by omega)
                  have b2 := vcol i (by omega) (by omega)
                  have b3 := rowB_bd hB ⟨u1, u2⟩ (i := i) ⟨by omega, by omega⟩
                  have b4 := colB_bd hB ⟨u1, u2⟩ (j := i) ⟨by omega, by omega⟩
                  refine ok_aload_n 106 rfl rfl rfl (ok_getR 107 rfl rfl fl_X12_39 rfl rfl (ok_aload_n 108 rfl rfl rfl (ok_getI 109 rfl rfl fl_X12_234 rfl rfl (Or.inl rfl) ?_)))
                  rw [e22]
                  refine ok_iload 110 rfl rfl rfl (ok_imul 111 rfl rfl (by first | omega | (simp [up_if]; omega) | (simp [up_if] at *; omega)) (ok_iload_n 112 rfl rfl rfl (ok_iadd 113 rfl rfl (by first | omega | (simp [up_if]; omega) | (simp [up_if] at *; omega)) (ok_iload 114 rfl rfl rfl (ok_iadd 115 rfl rfl (by first | omega | (simp [up_if]; omega) | (simp [up_if] at *; omega)) (ok_lload 116 rfl rfl rfl (ok_aload_n 117 rfl rfl rfl (ok_iload_n 118 rfl rfl rfl (ok_iload 119 rfl rfl rfl (ok_callVL (M' := M_Mo_rowOf) (as := [_, _]) 120 rfl rfl ml_X12_114 (s_Mo_rowOf eb ⟨u1, u2⟩ ⟨by omega, by omega⟩) rfl rfl (Nat.le_of_ble_eq_true rfl) ⟨Nat.le_of_ble_eq_true rfl, Nat.le_of_ble_eq_true rfl⟩ rfl (Nat.le_of_ble_eq_true rfl) (fun σ' z hz => ?_)))))))))))
                  rw [hz.1, hz.2, er]; clear hz z σ'
                  refine ok_lsub 121 rfl rfl (by first | omega | (simp [up_if]; omega) | (simp [up_if] at *; omega)) (ok_l2i 122 rfl rfl (by first | omega | (simp [up_if]; omega) | (simp [up_if] at *; omega)) (ok_iast 123 rfl rfl rfl (by first | omega | (simp [up_if]; omega) | (simp [up_if] at *; omega)) (ok_aload_n 124 rfl rfl rfl (ok_getR 125 rfl rfl fl_X12_39 rfl rfl (ok_aload_n 126 rfl rfl rfl (ok_getI 127 rfl rfl fl_X12_234 rfl rfl (Or.inl rfl) ?_))))))
                  rw [up_ne _ _ _ _ (show (0 : Nat) ≠ 9 by decide), e22]
                  refine ok_iload_n 128 rfl rfl rfl (ok_iload 129 rfl rfl rfl (ok_iadd 130 rfl rfl (by first | omega | (simp [up_if]; omega) | (simp [up_if] at *; omega)) (ok_imul 131 rfl rfl (by first | omega | (simp [up_if]; omega) | (simp [up_if] at *; omega)) (ok_iload 132 rfl rfl rfl (ok_iadd 133 rfl rfl (by first | omega | (simp [up_if]; omega) | (simp [up_if] at *; omega)) (ok_lload 134 rfl rfl rfl (ok_aload_n 135 rfl rfl rfl (ok_iload_n 136 rfl rfl rfl (ok_iload 137 rfl rfl rfl (ok_callVL (M' := M_Mo_columnOf) (as := [_, _]) 138 rfl rfl ml_X12_122 (s_Mo_columnOf (g1 _).1 ⟨u1, u2⟩ ⟨by omega, by rw [(g1 _).2.1]; omega⟩) rfl rfl (Nat.le_of_ble_eq_true rfl) ⟨Nat.le_of_ble_eq_true rfl, Nat.le_of_ble_eq_true rfl⟩ rfl (Nat.le_of_ble_eq_true rfl) (fun σ' z hz => ?_)))))))))))
                  rw [hz.1, hz.2, (g1 _).2.2.2.2]; clear hz z σ'
                  refine ok_lsub 139 rfl rfl (by first | omega | (simp [up_if]; omega) | (simp [up_if] at *; omega)) (ok_l2i 140 rfl rfl (by first | omega | (simp [up_if]; omega) | (simp [up_if] at *; omega)) (ok_iast 141 rfl rfl rfl (by first | omega | (simp [up_if]; omega) | (simp [up_if] at *; omega)) (ok_inc6 142 rfl rfl rfl (by first | omega | (simp [up_if]; omega) | (simp [up_if] at *; omega)) (ok_goto 143 118 rfl rfl rfl ?_))))
                  rw [Int.add_assoc (2 * n * i) n i]
                  rw [ej] at hw
                  refine ok_fg [some (vr 0), some (vi s), some (vi r), some (vi n), some (vl v), none, some (vi (i + 1)), none] ⟨rfl, rfl, rfl, rfl, rfl, rfl, trivial⟩ (ih (i + 1) _ ⟨by omega, by omega, fr_up (fr_up f (by simp [rgS])) (by simp [rgS]), by rw [up_ne _ _ _ _ (by decide), up_ne _ _ _ _ (by decide)]; exact e22, fun a b a1 a2 b1 b2 => ?_⟩ (by omega))
                  rw [wk_up (by rw [up_ne _ _ _ _ (by decide)]; exact e22) ⟨by omega, by omega⟩ ⟨by omega, by omega⟩ ⟨b1, b2⟩, wk_up e22 ⟨by omega, by omega⟩ ⟨by omega, by omega⟩ ⟨b1, b2⟩, hw a b a1 a2 b1 b2]
                  exact tg_d ⟨by omega, by omega⟩ ⟨a1, a2⟩ ⟨b1, b2⟩
                · have bi4 := ix8 (n := 2 * n) (i := n + j) (j := n + i) ⟨by omega, by omega⟩ ⟨by omega, by omega⟩ ⟨by omega, by omega⟩
                  obtain ⟨eb, e1, ec, er, el⟩ := E υ f
                  have g1 := fun z => E (up υ 9 (2 * n * i + j) z) (fr_up f (by simp [rgS]))
                  refine ok_aload_n 72 rfl rfl rfl (ok_getR 73 rfl rfl fl_X12_39 rfl rfl (ok_aload_n 74 rfl rfl rfl (ok_getI 75 rfl rfl fl_X12_234 rfl rfl (Or.inl rfl) ?_)))
                  rw [e22]
                  refine ok_iload 76 rfl rfl rfl (ok_imul 77 rfl rfl (by first | omega | (simp [up_if]; omega) | (simp [up_if] at *; omega)) (ok_iload 78 rfl rfl rfl (ok_iadd 79 rfl rfl (by first | omega | (simp [up_if]; omega) | (simp [up_if] at *; omega)) (ok_aload_n 80 rfl rfl rfl (ok_iload_n 81 rfl rfl rfl (ok_iload 82 rfl rfl rfl (ok_iload 83 rfl rfl rfl (ok_callVI (M' := M_Mo_at) (as := [_, _, _]) 84 rfl rfl ml_X12_107 (s_Mo_at eb ⟨u1, u2⟩ ⟨by omega, by omega⟩ ⟨by omega, by omega⟩) rfl rfl (Nat.le_of_ble_eq_true rfl) ⟨Nat.le_of_ble_eq_true rfl, Nat.le_of_ble_eq_true rfl⟩ rfl (Nat.le_of_ble_eq_true rfl) (fun σ' z hz => ?_)))))))))
                  rw [hz.1, hz.2, ec]; clear hz z σ'
                  refine ok_iast 85 rfl rfl rfl (by first | omega | (simp [up_if]; omega) | (simp [up_if] at *; omega)) (ok_aload_n 86 rfl rfl rfl (ok_getR 87 rfl rfl fl_X12_39 rfl rfl (ok_aload_n 88 rfl rfl rfl (ok_getI 89 rfl rfl fl_X12_234 rfl rfl (Or.inl rfl) ?_))))
                  rw [up_ne _ _ _ _ (show (0 : Nat) ≠ 9 by decide), e22]
                  refine ok_iload_n 90 rfl rfl rfl (ok_iload 91 rfl rfl rfl (ok_iadd 92 rfl rfl (by first | omega | (simp [up_if]; omega) | (simp [up_if] at *; omega)) (ok_imul 93 rfl rfl (by first | omega | (simp [up_if]; omega) | (simp [up_if] at *; omega)) (ok_iload_n 94 rfl rfl rfl (ok_iadd 95 rfl rfl (by first | omega | (simp [up_if]; omega) | (simp [up_if] at *; omega)) (ok_iload 96 rfl rfl rfl (ok_iadd 97 rfl rfl (by first | omega | (simp [up_if]; omega) | (simp [up_if] at *; omega)) (ok_aload_n 98 rfl rfl rfl (ok_iload_n 99 rfl rfl rfl (ok_iload 100 rfl rfl rfl (ok_iload 101 rfl rfl rfl (ok_callVI (M' := M_Mo_at) (as := [_, _, _]) 102 rfl rfl ml_X12_107 (s_Mo_at (g1 _).1 ⟨u1, u2⟩ ⟨by omega, by rw [(g1 _).2.1]; omega⟩ ⟨by omega, by rw [(g1 _).2.1]; omega⟩) rfl rfl (Nat.le_of_ble_eq_true rfl) ⟨Nat.le_of_ble_eq_true rfl, Nat.le_of_ble_eq_true rfl⟩ rfl (Nat.le_of_ble_eq_true rfl) (fun σ' z hz => ?_)))))))))))))
                  rw [hz.1, hz.2, (g1 _).2.2.1]; clear hz z σ'
                  refine ok_iast 103 rfl rfl rfl (by first | omega | (simp [up_if]; omega) | (simp [up_if] at *; omega)) (ok_inc7 104 rfl rfl rfl (by first | omega | (simp [up_if]; omega) | (simp [up_if] at *; omega)) (ok_goto 105 127 rfl rfl rfl ?_))
                  rw [Int.add_assoc (2 * n * (n + j)) n i]
                  refine ih2 (j + 1) _ ⟨by omega, by omega, fr_up (fr_up f (by simp [rgS])) (by simp [rgS]), by rw [up_ne _ _ _ _ (by decide), up_ne _ _ _ _ (by decide)]; exact e22, fun a b a1 a2 b1 b2 => ?_⟩ (by omega)
                  rw [wk_up (by rw [up_ne _ _ _ _ (by decide)]; exact e22) ⟨by omega, by omega⟩ ⟨by omega, by omega⟩ ⟨b1, b2⟩, wk_up e22 ⟨by omega, by omega⟩ ⟨by omega, by omega⟩ ⟨b1, b2⟩, hw a b a1 a2 b1 b2]
                  exact tg_s ⟨by omega, by omega⟩ ⟨by omega, by omega⟩
            · refine ok_aload_n 55 rfl rfl rfl (ok_getR 56 rfl rfl fl_X12_39 rfl rfl (ok_iload 57 rfl rfl rfl (ok_iconst 58 rfl rfl (by decide) (ok_iast 59 rfl rfl rfl (by first | omega | (simp [up_if]; omega) | (simp [up_if] at *; omega)) (ok_inc6 60 rfl rfl rfl (by first | omega | (simp [up_if]; omega) | (simp [up_if] at *; omega)) (ok_goto 61 94 rfl rfl rfl ?_))))))
              refine ih (i + 1) _ ⟨by omega, by omega, fr_up f (by simp [rgS]), by rw [up_ne _ _ _ _ (by decide)]; exact e22, fun k a b => ?_⟩ (by omega)
              rw [up_if]
              by_cases q : k = i
              · rw [if_pos ⟨rfl, q⟩]
              · rw [if_neg (fun y => q y.2)]; exact hz k a (by omega)
          · have rb := rowB_bd hB ⟨u1, u2⟩ (i := i) ⟨i1, by omega⟩
            have cb := colB_bd hB ⟨u1, u2⟩ (j := i) ⟨i1, by omega⟩
            refine ok_lload 31 rfl rfl rfl (ok_aload_n 32 rfl rfl rfl (ok_iload_n 33 rfl rfl rfl (ok_iload 34 rfl rfl rfl (ok_callVL (M' := M_Mo_rowOf) (as := [_, _]) 35 rfl rfl ml_X12_114 (s_Mo_rowOf hB ⟨u1, u2⟩ ⟨by omega, by omega⟩) rfl rfl (Nat.le_of_ble_eq_true rfl) ⟨Nat.le_of_ble_eq_true rfl, Nat.le_of_ble_eq_true rfl⟩ rfl (Nat.le_of_ble_eq_true rfl) (fun σ' z hz => ?_)))))
            rw [hz.1, hz.2]
            clear hz z σ'
            refine ok_aload_n 36 rfl rfl rfl (ok_iload_n 37 rfl rfl rfl (ok_iload 38 rfl rfl rfl (ok_callVL (M' := M_Mo_columnOf) (as := [_, _]) 39 rfl rfl ml_X12_122 (s_Mo_columnOf hB ⟨u1, u2⟩ ⟨by omega, by omega⟩) rfl rfl (Nat.le_of_ble_eq_true rfl) ⟨Nat.le_of_ble_eq_true rfl, Nat.le_of_ble_eq_true rfl⟩ rfl (Nat.le_of_ble_eq_true rfl) (fun σ' z hz => ?_))))
            rw [hz.1, hz.2]
            clear hz z σ'
            refine ok_mmaxL 40 rfl rfl ml_X12_250 ⟨Nat.le_of_ble_eq_true rfl, Nat.le_of_ble_eq_true rfl⟩ (ok_mmaxL 41 rfl rfl ml_X12_250 ⟨Nat.le_of_ble_eq_true rfl, Nat.le_of_ble_eq_true rfl⟩ (ok_lst4 42 rfl rfl rfl (ok_inc6 43 rfl rfl rfl (by first | omega | (simp [up_if]; omega) | (simp [up_if] at *; omega)) (ok_goto 44 48 rfl rfl rfl ?_))))
            refine ih _ (i + 1) ⟨by omega, by omega, by omega, by omega, lt_ext (fun k a b => ?_) (by omega), grS_s i1 vx (by omega)⟩ (by omega)
            have := vm k a b
            omega
        · refine ok_iconst 17 rfl rfl (by decide) (ok_iret 18 rfl rfl rfl ?_)
          exact ⟨_, rfl, Or.inl ⟨fun c => no1 a2 h30 c.2.2.2, rfl, rfl⟩⟩
end
section
/-! THE PARTS KEPT, asked: the same sums and scans on both sides -/
/-- how much of the whole has two columns at two rows -/
def twS (N : Int) (wt : Int → Int) (col : Int → Int → Int) (i j k l : Int) : Int := sm (fun p => if col p i = j ∧ col p k = l then wt p else 0) N.toNat
theorem twS_cg {N n i j k l : Int} {wt wt' : Int → Int} {col col' : Int → Int → Int} (h : ∀ q, 0 ≤ q → q < N → wt q = wt' q ∧ ∀ i, 0 ≤ i → i < n → col q i = col' q i) (hi : 0 ≤ i ∧ i < n) (hk : 0 ≤ k ∧ k < n) : twS N wt col i j k l = twS N wt' col' i j k l := by
  unfold twS
  refine sm_cg (fun p a b => ?_)
  obtain ⟨h1, h2⟩ := h p a (by omega)
  rw [h1, h2 i hi.1 hi.2, h2 k hk.1 hk.2]
def wA (σ : eS) : Int → Int := fun q => σ 23 q
def kA (σ : eS) : Int → Int → Int := fun q i => σ 24 (8 * q + i)
def wB (σ : eS) : Int → Int := fun q => σ 12 q
def kB (σ : eS) : Int → Int → Int := fun q i => σ 13 (8 * q + i)
theorem sm_nn {f : Int → Int} : ∀ {n : Nat}, (∀ k : Int, 0 ≤ k → k < n → 0 ≤ f k) → 0 ≤ sm f n
  | 0, _ => Int.le_refl _
  | n + 1, h => by
    have a := sm_nn (n := n) (fun k a b => h k a (by omega))
    have b := h n (by omega) (by omega)
    show 0 ≤ sm f n + f n
    omega
theorem twS_bd {N i j k l : Int} {wt : Int → Int} {col : Int → Int → Int} (h : ∀ q, 0 ≤ q → q < N → 0 ≤ wt q) : 0 ≤ twS N wt col i j k l ∧ twS N wt col i j k l ≤ sm wt N.toNat := by
  refine ⟨sm_nn (fun q a b => ?_), sm_le2 (fun q a b => ?_)⟩
  · try dsimp only
    have := h q a (by omega)
    split <;> omega
  · have := h q a (by omega)
    split <;> omega
theorem twS_s {N i j k l : Int} {wt : Int → Int} {col : Int → Int → Int} (hN : 0 ≤ N) : twS (N + 1) wt col i j k l = twS N wt col i j k l + (if col N i = j ∧ col N k = l then wt N else 0) := by
  unfold twS
  rw [sm_s _ hN]
theorem t_Mi_weightOfBoth {σ : eS} {r c r2 c2 : Int} (h : iMi σ) (hr : 0 ≤ r ∧ r < 8) (hr2 : 0 ≤ r2 ∧ r2 < 8) : MtI shA M_Mi_weightOfBoth [vr 22, vi r, vi c, vi r2, vi c2] σ (fun σ' z => σ' = σ ∧ z = twS (σ 22 5) (wA σ) (kA σ) r c r2 c2) := by
  refine Mt.of okM_Mi_weightOfBoth (Nat.le_of_ble_eq_true rfl) (fun hk hg => ?_)
  obtain ⟨⟨h1, h2, h3, h4, h5, h6, h7⟩, a, b, d⟩ := id h
  refine ok_iconst 0 rfl rfl (by decide) (ok_ist5 1 rfl rfl rfl (ok_iconst 2 rfl rfl (by decide) (ok_ist6 3 rfl rfl rfl ?_)))
  refine lpO2 (fun (v j : Int) => [some (vr 22), some (vi r), some (vi c), some (vi r2), some (vi c2), some (vi v), some (vi j)]) (fun _ _ => σ) (fun v j => 0 ≤ j ∧ j ≤ σ 22 5 ∧ v = twS j (wA σ) (kA σ) r c r2 c2) (fun _ j => (64 - j).toNat) ?_ 0 0 ⟨by omega, by omega, rfl⟩
  rintro v j ⟨j1, j2, v1⟩ ih
  refine ok_iload 4 rfl rfl rfl (ok_aload_n 5 rfl rfl rfl (ok_getI 6 rfl rfl fl_X3_28 rfl rfl (Or.inl rfl) (ok_icmp_ge 7 56 rfl rfl rfl (fun h12 => ?_) (fun h12 => ?_))))
  · refine ok_iload 29 rfl rfl rfl (ok_iret 30 rfl rfl rfl ?_)
    exact ⟨_, rfl, rfl, by rw [v1, show j = σ 22 5 by omega]⟩
  · have w := mi_bd h j1 (by omega)
    have tb := twS_bd (N := j) (wt := wA σ) (col := kA σ) (i := r) (j := c) (k := r2) (l := c2) (fun q x y => a q x (by omega))
    have ts := twS_s (N := j) (wt := wA σ) (col := kA σ) (i := r) (j := c) (k := r2) (l := c2) j1
    have wj : wA σ j = σ 23 j := rfl
    have sw : sm (wA σ) j.toNat = sm (fun k => σ 23 k) j.toNat := rfl
    have k1 : kA σ j r = σ 24 (j * 8 + r) := by unfold kA; congr 1; omega
    have k2 : kA σ j r2 = σ 24 (j * 8 + r2) := by unfold kA; congr 1; omega
    refine ok_aload_n 8 rfl rfl rfl (ok_iload 9 rfl rfl rfl (ok_iload_n 10 rfl rfl rfl (ok_callVI (M' := M_Mi_columnOf) (as := [_, _]) 11 rfl rfl ml_X3_46 (s_Mi_columnOf h ⟨by omega, by omega⟩ hr) rfl rfl (Nat.le_of_ble_eq_true rfl) ⟨Nat.le_of_ble_eq_true rfl, Nat.le_of_ble_eq_true rfl⟩ rfl (Nat.le_of_ble_eq_true rfl) (fun σ' z1 x1 => ?_))))
    obtain ⟨hs_, x1⟩ := x1
    rw [hs_]; clear hs_ σ'
    refine ok_iload_n 12 rfl rfl rfl (ok_icmp_ne 13 50 rfl rfl rfl (fun h23 => ?_) (fun h23 => ?_))
    · refine ok_inc6 27 rfl rfl rfl (by first | omega | (simp [up_if]; omega) | (simp [up_if] at *; omega)) (ok_goto 28 6 rfl rfl rfl ?_)
      refine ih _ (j + 1) ⟨by omega, by omega, ?_⟩ (by omega)
      rw [ts]
      first
        | (rw [if_neg (by omega)]; omega)
        | (rw [if_pos (by omega)]; omega)
    · refine ok_aload_n 14 rfl rfl rfl (ok_iload 15 rfl rfl rfl (ok_iload_n 16 rfl rfl rfl (ok_callVI (M' := M_Mi_columnOf) (as := [_, _]) 17 rfl rfl ml_X3_46 (s_Mi_columnOf h ⟨by omega, by omega⟩ hr2) rfl rfl (Nat.le_of_ble_eq_true rfl) ⟨Nat.le_of_ble_eq_true rfl, Nat.le_of_ble_eq_true rfl⟩ rfl (Nat.le_of_ble_eq_true rfl) (fun σ' z2 x2 => ?_))))
      obtain ⟨hs_, x2⟩ := x2
      rw [hs_]; clear hs_ σ'
      refine ok_iload 18 rfl rfl rfl (ok_icmp_ne 19 50 rfl rfl rfl (fun h35 => ?_) (fun h35 => ?_))
      · refine ok_inc6 27 rfl rfl rfl (by first | omega | (simp [up_if]; omega) | (simp [up_if] at *; omega)) (ok_goto 28 6 rfl rfl rfl ?_)
        refine ih _ (j + 1) ⟨by omega, by omega, ?_⟩ (by omega)
        rw [ts]
        first
          | (rw [if_neg (by omega)]; omega)
          | (rw [if_pos (by omega)]; omega)
      · refine ok_iload 20 rfl rfl rfl (ok_aload_n 21 rfl rfl rfl (ok_getR 22 rfl rfl fl_X3_9 rfl rfl (ok_iload 23 rfl rfl rfl (ok_iald 24 rfl rfl rfl (by first | omega | (simp [up_if]; omega) | (simp [up_if] at *; omega)) (ok_iadd 25 rfl rfl (by first | omega | (simp [up_if]; omega) | (simp [up_if] at *; omega)) (ok_ist5 26 rfl rfl rfl (ok_inc6 27 rfl rfl rfl (by first | omega | (simp [up_if]; omega) | (simp [up_if] at *; omega)) (ok_goto 28 6 rfl rfl rfl ?_))))))))
        refine ih _ (j + 1) ⟨by omega, by omega, ?_⟩ (by omega)
        rw [ts]
        first
          | (rw [if_neg (by omega)]; omega)
          | (rw [if_pos (by omega)]; omega)
theorem t_Mi_weightOf {σ : eS} {r c : Int} (h : iMi σ) (hr : 0 ≤ r ∧ r < 8) : MtI shA M_Mi_weightOf [vr 22, vi r, vi c] σ (fun σ' z => σ' = σ ∧ z = twS (σ 22 5) (wA σ) (kA σ) r c r c) := by
  refine Mt.of okM_Mi_weightOf (Nat.le_of_ble_eq_true rfl) (fun hk hg => ?_)
  refine ok_aload_n 0 rfl rfl rfl (ok_iload_n 1 rfl rfl rfl (ok_iload_n 2 rfl rfl rfl (ok_iload_n 3 rfl rfl rfl (ok_iload_n 4 rfl rfl rfl (ok_callVI (M' := M_Mi_weightOfBoth) (as := [_, _, _, _]) 5 rfl rfl ml_X3_50 (t_Mi_weightOfBoth h hr hr) rfl rfl (Nat.le_of_ble_eq_true rfl) ⟨Nat.le_of_ble_eq_true rfl, Nat.le_of_ble_eq_true rfl⟩ rfl (Nat.le_of_ble_eq_true rfl) (fun σ' z hz => ?_))))))
  obtain ⟨hs_, hz⟩ := hz
  rw [hs_]; clear hs_ σ'
  refine ok_iret 6 rfl rfl rfl ?_
  exact ⟨_, rfl, rfl, hz⟩
/-- a share in least terms -/
def ltS (m w b : Int) : Int := if b ≠ 0 then w / (Int.gcd m w : Int) else m / (Int.gcd m w : Int)
theorem t_Mi_inLeastTerms {σ : eS} {w b : Int} (h : iMi σ) (hw : 0 ≤ w ∧ w ≤ 799999992) : MtI shA M_Mi_inLeastTerms [vr 22, vi w, vi b] σ (fun σ' z => σ' = σ ∧ (1 ≤ σ 22 6 → z = ltS (σ 22 6) w b)) := by
  refine Mt.of okM_Mi_inLeastTerms (Nat.le_of_ble_eq_true rfl) (fun hk hg => ?_)
  obtain ⟨⟨h1, h2, h3, h4, h5, h6, h7⟩, a, b', c⟩ := h
  have gp : 1 ≤ σ 22 6 → 1 ≤ (Int.gcd (σ 22 6) w : Int) ∧ (Int.gcd (σ 22 6) w : Int) ≤ σ 22 6 := fun q => gcd_pos (by omega)
  have g0 : (0 : Int) ≤ (Int.gcd (σ 22 6) w : Int) := by omega
  have g1 : (Int.gcd (σ 22 6) w : Int) ≤ 799999992 := by
    by_cases q : 1 ≤ σ 22 6
    · have := gp q; omega
    · rw [show σ 22 6 = 0 by omega, Int.gcd_zero_left]; omega
  refine ok_aload_n 0 rfl rfl rfl (ok_getI 1 rfl rfl fl_X3_31 rfl rfl (Or.inl rfl) (ok_i2l 2 rfl rfl (ok_iload_n 3 rfl rfl rfl (ok_i2l 4 rfl rfl (ok_callSL (M' := M_Nu_greatestDivisor) (as := [_, _]) 5 rfl rfl ml_X3_40 (s_Nu_greatestDivisor h5 ⟨hw.1, by omega⟩) ⟨Nat.le_of_ble_eq_true rfl, Nat.le_of_ble_eq_true rfl⟩ rfl (Nat.le_of_ble_eq_true rfl) (fun σ' z hz => ?_))))))
  rw [hz.1, hz.2]
  clear hz z σ'
  refine ok_l2i 6 rfl rfl (by omega) (ok_ist3 7 rfl rfl rfl (ok_iload_n 8 rfl rfl rfl (ok_iconst 9 rfl rfl (by decide) (ok_icmp_ge 10 19 rfl rfl rfl (fun h14 => ?_) (fun h14 => ?_)))))
  · refine ok_iload_n 13 rfl rfl rfl (ok_if_eq 14 29 rfl rfl rfl (fun h20 => ?_) (fun h20 => ?_))
    · refine ok_aload_n 19 rfl rfl rfl (ok_getI 20 rfl rfl fl_X3_31 rfl rfl (Or.inl rfl) (ok_iload_n 21 rfl rfl rfl (ok_idiv 22 rfl rfl (by first | omega | (simp [up_if]; omega) | (simp [up_if] at *; omega)) (by first | omega | (simp [up_if]; omega) | (simp [up_if] at *; omega)) (ok_iret 23 rfl rfl rfl ?_))))
      refine ⟨_, rfl, rfl, fun q => ?_⟩
      have := gp q
      unfold ltS
      first | omega | (rw [if_pos (by omega)]) | (rw [if_neg (by omega)])
    · refine ok_iload_n 15 rfl rfl rfl (ok_iload_n 16 rfl rfl rfl (ok_idiv 17 rfl rfl (by first | omega | (simp [up_if]; omega) | (simp [up_if] at *; omega)) (by first | omega | (simp [up_if]; omega) | (simp [up_if] at *; omega)) (ok_goto 18 35 rfl rfl rfl (ok_iret 23 rfl rfl rfl ?_))))
      refine ⟨_, rfl, rfl, fun q => ?_⟩
      have := gp q
      unfold ltS
      first | omega | (rw [if_pos (by omega)]) | (rw [if_neg (by omega)])
  · refine ok_iconst 11 rfl rfl (by decide) (ok_iret 12 rfl rfl rfl ?_)
    refine ⟨_, rfl, rfl, fun q => ?_⟩
    have := gp q
    unfold ltS
    first | omega | (rw [if_pos (by omega)]) | (rw [if_neg (by omega)])
/-- the part that a number draws -/
def drS (N : Int) (wt : Int → Int) (r z : Int) : Prop := (z = -1 ∧ ¬ (0 ≤ r ∧ r < sm wt N.toNat)) ∨ ((0 ≤ z ∧ z < N) ∧ sm wt z.toNat ≤ r ∧ r < sm wt (z + 1).toNat)
theorem drS_un {N r z z' : Int} {wt wt' : Int → Int} (hw : ∀ q, 0 ≤ q → q < N → 0 ≤ wt q) (e : ∀ q, 0 ≤ q → q < N → wt q = wt' q) (h : drS N wt r z) (h' : drS N wt' r z') : z = z' := by
  have ec : ∀ x : Int, x ≤ N → sm wt x.toNat = sm wt' x.toNat := fun x hx => sm_cg (fun k a b => e k a (by omega))
  have mo : ∀ x y : Int, 0 ≤ x → x ≤ y → y ≤ N → sm wt x.toNat ≤ sm wt y.toNat := fun x y a b c => sm_mn (by omega) (fun k p q => hw k p (by omega))
  have z0 : 0 ≤ sm wt (0 : Int).toNat := Int.le_refl _
  rcases h with ⟨a1, a2⟩ | ⟨a1, a2, a3⟩ <;> rcases h' with ⟨b1, b2⟩ | ⟨b1, b2, b3⟩
  · omega
  · exfalso
    have x := mo (z' + 1) N (by omega) (by omega) (by omega)
    have y := mo 0 z' (by omega) (by omega) (by omega)
    rw [← ec z' (by omega)] at b2
    rw [← ec (z' + 1) (by omega)] at b3
    omega
  · exfalso
    have x := mo (z + 1) N (by omega) (by omega) (by omega)
    have y := mo 0 z (by omega) (by omega) (by omega)
    rw [← ec N (by omega)] at b2
    omega
  · rw [← ec z' (by omega)] at b2
    rw [← ec (z' + 1) (by omega)] at b3
    rcases (by omega : z < z' ∨ z = z' ∨ z' < z) with q | q | q
    · have := mo (z + 1) z' (by omega) (by omega) (by omega); omega
    · exact q
    · have := mo (z' + 1) z (by omega) (by omega) (by omega); omega
theorem t_Mi_partAt {σ : eS} {r : Int} (h : iMi σ) : MtI shA M_Mi_partAt [vr 22, vi r] σ (fun σ' z => σ' = σ ∧ drS (σ 22 5) (wA σ) r z) := by
  refine Mt.of okM_Mi_partAt (Nat.le_of_ble_eq_true rfl) (fun hk hg => ?_)
  obtain ⟨⟨h1, h2, h3, h4, h5, h6, h7⟩, a, b, c⟩ := id h
  refine ok_iload_n 0 rfl rfl rfl (ok_if_ge 1 6 rfl rfl rfl (fun h1 => ?_) (fun h1 => ?_))
  · refine ok_iload_n 4 rfl rfl rfl (ok_ist2 5 rfl rfl rfl (ok_iconst 6 rfl rfl (by decide) (ok_ist3 7 rfl rfl rfl ?_)))
    refine lpO2 (fun (v j : Int) => [some (vr 22), some (vi r), some (vi v), some (vi j)]) (fun _ _ => σ) (fun v j => 0 ≤ j ∧ j ≤ σ 22 5 ∧ 0 ≤ v ∧ v = r - sm (wA σ) j.toNat) (fun _ j => (64 - j).toNat) ?_ r 0 ⟨by omega, by omega, by omega, by show r = r - 0; omega⟩
    have hr : rg r := hk.2.1
    rintro v j ⟨j1, j2, v1, v2⟩ ih
    have sn : 0 ≤ sm (wA σ) j.toNat := sm_nn (fun q x y => a q x (by omega))
    refine ok_iload_n 8 rfl rfl rfl (ok_aload_n 9 rfl rfl rfl (ok_getI 10 rfl rfl fl_X3_28 rfl rfl (Or.inl rfl) (ok_icmp_ge 11 45 rfl rfl rfl (fun h15 => ?_) (fun h15 => ?_))))
    · refine ok_iconst 29 rfl rfl (by decide) (ok_iret 30 rfl rfl rfl ?_)
      exact ⟨_, rfl, rfl, Or.inl ⟨rfl, by rw [show σ 22 5 = j by omega]; omega⟩⟩
    · have w := mi_bd h j1 (by omega)
      have e := sm_s (wA σ) (j := j) j1
      have wj : wA σ j = σ 23 j := rfl
      refine ok_iload_n 12 rfl rfl rfl (ok_aload_n 13 rfl rfl rfl (ok_getR 14 rfl rfl fl_X3_9 rfl rfl (ok_iload_n 15 rfl rfl rfl (ok_iald 16 rfl rfl rfl (by first | omega | (simp [up_if]; omega) | (simp [up_if] at *; omega)) (ok_icmp_ge 17 30 rfl rfl rfl (fun h25 => ?_) (fun h25 => ?_))))))
      · refine ok_iload_n 20 rfl rfl rfl (ok_aload_n 21 rfl rfl rfl (ok_getR 22 rfl rfl fl_X3_9 rfl rfl (ok_iload_n 23 rfl rfl rfl (ok_iald 24 rfl rfl rfl (by first | omega | (simp [up_if]; omega) | (simp [up_if] at *; omega)) (ok_isub 25 rfl rfl (by first | omega | (simp [up_if]; omega) | (simp [up_if] at *; omega)) (ok_ist2 26 rfl rfl rfl (ok_inc3 27 rfl rfl rfl (by first | omega | (simp [up_if]; omega) | (simp [up_if] at *; omega)) (ok_goto 28 10 rfl rfl rfl ?_))))))))
        exact ih _ (j + 1) ⟨by omega, by omega, by omega, by omega⟩ (by omega)
      · refine ok_iload_n 18 rfl rfl rfl (ok_iret 19 rfl rfl rfl ?_)
        exact ⟨_, rfl, rfl, Or.inr ⟨⟨by omega, by omega⟩, by omega, by omega⟩⟩
  · refine ok_iconst 2 rfl rfl (by decide) (ok_iret 3 rfl rfl rfl ?_)
    exact ⟨_, rfl, rfl, Or.inl ⟨rfl, by omega⟩⟩
/-- the first of the greatest -/
def mxS (f : Int → Int) (n z : Int) : Prop := (0 ≤ z ∧ z < n) ∧ (∀ j, 0 ≤ j → j < n → f j ≤ f z) ∧ ∀ j, 0 ≤ j → j < z → f j < f z
theorem mxS_un {f g : Int → Int} {n z z' : Int} (e : ∀ j, 0 ≤ j → j < n → f j = g j) (h : mxS f n z) (h' : mxS g n z') : z = z' := by
  obtain ⟨a1, a2, a3⟩ := h
  obtain ⟨b1, b2, b3⟩ := h'
  rcases (by omega : z < z' ∨ z = z' ∨ z' < z) with q | q | q
  · have x := b3 z a1.1 q
    have y := a2 z' b1.1 b1.2
    rw [← e z a1.1 a1.2, ← e z' b1.1 b1.2] at x
    omega
  · exact q
  · have x := a3 z' b1.1 q
    have y := b2 z a1.1 a1.2
    rw [← e z a1.1 a1.2, ← e z' b1.1 b1.2] at y
    omega
theorem mxS_s {f : Int → Int} {n z : Int} (h : mxS f n z) (hn : 0 ≤ n) : (f z < f n → mxS f (n + 1) n) ∧ (f n ≤ f z → mxS f (n + 1) z) := by
  obtain ⟨a1, a2, a3⟩ := h
  refine ⟨fun q => ⟨⟨hn, by omega⟩, lt_ext (fun j x y => ?_) (Int.le_refl _), fun j x y => ?_⟩, fun q => ⟨⟨a1.1, by omega⟩, lt_ext a2 q, a3⟩⟩
  · have := a2 j x y; omega
  · have := a2 j x y; omega
theorem t_Mi_commonestColumn {σ : eS} {r : Int} (h : iMi σ) (hr : 0 ≤ r ∧ r < σ 22 4) : MtI shA M_Mi_commonestColumn [vr 22, vi r] σ (fun σ' z => σ' = σ ∧ mxS (fun c => twS (σ 22 5) (wA σ) (kA σ) r c r c) (σ 22 4) z) := by
  refine Mt.of okM_Mi_commonestColumn (Nat.le_of_ble_eq_true rfl) (fun hk hg => ?_)
  obtain ⟨⟨h1, h2, h3, h4, h5, h6, h7⟩, a, b, d⟩ := id h
  refine ok_iconst 0 rfl rfl (by decide) (ok_ist2 1 rfl rfl rfl (ok_iconst 2 rfl rfl (by decide) (ok_ist3 3 rfl rfl rfl ?_)))
  refine lpO2 (fun (v j : Int) => [some (vr 22), some (vi r), some (vi v), some (vi j)]) (fun _ _ => σ) (fun v j => 1 ≤ j ∧ j ≤ σ 22 4 ∧ mxS (fun c => twS (σ 22 5) (wA σ) (kA σ) r c r c) j v) (fun _ j => (9 - j).toNat) ?_ 0 1 ⟨by omega, by omega, ⟨by omega, by omega⟩, fun j x y => by rw [show j = 0 by omega]; exact Int.le_refl _, fun j x y => by omega⟩
  rintro v j ⟨j1, j2, v1⟩ ih
  have ms := mxS_s v1 (by omega)
  try dsimp only at ms
  refine ok_iload_n 4 rfl rfl rfl (ok_aload_n 5 rfl rfl rfl (ok_getI 6 rfl rfl fl_X3_25 rfl rfl (Or.inl rfl) (ok_icmp_ge 7 35 rfl rfl rfl (fun h9 => ?_) (fun h9 => ?_))))
  · refine ok_iload_n 21 rfl rfl rfl (ok_iret 22 rfl rfl rfl ?_)
    exact ⟨_, rfl, rfl, by rw [show σ 22 4 = j by omega]; exact v1⟩
  · refine ok_aload_n 8 rfl rfl rfl (ok_iload_n 9 rfl rfl rfl (ok_iload_n 10 rfl rfl rfl (ok_callVI (M' := M_Mi_weightOf) (as := [_, _]) 11 rfl rfl ml_X3_54 (t_Mi_weightOf h ⟨hr.1, by omega⟩) rfl rfl (Nat.le_of_ble_eq_true rfl) ⟨Nat.le_of_ble_eq_true rfl, Nat.le_of_ble_eq_true rfl⟩ rfl (Nat.le_of_ble_eq_true rfl) (fun σ' z1 x1 => ?_))))
    obtain ⟨hs_, x1⟩ := x1
    rw [hs_]; clear hs_ σ'
    refine ok_aload_n 12 rfl rfl rfl (ok_iload_n 13 rfl rfl rfl (ok_iload_n 14 rfl rfl rfl (ok_callVI (M' := M_Mi_weightOf) (as := [_, _]) 15 rfl rfl ml_X3_54 (t_Mi_weightOf h ⟨hr.1, by omega⟩) rfl rfl (Nat.le_of_ble_eq_true rfl) ⟨Nat.le_of_ble_eq_true rfl, Nat.le_of_ble_eq_true rfl⟩ rfl (Nat.le_of_ble_eq_true rfl) (fun σ' z2 x2 => ?_))))
    obtain ⟨hs_, x2⟩ := x2
    rw [hs_]; clear hs_ σ'
    refine ok_icmp_le 16 29 rfl rfl rfl (fun h24 => ?_) (fun h24 => ?_)
    · refine ok_inc3 19 rfl rfl rfl (by first | omega | (simp [up_if]; omega) | (simp [up_if] at *; omega)) (ok_goto 20 4 rfl rfl rfl ?_)
      refine ih _ (j + 1) ⟨by omega, by omega, ?_⟩ (by omega)
      first
        | exact ms.1 (by omega)
        | exact ms.2 (by omega)
    · refine ok_iload_n 17 rfl rfl rfl (ok_ist2 18 rfl rfl rfl (ok_inc3 19 rfl rfl rfl (by first | omega | (simp [up_if]; omega) | (simp [up_if] at *; omega)) (ok_goto 20 4 rfl rfl rfl ?_)))
      refine ih _ (j + 1) ⟨by omega, by omega, ?_⟩ (by omega)
      first
        | exact ms.1 (by omega)
        | exact ms.2 (by omega)
def seS (N : Int) (col : Int → Int → Int) (r s : Int) : Prop := (0 ≤ s ∧ s < 256) ∧ ∀ c : Int, 0 ≤ c → c < 8 → (bt s c = true ↔ ∃ p, 0 ≤ p ∧ p < N ∧ col p r = c)
theorem seS_s {N r s x : Int} {col : Int → Int → Int} (hN : 0 ≤ N) (h : seS N col r s) (hx : col N r = x) (hb : 0 ≤ x ∧ x ≤ 7) : seS (N + 1) col r (ior s (ishl 1 x)) := by
  have o := or8 h.1 (j := x) ⟨hb.1, by omega⟩
  refine ⟨o, fun c a b => ?_⟩
  rw [bitP h.1 ⟨hb.1, by omega⟩, bt_sB' hb.1 a, h.2 c a b]
  constructor
  · rintro (⟨p, p1, p2, p3⟩ | q)
    · exact ⟨p, p1, by omega, p3⟩
    · exact ⟨N, hN, by omega, by rw [hx]; exact q.symm⟩
  · rintro ⟨p, p1, p2, p3⟩
    by_cases q : p = N
    · right; rw [← hx, ← q]; exact p3.symm
    · exact Or.inl ⟨p, p1, by omega, p3⟩
theorem t_Mi_countColumns {σ : eS} {r : Int} (h : iMi σ) (hr : 0 ≤ r ∧ r < 8) : MtI shA M_Mi_countColumns [vr 22, vi r] σ (fun σ' z => σ' = σ ∧ ∃ s, seS (σ 22 5) (kA σ) r s ∧ z = pc s) := by
  refine Mt.of okM_Mi_countColumns (Nat.le_of_ble_eq_true rfl) (fun hk hg => ?_)
  obtain ⟨⟨h1, h2, h3, h4, h5, h6, h7⟩, a, b, d⟩ := id h
  refine ok_iconst 0 rfl rfl (by decide) (ok_ist2 1 rfl rfl rfl (ok_iconst 2 rfl rfl (by decide) (ok_ist3 3 rfl rfl rfl ?_)))
  refine lpO2 (fun (v j : Int) => [some (vr 22), some (vi r), some (vi v), some (vi j)]) (fun _ _ => σ) (fun v j => 0 ≤ j ∧ j ≤ σ 22 5 ∧ seS j (kA σ) r v) (fun _ j => (64 - j).toNat) ?_ 0 0 ⟨by omega, by omega, ⟨by omega, by omega⟩, fun c x y => by rw [bt_0]; constructor; intro q; cases q; rintro ⟨p, p1, p2, -⟩; omega⟩
  rintro v j ⟨j1, j2, v1⟩ ih
  refine ok_iload_n 4 rfl rfl rfl (ok_aload_n 5 rfl rfl rfl (ok_getI 6 rfl rfl fl_X3_28 rfl rfl (Or.inl rfl) (ok_icmp_ge 7 29 rfl rfl rfl (fun h9 => ?_) (fun h9 => ?_))))
  · refine ok_iload_n 19 rfl rfl rfl (ok_callSI (M' := M_Ji_bitCount) (as := [_]) 20 rfl rfl ml_X3_57 (s_Ji_bitCount) ⟨Nat.le_of_ble_eq_true rfl, Nat.le_of_ble_eq_true rfl⟩ rfl (Nat.le_of_ble_eq_true rfl) (fun σ' z hz => ?_))
    rw [hz.1, hz.2]
    clear hz z σ'
    refine ok_iret 21 rfl rfl rfl ?_
    exact ⟨_, rfl, rfl, _, by rw [show σ 22 5 = j by omega]; exact v1, bcP v1.1⟩
  · refine ok_iload_n 8 rfl rfl rfl (ok_iconst 9 rfl rfl (by decide) (ok_aload_n 10 rfl rfl rfl (ok_iload_n 11 rfl rfl rfl (ok_iload_n 12 rfl rfl rfl (ok_callVI (M' := M_Mi_columnOf) (as := [_, _]) 13 rfl rfl ml_X3_46 (s_Mi_columnOf h ⟨by omega, by omega⟩ hr) rfl rfl (Nat.le_of_ble_eq_true rfl) ⟨Nat.le_of_ble_eq_true rfl, Nat.le_of_ble_eq_true rfl⟩ rfl (Nat.le_of_ble_eq_true rfl) (fun σ' z1 x1 => ?_))))))
    obtain ⟨hs_, x1⟩ := x1
    rw [hs_]; clear hs_ σ'
    refine ok_ishl 14 rfl rfl (ok_ior 15 rfl rfl (ok_ist2 16 rfl rfl rfl (ok_inc3 17 rfl rfl rfl (by first | omega | (simp [up_if]; omega) | (simp [up_if] at *; omega)) (ok_goto 18 4 rfl rfl rfl ?_))))
    exact ih _ (j + 1) ⟨by omega, by omega, seS_s j1 v1 (by unfold kA; rw [x1.1]; congr 1; omega) x1.2⟩ (by omega)
theorem t_Mi_machineOf {σ : eS} {k r : Int} (h : iMi σ) (hkk : 0 ≤ k ∧ k < 64) (hr : 0 ≤ r ∧ r < 8) : MtI shA M_Mi_machineOf [vr 22, vi k, vi r] σ (fun σ' z => σ' = σ ∧ z = if kA σ k r < σ 22 3 then kA σ k r else -1) := by
  refine Mt.of okM_Mi_machineOf (Nat.le_of_ble_eq_true rfl) (fun hk hg => ?_)
  have e : kA σ k r = σ 24 (k * 8 + r) := by unfold kA; congr 1; omega
  refine ok_aload_n 0 rfl rfl rfl (ok_iload_n 1 rfl rfl rfl (ok_iload_n 2 rfl rfl rfl (ok_callVI (M' := M_Mi_columnOf) (as := [_, _]) 3 rfl rfl ml_X3_46 (s_Mi_columnOf h hkk hr) rfl rfl (Nat.le_of_ble_eq_true rfl) ⟨Nat.le_of_ble_eq_true rfl, Nat.le_of_ble_eq_true rfl⟩ rfl (Nat.le_of_ble_eq_true rfl) (fun σ' z hz => ?_))))
  obtain ⟨hs_, hz⟩ := hz
  rw [hs_]; clear hs_ σ'
  refine ok_ist3 4 rfl rfl rfl (ok_iload_n 5 rfl rfl rfl (ok_aload_n 6 rfl rfl rfl (ok_getI 7 rfl rfl fl_X3_22 rfl rfl (Or.inl rfl) (ok_icmp_ge 8 19 rfl rfl rfl (fun h12 => ?_) (fun h12 => ?_)))))
  · refine ok_iconst 11 rfl rfl (by decide) (ok_iret 12 rfl rfl rfl ?_)
    refine ⟨_, rfl, rfl, ?_⟩
    rw [e]
    first | (rw [if_pos (by omega)]; omega) | (rw [if_neg (by omega)])
  · refine ok_iload_n 9 rfl rfl rfl (ok_goto 10 20 rfl rfl rfl (ok_iret 12 rfl rfl rfl ?_))
    refine ⟨_, rfl, rfl, ?_⟩
    rw [e]
    first | (rw [if_pos (by omega)]; omega) | (rw [if_neg (by omega)])
/-- the answers -/
def prS (N n : Int) (col : Int → Int → Int) (k r z : Int) : Prop := z = @ite Int (0 ≤ k ∧ k < N ∧ 0 ≤ r ∧ r < n) (Classical.propDecidable _) (col k r) (-1)
theorem t_Ev_part {σ : eS} {k r : Int} (h : IA σ) : MtI shA M_Ev_part [vr 0, vi k, vi r] σ (fun σ' z => σ' = σ ∧ prS (σ 22 5) (σ 22 4) (kA σ) k r z) := by
  refine Mt.of okM_Ev_part (Nat.le_of_ble_eq_true rfl) (fun hk hg => ?_)
  have hm := h.2.2.2.1
  obtain ⟨⟨h1, h2, h3, h4, h5, h6, h7⟩, a, b, d⟩ := id hm
  have e : kA σ k r = σ 24 (k * 8 + r) := by unfold kA; congr 1; omega
  refine ok_aload_n 0 rfl rfl rfl (ok_getR 1 rfl rfl fl_X11_48 rfl rfl (ok_iload_n 2 rfl rfl rfl (ok_callVI (M' := M_Mi_hasPart) (as := [_]) 3 rfl rfl ml_X11_181 (s_Mi_hasPart) rfl rfl (Nat.le_of_ble_eq_true rfl) ⟨Nat.le_of_ble_eq_true rfl, Nat.le_of_ble_eq_true rfl⟩ rfl (Nat.le_of_ble_eq_true rfl) (fun σ' z1 x1 => ?_))))
  obtain ⟨hs_, x1⟩ := x1
  rw [hs_]; clear hs_ σ'
  refine ok_if_eq 4 34 rfl rfl rfl (fun h8 => ?_) (fun h8 => ?_)
  · refine ok_iconst 16 rfl rfl (by decide) (ok_iret 17 rfl rfl rfl ?_)
    refine ⟨_, rfl, rfl, ?_⟩
    unfold prS
    first | (rw [if_pos (by omega)]; omega) | (rw [if_neg (by omega)])
  · refine ok_aload_n 5 rfl rfl rfl (ok_getR 6 rfl rfl fl_X11_48 rfl rfl (ok_iload_n 7 rfl rfl rfl (ok_callVI (M' := M_Mi_hasRow) (as := [_]) 8 rfl rfl ml_X11_184 (s_Mi_hasRow) rfl rfl (Nat.le_of_ble_eq_true rfl) ⟨Nat.le_of_ble_eq_true rfl, Nat.le_of_ble_eq_true rfl⟩ rfl (Nat.le_of_ble_eq_true rfl) (fun σ' z2 x2 => ?_))))
    obtain ⟨hs_, x2⟩ := x2
    rw [hs_]; clear hs_ σ'
    refine ok_if_eq 9 34 rfl rfl rfl (fun h19 => ?_) (fun h19 => ?_)
    · refine ok_iconst 16 rfl rfl (by decide) (ok_iret 17 rfl rfl rfl ?_)
      refine ⟨_, rfl, rfl, ?_⟩
      unfold prS
      first | (rw [if_pos (by omega)]; omega) | (rw [if_neg (by omega)])
    · refine ok_aload_n 10 rfl rfl rfl (ok_getR 11 rfl rfl fl_X11_48 rfl rfl (ok_iload_n 12 rfl rfl rfl (ok_iload_n 13 rfl rfl rfl (ok_callVI (M' := M_Mi_columnOf) (as := [_, _]) 14 rfl rfl ml_X11_187 (s_Mi_columnOf hm ⟨by omega, by omega⟩ ⟨by omega, by omega⟩) rfl rfl (Nat.le_of_ble_eq_true rfl) ⟨Nat.le_of_ble_eq_true rfl, Nat.le_of_ble_eq_true rfl⟩ rfl (Nat.le_of_ble_eq_true rfl) (fun σ' z3 x3 => ?_)))))
      obtain ⟨hs_, x3⟩ := x3
      rw [hs_]; clear hs_ σ'
      refine ok_goto 15 35 rfl rfl rfl (ok_iret 17 rfl rfl rfl ?_)
      refine ⟨_, rfl, rfl, ?_⟩
      unfold prS
      first | (rw [if_pos (by omega)]; omega) | (rw [if_neg (by omega)])
def wtS (N m : Int) (wt : Int → Int) (k w z : Int) : Prop := z = @ite Int ((0 ≤ k ∧ k < N) ∧ 0 ≤ w ∧ w ≤ 2) (Classical.propDecidable _) (if w = 0 then wt k else if w = 1 then wt k / (Int.gcd m (wt k) : Int) else m / (Int.gcd m (wt k) : Int)) (-1)
theorem t_Ev_weight {σ : eS} {k w : Int} (h : IA σ) : MtI shA M_Ev_weight [vr 0, vi k, vi w] σ (fun σ' z => σ' = σ ∧ (1 ≤ σ 22 6 → wtS (σ 22 5) (σ 22 6) (wA σ) k w z) ∧ (σ 22 5 = 0 → z = -1)) := by
  refine Mt.of okM_Ev_weight (Nat.le_of_ble_eq_true rfl) (fun hk hg => ?_)
  have hm := h.2.2.2.1
  obtain ⟨⟨h1, h2, h3, h4, h5, h6, h7⟩, a, b, d⟩ := id hm
  have e : wA σ k = σ 23 k := rfl
  refine ok_aload_n 0 rfl rfl rfl (ok_getR 1 rfl rfl fl_X11_48 rfl rfl (ok_iload_n 2 rfl rfl rfl (ok_callVI (M' := M_Mi_hasPart) (as := [_]) 3 rfl rfl ml_X11_181 (s_Mi_hasPart) rfl rfl (Nat.le_of_ble_eq_true rfl) ⟨Nat.le_of_ble_eq_true rfl, Nat.le_of_ble_eq_true rfl⟩ rfl (Nat.le_of_ble_eq_true rfl) (fun σ' z1 x1 => ?_))))
  obtain ⟨hs_, x1⟩ := x1
  rw [hs_]; clear hs_ σ'
  refine ok_if_eq 4 20 rfl rfl rfl (fun h8 => ?_) (fun h8 => ?_)
  · refine ok_iconst 10 rfl rfl (by decide) (ok_iret 11 rfl rfl rfl ?_)
    exact ⟨_, rfl, rfl, fun _ => by unfold wtS; rw [if_neg (by omega)], fun _ => rfl⟩
  · refine ok_iload_n 5 rfl rfl rfl (ok_if_lt 6 20 rfl rfl rfl (fun h12 => ?_) (fun h12 => ?_))
    · refine ok_iconst 10 rfl rfl (by decide) (ok_iret 11 rfl rfl rfl ?_)
      exact ⟨_, rfl, rfl, fun _ => by unfold wtS; rw [if_neg (by omega)], fun _ => rfl⟩
    · refine ok_iload_n 7 rfl rfl rfl (ok_iconst 8 rfl rfl (by decide) (ok_icmp_le 9 22 rfl rfl rfl (fun h17 => ?_) (fun h17 => ?_)))
      · have w0 := mi_bd hm (k := k) (by omega) (by omega)
        refine ok_aload_n 12 rfl rfl rfl (ok_getR 13 rfl rfl fl_X11_48 rfl rfl (ok_getR 14 rfl rfl fl_X11_191 rfl rfl (ok_iload_n 15 rfl rfl rfl (ok_iald 16 rfl rfl rfl (by first | omega | (simp [up_if]; omega) | (simp [up_if] at *; omega)) (ok_ist3 17 rfl rfl rfl (ok_iload_n 18 rfl rfl rfl (ok_if_ne 19 40 rfl rfl rfl (fun h33 => ?_) (fun h33 => ?_))))))))
        · refine ok_aload_n 22 rfl rfl rfl (ok_getR 23 rfl rfl fl_X11_48 rfl rfl (ok_iload_n 24 rfl rfl rfl (ok_iload_n 25 rfl rfl rfl (ok_iconst 26 rfl rfl (by decide) (ok_icmp_ne 27 54 rfl rfl rfl (fun h47 => ?_) (fun h47 => ?_))))))
          · refine ok_iconst 30 rfl rfl (by decide) (ok_callVI (M' := M_Mi_inLeastTerms) (as := [_, _]) 31 rfl rfl ml_X11_194 (t_Mi_inLeastTerms hm ⟨by omega, by omega⟩) rfl rfl (Nat.le_of_ble_eq_true rfl) ⟨Nat.le_of_ble_eq_true rfl, Nat.le_of_ble_eq_true rfl⟩ rfl (Nat.le_of_ble_eq_true rfl) (fun σ' z3 x3 => ?_))
            obtain ⟨hs_, x3⟩ := x3
            rw [hs_]; clear hs_ σ'
            refine ok_iret 32 rfl rfl rfl ?_
            refine ⟨_, rfl, rfl, fun q => ?_, fun q => by omega⟩
            unfold wtS
            rw [if_pos (by omega)]
            first
              | rw [if_pos (by omega)]; rfl
              | (have y := x3 q; unfold ltS at y; first | rw [if_pos (show (1 : Int) ≠ 0 by decide)] at y | rw [if_neg (show ¬ ((0 : Int) ≠ 0) by decide)] at y
                 rw [y, if_neg (by omega)]; first | (rw [if_pos (by omega)]; done) | (rw [if_neg (by omega)]; done) | (rw [if_pos (by omega)]; rfl) | (rw [if_neg (by omega)]; rfl))
          · refine ok_iconst 28 rfl rfl (by decide) (ok_goto 29 55 rfl rfl rfl (ok_callVI (M' := M_Mi_inLeastTerms) (as := [_, _]) 31 rfl rfl ml_X11_194 (t_Mi_inLeastTerms hm ⟨by omega, by omega⟩) rfl rfl (Nat.le_of_ble_eq_true rfl) ⟨Nat.le_of_ble_eq_true rfl, Nat.le_of_ble_eq_true rfl⟩ rfl (Nat.le_of_ble_eq_true rfl) (fun σ' z3 x3 => ?_)))
            obtain ⟨hs_, x3⟩ := x3
            rw [hs_]; clear hs_ σ'
            refine ok_iret 32 rfl rfl rfl ?_
            refine ⟨_, rfl, rfl, fun q => ?_, fun q => by omega⟩
            unfold wtS
            rw [if_pos (by omega)]
            first
              | rw [if_pos (by omega)]; rfl
              | (have y := x3 q; unfold ltS at y; first | rw [if_pos (show (1 : Int) ≠ 0 by decide)] at y | rw [if_neg (show ¬ ((0 : Int) ≠ 0) by decide)] at y
                 rw [y, if_neg (by omega)]; first | (rw [if_pos (by omega)]; done) | (rw [if_neg (by omega)]; done) | (rw [if_pos (by omega)]; rfl) | (rw [if_neg (by omega)]; rfl))
        · refine ok_iload_n 20 rfl rfl rfl (ok_goto 21 58 rfl rfl rfl (ok_iret 32 rfl rfl rfl ?_))
          refine ⟨_, rfl, rfl, fun q => ?_, fun q => by omega⟩
          unfold wtS
          rw [if_pos (by omega)]
          first
            | rw [if_pos (by omega)]; rfl
            | (have y := x3 q; unfold ltS at y; first | rw [if_pos (show (1 : Int) ≠ 0 by decide)] at y | rw [if_neg (show ¬ ((0 : Int) ≠ 0) by decide)] at y
               rw [y, if_neg (by omega)]; first | (rw [if_pos (by omega)]; done) | (rw [if_neg (by omega)]; done) | (rw [if_pos (by omega)]; rfl) | (rw [if_neg (by omega)]; rfl))
      · refine ok_iconst 10 rfl rfl (by decide) (ok_iret 11 rfl rfl rfl ?_)
        exact ⟨_, rfl, rfl, fun _ => by unfold wtS; rw [if_neg (by omega)], fun _ => rfl⟩
theorem t_Ev_draw {σ : eS} {r : Int} (h : IA σ) : MtI shA M_Ev_draw [vr 0, vi r] σ (fun σ' z => σ' = σ ∧ drS (σ 22 5) (wA σ) r z) := by
  refine Mt.of okM_Ev_draw (Nat.le_of_ble_eq_true rfl) (fun hk hg => ?_)
  refine ok_aload_n 0 rfl rfl rfl (ok_getR 1 rfl rfl fl_X11_48 rfl rfl (ok_iload_n 2 rfl rfl rfl (ok_callVI (M' := M_Mi_partAt) (as := [_]) 3 rfl rfl ml_X11_198 (t_Mi_partAt h.2.2.2.1) rfl rfl (Nat.le_of_ble_eq_true rfl) ⟨Nat.le_of_ble_eq_true rfl, Nat.le_of_ble_eq_true rfl⟩ rfl (Nat.le_of_ble_eq_true rfl) (fun σ' z1 x1 => ?_))))
  obtain ⟨hs_, x1⟩ := x1
  rw [hs_]; clear hs_ σ'
  refine ok_iret 4 rfl rfl rfl ?_
  exact ⟨_, rfl, rfl, x1⟩
def okJ4 (n i j k l w : Int) : Prop := (0 ≤ i ∧ i < n) ∧ (0 ≤ j ∧ j < n) ∧ (0 ≤ k ∧ k < n) ∧ (0 ≤ l ∧ l < n) ∧ 0 ≤ w ∧ w ≤ 1
def jtS (N n m : Int) (wt : Int → Int) (col : Int → Int → Int) (i j k l w z : Int) : Prop := z = @ite Int (okJ4 n i j k l w) (Classical.propDecidable _) (if w = 0 then twS N wt col i j k l / (Int.gcd m (twS N wt col i j k l) : Int) else m / (Int.gcd m (twS N wt col i j k l) : Int)) (-1)
theorem t_Ev_joint {σ : eS} {i j k l w : Int} (h : IA σ) : MtI shA M_Ev_joint [vr 0, vi i, vi j, vi k, vi l, vi w] σ (fun σ' z => σ' = σ ∧ (1 ≤ σ 22 6 → jtS (σ 22 5) (σ 22 4) (σ 22 6) (wA σ) (kA σ) i j k l w z) ∧ (σ 22 4 = 0 → z = -1)) := by
  refine Mt.of okM_Ev_joint (Nat.le_of_ble_eq_true rfl) (fun hk hg => ?_)
  have hm := h.2.2.2.1
  obtain ⟨⟨h1, h2, h3, h4, h5, h6, h7⟩, a, b, d⟩ := id hm
  have tb := twS_bd (N := σ 22 5) (wt := wA σ) (col := kA σ) (i := i) (j := j) (k := k) (l := l) a
  have td : sm (wA σ) (σ 22 5).toNat ≤ σ 22 6 := d
  refine ok_aload_n 0 rfl rfl rfl (ok_getR 1 rfl rfl fl_X11_48 rfl rfl (ok_iload_n 2 rfl rfl rfl (ok_callVI (M' := M_Mi_hasRow) (as := [_]) 3 rfl rfl ml_X11_184 (s_Mi_hasRow) rfl rfl (Nat.le_of_ble_eq_true rfl) ⟨Nat.le_of_ble_eq_true rfl, Nat.le_of_ble_eq_true rfl⟩ rfl (Nat.le_of_ble_eq_true rfl) (fun σ' z1 x1 => ?_))))
  obtain ⟨hs_, x1⟩ := x1
  rw [hs_]; clear hs_ σ'
  refine ok_if_eq 4 45 rfl rfl rfl (fun h8 => ?_) (fun h8 => ?_)
  · refine ok_iconst 20 rfl rfl (by decide) (ok_iret 21 rfl rfl rfl ?_)
    exact ⟨_, rfl, rfl, fun _ => by unfold jtS okJ4; rw [if_neg (by omega)], fun _ => rfl⟩
  · refine ok_aload_n 5 rfl rfl rfl (ok_getR 6 rfl rfl fl_X11_48 rfl rfl (ok_iload_n 7 rfl rfl rfl (ok_callVI (M' := M_Mi_hasRow) (as := [_]) 8 rfl rfl ml_X11_184 (s_Mi_hasRow) rfl rfl (Nat.le_of_ble_eq_true rfl) ⟨Nat.le_of_ble_eq_true rfl, Nat.le_of_ble_eq_true rfl⟩ rfl (Nat.le_of_ble_eq_true rfl) (fun σ' z2 x2 => ?_))))
    obtain ⟨hs_, x2⟩ := x2
    rw [hs_]; clear hs_ σ'
    refine ok_if_eq 9 45 rfl rfl rfl (fun h19 => ?_) (fun h19 => ?_)
    · refine ok_iconst 20 rfl rfl (by decide) (ok_iret 21 rfl rfl rfl ?_)
      exact ⟨_, rfl, rfl, fun _ => by unfold jtS okJ4; rw [if_neg (by omega)], fun _ => rfl⟩
    · refine ok_aload_n 10 rfl rfl rfl (ok_getR 11 rfl rfl fl_X11_48 rfl rfl (ok_iload_n 12 rfl rfl rfl (ok_callVI (M' := M_Mi_hasRow) (as := [_]) 13 rfl rfl ml_X11_184 (s_Mi_hasRow) rfl rfl (Nat.le_of_ble_eq_true rfl) ⟨Nat.le_of_ble_eq_true rfl, Nat.le_of_ble_eq_true rfl⟩ rfl (Nat.le_of_ble_eq_true rfl) (fun σ' z3 x3 => ?_))))
      obtain ⟨hs_, x3⟩ := x3
      rw [hs_]; clear hs_ σ'
      refine ok_if_eq 14 45 rfl rfl rfl (fun h30 => ?_) (fun h30 => ?_)
      · refine ok_iconst 20 rfl rfl (by decide) (ok_iret 21 rfl rfl rfl ?_)
        exact ⟨_, rfl, rfl, fun _ => by unfold jtS okJ4; rw [if_neg (by omega)], fun _ => rfl⟩
      · refine ok_aload_n 15 rfl rfl rfl (ok_getR 16 rfl rfl fl_X11_48 rfl rfl (ok_iload 17 rfl rfl rfl (ok_callVI (M' := M_Mi_hasRow) (as := [_]) 18 rfl rfl ml_X11_184 (s_Mi_hasRow) rfl rfl (Nat.le_of_ble_eq_true rfl) ⟨Nat.le_of_ble_eq_true rfl, Nat.le_of_ble_eq_true rfl⟩ rfl (Nat.le_of_ble_eq_true rfl) (fun σ' z4 x4 => ?_))))
        obtain ⟨hs_, x4⟩ := x4
        rw [hs_]; clear hs_ σ'
        refine ok_if_ne 19 47 rfl rfl rfl (fun h42 => ?_) (fun h42 => ?_)
        · refine ok_iload 22 rfl rfl rfl (ok_if_lt 23 58 rfl rfl rfl (fun h49 => ?_) (fun h49 => ?_))
          · refine ok_iconst 27 rfl rfl (by decide) (ok_iret 28 rfl rfl rfl ?_)
            exact ⟨_, rfl, rfl, fun _ => by unfold jtS okJ4; rw [if_neg (by omega)], fun _ => rfl⟩
          · refine ok_iload 24 rfl rfl rfl (ok_iconst 25 rfl rfl (by decide) (ok_icmp_le 26 60 rfl rfl rfl (fun h55 => ?_) (fun h55 => ?_)))
            · refine ok_aload_n 29 rfl rfl rfl (ok_getR 30 rfl rfl fl_X11_48 rfl rfl (ok_aload_n 31 rfl rfl rfl (ok_getR 32 rfl rfl fl_X11_48 rfl rfl (ok_iload_n 33 rfl rfl rfl (ok_iload_n 34 rfl rfl rfl (ok_iload_n 35 rfl rfl rfl (ok_iload 36 rfl rfl rfl (ok_callVI (M' := M_Mi_weightOfBoth) (as := [_, _, _, _]) 37 rfl rfl ml_X11_201 (t_Mi_weightOfBoth hm ⟨by omega, by omega⟩ ⟨by omega, by omega⟩) rfl rfl (Nat.le_of_ble_eq_true rfl) ⟨Nat.le_of_ble_eq_true rfl, Nat.le_of_ble_eq_true rfl⟩ rfl (Nat.le_of_ble_eq_true rfl) (fun σ' z hz => ?_)))))))))
              rw [hz.1, hz.2]
              clear hz z σ'
              refine ok_iload 38 rfl rfl rfl (ok_if_ne 39 85 rfl rfl rfl (fun h78 => ?_) (fun h78 => ?_))
              · refine ok_iconst 42 rfl rfl (by decide) (ok_callVI (M' := M_Mi_inLeastTerms) (as := [_, _]) 43 rfl rfl ml_X11_194 (t_Mi_inLeastTerms hm ⟨by omega, by omega⟩) rfl rfl (Nat.le_of_ble_eq_true rfl) ⟨Nat.le_of_ble_eq_true rfl, Nat.le_of_ble_eq_true rfl⟩ rfl (Nat.le_of_ble_eq_true rfl) (fun σ' z6 x6 => ?_))
                obtain ⟨hs_, x6⟩ := x6
                rw [hs_]; clear hs_ σ'
                refine ok_iret 44 rfl rfl rfl ?_
                refine ⟨_, rfl, rfl, fun q => ?_, fun q => by omega⟩
                have y := x6 q
                unfold ltS at y
                first | rw [if_pos (show (1 : Int) ≠ 0 by decide)] at y | rw [if_neg (show ¬ ((0 : Int) ≠ 0) by decide)] at y
                unfold jtS okJ4
                rw [y, if_pos (by omega)]
                first | rw [if_pos (by omega)] | rw [if_neg (by omega)]
              · refine ok_iconst 40 rfl rfl (by decide) (ok_goto 41 86 rfl rfl rfl (ok_callVI (M' := M_Mi_inLeastTerms) (as := [_, _]) 43 rfl rfl ml_X11_194 (t_Mi_inLeastTerms hm ⟨by omega, by omega⟩) rfl rfl (Nat.le_of_ble_eq_true rfl) ⟨Nat.le_of_ble_eq_true rfl, Nat.le_of_ble_eq_true rfl⟩ rfl (Nat.le_of_ble_eq_true rfl) (fun σ' z6 x6 => ?_)))
                obtain ⟨hs_, x6⟩ := x6
                rw [hs_]; clear hs_ σ'
                refine ok_iret 44 rfl rfl rfl ?_
                refine ⟨_, rfl, rfl, fun q => ?_, fun q => by omega⟩
                have y := x6 q
                unfold ltS at y
                first | rw [if_pos (show (1 : Int) ≠ 0 by decide)] at y | rw [if_neg (show ¬ ((0 : Int) ≠ 0) by decide)] at y
                unfold jtS okJ4
                rw [y, if_pos (by omega)]
                first | rw [if_pos (by omega)] | rw [if_neg (by omega)]
            · refine ok_iconst 27 rfl rfl (by decide) (ok_iret 28 rfl rfl rfl ?_)
              exact ⟨_, rfl, rfl, fun _ => by unfold jtS okJ4; rw [if_neg (by omega)], fun _ => rfl⟩
        · refine ok_iconst 20 rfl rfl (by decide) (ok_iret 21 rfl rfl rfl ?_)
          exact ⟨_, rfl, rfl, fun _ => by unfold jtS okJ4; rw [if_neg (by omega)], fun _ => rfl⟩
def mtS (N n : Int) (wt : Int → Int) (col : Int → Int → Int) (r w z : Int) : Prop := (z = -1 ∧ ¬ ((0 ≤ r ∧ r < n) ∧ 0 ≤ w ∧ w ≤ 2)) ∨ (((0 ≤ r ∧ r < n) ∧ 0 ≤ w ∧ w ≤ 2) ∧ ((w = 2 ∧ ∃ s, seS N col r s ∧ z = pc s) ∨ (w ≠ 2 ∧ ∃ b, mxS (fun c => twS N wt col r c r c) n b ∧ z = if w = 0 then b else twS N wt col r b r b)))
theorem t_Ev_most {σ : eS} {r w : Int} (h : IA σ) : MtI shA M_Ev_most [vr 0, vi r, vi w] σ (fun σ' z => σ' = σ ∧ mtS (σ 22 5) (σ 22 4) (wA σ) (kA σ) r w z) := by
  refine Mt.of okM_Ev_most (Nat.le_of_ble_eq_true rfl) (fun hk hg => ?_)
  have hm := h.2.2.2.1
  obtain ⟨⟨h1, h2, h3, h4, h5, h6, h7⟩, a, b, d⟩ := id hm
  refine ok_aload_n 0 rfl rfl rfl (ok_getR 1 rfl rfl fl_X11_48 rfl rfl (ok_iload_n 2 rfl rfl rfl (ok_callVI (M' := M_Mi_hasRow) (as := [_]) 3 rfl rfl ml_X11_184 (s_Mi_hasRow) rfl rfl (Nat.le_of_ble_eq_true rfl) ⟨Nat.le_of_ble_eq_true rfl, Nat.le_of_ble_eq_true rfl⟩ rfl (Nat.le_of_ble_eq_true rfl) (fun σ' z1 x1 => ?_))))
  obtain ⟨hs_, x1⟩ := x1
  rw [hs_]; clear hs_ σ'
  refine ok_if_eq 4 20 rfl rfl rfl (fun h8 => ?_) (fun h8 => ?_)
  · refine ok_iconst 10 rfl rfl (by decide) (ok_iret 11 rfl rfl rfl ?_)
    exact ⟨_, rfl, rfl, Or.inl ⟨rfl, by omega⟩⟩
  · refine ok_iload_n 5 rfl rfl rfl (ok_if_lt 6 20 rfl rfl rfl (fun h12 => ?_) (fun h12 => ?_))
    · refine ok_iconst 10 rfl rfl (by decide) (ok_iret 11 rfl rfl rfl ?_)
      exact ⟨_, rfl, rfl, Or.inl ⟨rfl, by omega⟩⟩
    · refine ok_iload_n 7 rfl rfl rfl (ok_iconst 8 rfl rfl (by decide) (ok_icmp_le 9 22 rfl rfl rfl (fun h17 => ?_) (fun h17 => ?_)))
      · refine ok_iload_n 12 rfl rfl rfl (ok_iconst 13 rfl rfl (by decide) (ok_icmp_ne 14 36 rfl rfl rfl (fun h24 => ?_) (fun h24 => ?_)))
        · refine ok_aload_n 20 rfl rfl rfl (ok_getR 21 rfl rfl fl_X11_48 rfl rfl (ok_iload_n 22 rfl rfl rfl (ok_callVI (M' := M_Mi_commonestColumn) (as := [_]) 23 rfl rfl ml_X11_273 (t_Mi_commonestColumn hm ⟨by omega, by omega⟩) rfl rfl (Nat.le_of_ble_eq_true rfl) ⟨Nat.le_of_ble_eq_true rfl, Nat.le_of_ble_eq_true rfl⟩ rfl (Nat.le_of_ble_eq_true rfl) (fun σ' z3 x3 => ?_))))
          obtain ⟨hs_, x3⟩ := x3
          rw [hs_]; clear hs_ σ'
          refine ok_ist3 24 rfl rfl rfl (ok_iload_n 25 rfl rfl rfl (ok_if_ne 26 53 rfl rfl rfl (fun h46 => ?_) (fun h46 => ?_)))
          · refine ok_aload_n 29 rfl rfl rfl (ok_getR 30 rfl rfl fl_X11_48 rfl rfl (ok_iload_n 31 rfl rfl rfl (ok_iload_n 32 rfl rfl rfl (ok_callVI (M' := M_Mi_weightOf) (as := [_, _]) 33 rfl rfl ml_X11_276 (t_Mi_weightOf hm ⟨by omega, by omega⟩) rfl rfl (Nat.le_of_ble_eq_true rfl) ⟨Nat.le_of_ble_eq_true rfl, Nat.le_of_ble_eq_true rfl⟩ rfl (Nat.le_of_ble_eq_true rfl) (fun σ' z hz => ?_)))))
            rw [hz.1, hz.2]
            clear hz z σ'
            refine ok_iret 34 rfl rfl rfl ?_
            refine ⟨_, rfl, rfl, Or.inr ⟨by omega, Or.inr ⟨by omega, z3, x3, ?_⟩⟩⟩
            first | rw [if_pos (by omega)] | rw [if_neg (by omega)]
          · refine ok_iload_n 27 rfl rfl rfl (ok_goto 28 62 rfl rfl rfl (ok_iret 34 rfl rfl rfl ?_))
            refine ⟨_, rfl, rfl, Or.inr ⟨by omega, Or.inr ⟨by omega, z3, x3, ?_⟩⟩⟩
            first | rw [if_pos (by omega)] | rw [if_neg (by omega)]
        · refine ok_aload_n 15 rfl rfl rfl (ok_getR 16 rfl rfl fl_X11_48 rfl rfl (ok_iload_n 17 rfl rfl rfl (ok_callVI (M' := M_Mi_countColumns) (as := [_]) 18 rfl rfl ml_X11_270 (t_Mi_countColumns hm ⟨by omega, by omega⟩) rfl rfl (Nat.le_of_ble_eq_true rfl) ⟨Nat.le_of_ble_eq_true rfl, Nat.le_of_ble_eq_true rfl⟩ rfl (Nat.le_of_ble_eq_true rfl) (fun σ' z2 x2 => ?_))))
          obtain ⟨hs_, x2⟩ := x2
          rw [hs_]; clear hs_ σ'
          refine ok_iret 19 rfl rfl rfl ?_
          exact ⟨_, rfl, rfl, Or.inr ⟨by omega, Or.inl ⟨by omega, x2⟩⟩⟩
      · refine ok_iconst 10 rfl rfl (by decide) (ok_iret 11 rfl rfl rfl ?_)
        exact ⟨_, rfl, rfl, Or.inl ⟨rfl, by omega⟩⟩
def wkS (N n : Int) (wt : Int → Int) (col : Int → Int → Int) (J : Prop) (j t z : Int) : Prop := (z = -1 ∧ ¬ J) ∨ (J ∧ ∃ p, drS N wt t p ∧ ((p = -1 ∧ z = -1) ∨ (0 ≤ p ∧ z = if col p j < n then col p j else -1)))
theorem t_Ev_works {σ : eS} {j t : Int} (h : IA σ) : MtI shA M_Ev_works [vr 0, vi j, vi t] σ (fun σ' z => σ' = σ ∧ wkS (σ 22 5) (σ 22 3) (wA σ) (kA σ) (σ 22 2 = 2 ∧ 0 ≤ j ∧ j < σ 22 3) j t z) := by
  refine Mt.of okM_Ev_works (Nat.le_of_ble_eq_true rfl) (fun hk hg => ?_)
  have hm := h.2.2.2.1
  obtain ⟨⟨h1, h2, h3, h4, h5, h6, h7⟩, a, b, d⟩ := id hm
  refine ok_aload_n 0 rfl rfl rfl (ok_getR 1 rfl rfl fl_X11_48 rfl rfl (ok_iload_n 2 rfl rfl rfl (ok_callVI (M' := M_Mi_hasJob) (as := [_]) 3 rfl rfl ml_X11_300 (s_Mi_hasJob) rfl rfl (Nat.le_of_ble_eq_true rfl) ⟨Nat.le_of_ble_eq_true rfl, Nat.le_of_ble_eq_true rfl⟩ rfl (Nat.le_of_ble_eq_true rfl) (fun σ' z1 x1 => ?_))))
  obtain ⟨hs_, x1⟩ := x1
  rw [hs_]; clear hs_ σ'
  refine ok_if_ne 4 13 rfl rfl rfl (fun h8 => ?_) (fun h8 => ?_)
  · refine ok_aload_n 7 rfl rfl rfl (ok_getR 8 rfl rfl fl_X11_48 rfl rfl (ok_iload_n 9 rfl rfl rfl (ok_callVI (M' := M_Mi_partAt) (as := [_]) 10 rfl rfl ml_X11_198 (t_Mi_partAt hm) rfl rfl (Nat.le_of_ble_eq_true rfl) ⟨Nat.le_of_ble_eq_true rfl, Nat.le_of_ble_eq_true rfl⟩ rfl (Nat.le_of_ble_eq_true rfl) (fun σ' z2 x2 => ?_))))
    obtain ⟨hs_, x2⟩ := x2
    rw [hs_]; clear hs_ σ'
    have x3 : z2 = -1 ∨ (0 ≤ z2 ∧ z2 < σ 22 5) := by
      rcases id x2 with ⟨q, -⟩ | ⟨q, -⟩
      · exact Or.inl q
      · exact Or.inr q
    refine ok_ist3 11 rfl rfl rfl (ok_iload_n 12 rfl rfl rfl (ok_iconst 13 rfl rfl (by decide) (ok_icmp_ne 14 31 rfl rfl rfl (fun h24 => ?_) (fun h24 => ?_))))
    · refine ok_aload_n 17 rfl rfl rfl (ok_getR 18 rfl rfl fl_X11_48 rfl rfl (ok_iload_n 19 rfl rfl rfl (ok_iload_n 20 rfl rfl rfl (ok_callVI (M' := M_Mi_machineOf) (as := [_, _]) 21 rfl rfl ml_X11_303 (t_Mi_machineOf hm ⟨by omega, by omega⟩ ⟨by omega, by omega⟩) rfl rfl (Nat.le_of_ble_eq_true rfl) ⟨Nat.le_of_ble_eq_true rfl, Nat.le_of_ble_eq_true rfl⟩ rfl (Nat.le_of_ble_eq_true rfl) (fun σ' z3 x4 => ?_)))))
      obtain ⟨hs_, x4⟩ := x4
      rw [hs_]; clear hs_ σ'
      refine ok_iret 22 rfl rfl rfl ?_
      refine ⟨_, rfl, rfl, Or.inr ⟨by omega, z2, x2, ?_⟩⟩
      first | exact Or.inl ⟨by omega, rfl⟩ | exact Or.inr ⟨by omega, x4⟩
    · refine ok_iconst 15 rfl rfl (by decide) (ok_goto 16 40 rfl rfl rfl (ok_iret 22 rfl rfl rfl ?_))
      refine ⟨_, rfl, rfl, Or.inr ⟨by omega, z2, x2, ?_⟩⟩
      first | exact Or.inl ⟨by omega, rfl⟩ | exact Or.inr ⟨by omega, x4⟩
  · refine ok_iconst 5 rfl rfl (by decide) (ok_iret 6 rfl rfl rfl ?_)
    exact ⟨_, rfl, rfl, Or.inl ⟨rfl, by omega⟩⟩
theorem t_Ev_kept {σ : eS} {w : Int} : MtI shA M_Ev_kept [vr 0, vi w] σ (fun σ' z => σ' = σ ∧ z = if w = 0 then σ 22 2 else if w = 1 then σ 22 5 else if w = 2 then σ 22 6 else if w = 3 then σ 22 3 else if w = 4 then σ 10 3 else -1) := by
  refine Mt.of okM_Ev_kept (Nat.le_of_ble_eq_true rfl) (fun hk hg => ?_)
  refine ok_iload_n 0 rfl rfl rfl ?_
  rcases (by omega : w = 0 ∨ w = 1 ∨ w = 2 ∨ w = 3 ∨ w = 4 ∨ (w < 0 ∨ 4 < w)) with q_ | q_ | q_ | q_ | q_ | q_
  · subst q_
    refine ok_tin 1 (len := 35) 36 rfl rfl (by decide) (by decide) rfl rfl ?_
    refine ok_aload_n 2 rfl rfl rfl (ok_getR 3 rfl rfl fl_X11_48 rfl rfl (ok_getI 4 rfl rfl fl_X11_315 rfl rfl (Or.inl rfl) (ok_iret 5 rfl rfl rfl ?_)))
    refine ⟨_, rfl, rfl, ?_⟩
    first
      | rfl
      | (rw [if_neg (by omega), if_neg (by omega), if_neg (by omega), if_neg (by omega), if_neg (by omega)])
  · subst q_
    refine ok_tin 1 (len := 35) 44 rfl rfl (by decide) (by decide) rfl rfl ?_
    refine ok_aload_n 6 rfl rfl rfl (ok_getR 7 rfl rfl fl_X11_48 rfl rfl (ok_getI 8 rfl rfl fl_X11_318 rfl rfl (Or.inl rfl) (ok_iret 9 rfl rfl rfl ?_)))
    refine ⟨_, rfl, rfl, ?_⟩
    first
      | rfl
      | (rw [if_neg (by omega), if_neg (by omega), if_neg (by omega), if_neg (by omega), if_neg (by omega)])
  · subst q_
    refine ok_tin 1 (len := 35) 52 rfl rfl (by decide) (by decide) rfl rfl ?_
    refine ok_aload_n 10 rfl rfl rfl (ok_getR 11 rfl rfl fl_X11_48 rfl rfl (ok_getI 12 rfl rfl fl_X11_321 rfl rfl (Or.inl rfl) (ok_iret 13 rfl rfl rfl ?_)))
    refine ⟨_, rfl, rfl, ?_⟩
    first
      | rfl
      | (rw [if_neg (by omega), if_neg (by omega), if_neg (by omega), if_neg (by omega), if_neg (by omega)])
  · subst q_
    refine ok_tin 1 (len := 35) 60 rfl rfl (by decide) (by decide) rfl rfl ?_
    refine ok_aload_n 14 rfl rfl rfl (ok_getR 15 rfl rfl fl_X11_48 rfl rfl (ok_getI 16 rfl rfl fl_X11_324 rfl rfl (Or.inl rfl) (ok_iret 17 rfl rfl rfl ?_)))
    refine ⟨_, rfl, rfl, ?_⟩
    first
      | rfl
      | (rw [if_neg (by omega), if_neg (by omega), if_neg (by omega), if_neg (by omega), if_neg (by omega)])
  · subst q_
    refine ok_tin 1 (len := 35) 68 rfl rfl (by decide) (by decide) rfl rfl ?_
    refine ok_aload_n 18 rfl rfl rfl (ok_getR 19 rfl rfl fl_X11_18 rfl rfl (ok_getI 20 rfl rfl fl_X11_82 rfl rfl (Or.inl rfl) (ok_iret 21 rfl rfl rfl ?_)))
    refine ⟨_, rfl, rfl, ?_⟩
    first
      | rfl
      | (rw [if_neg (by omega), if_neg (by omega), if_neg (by omega), if_neg (by omega), if_neg (by omega)])
  · refine ok_tout 1 (len := 35) 76 rfl rfl q_ rfl ?_
    refine ok_iconst 22 rfl rfl (by decide) (ok_iret 23 rfl rfl rfl ?_)
    refine ⟨_, rfl, rfl, ?_⟩
    first
      | rfl
      | (rw [if_neg (by omega), if_neg (by omega), if_neg (by omega), if_neg (by omega), if_neg (by omega)])
end
section
/-! THE PARTS KEPT, asked: the reference -/
theorem wB_nn {σ : eS} (h : iK σ) : ∀ q, 0 ≤ q → q < σ 0 27 → 0 ≤ wB σ q := fun q a b => by
  have := h.2.2.2.2.2.2.1.1 q a b
  unfold wB
  omega
theorem wB_sum {σ : eS} (h : iK σ) : sm (wB σ) (σ 0 27).toNat = σ 0 29 := h.2.2.2.2.2.2.1.2
theorem t_Mo_weight {σ : eS} {k w : Int} (h : iK σ) : MtI shB M_Mo_weight [vr 0, vi k, vi w] σ (fun σ' z => σ' = σ ∧ wtS (σ 0 27) (σ 0 29) (wB σ) k w z) := by
  refine Mt.of okM_Mo_weight (Nat.le_of_ble_eq_true rfl) (fun hk hg => ?_)
  obtain ⟨h1, h2, h3, h4, h5, h6, -⟩ := id h
  have e : wB σ k = σ 12 k := rfl
  refine ok_aload_n 0 rfl rfl rfl (ok_iload_n 1 rfl rfl rfl (ok_callVI (M' := M_Mo_isPartThere) (as := [_]) 2 rfl rfl ml_X12_300 (s_Mo_isPartThere h) rfl rfl (Nat.le_of_ble_eq_true rfl) ⟨Nat.le_of_ble_eq_true rfl, Nat.le_of_ble_eq_true rfl⟩ rfl (Nat.le_of_ble_eq_true rfl) (fun σ' z1 a1 => ?_)))
  obtain ⟨hs_, a1⟩ := a1
  rw [hs_]; clear hs_ σ'
  refine ok_if_eq 3 20 rfl rfl rfl (fun h5 => ?_) (fun h5 => ?_)
  · refine ok_iconst 10 rfl rfl (by decide) (ok_iret 11 rfl rfl rfl ?_)
    exact ⟨_, rfl, rfl, by unfold wtS; rw [if_neg (by omega)]⟩
  · refine ok_iload_n 4 rfl rfl rfl (ok_i2l 5 rfl rfl (ok_lconst (w := 0) 6 rfl rfl rfl (by decide) (ok_ldc2 7 (2) rfl rfl kc_X12_306 (by decide) (ok_callSI (M' := M_Mo_isIn) (as := [_, _, _]) 8 rfl rfl ml_X12_99 (s_Mo_isIn_r) ⟨Nat.le_of_ble_eq_true rfl, Nat.le_of_ble_eq_true rfl⟩ rfl (Nat.le_of_ble_eq_true rfl) (fun σ' z2 a2 => ?_)))))
    obtain ⟨hs_, a2⟩ := a2
    rw [hs_]; clear hs_ σ'
    refine ok_if_ne 9 22 rfl rfl rfl (fun h17 => ?_) (fun h17 => ?_)
    · have hk := yes1 a1 h5
      obtain ⟨w1, w2⟩ := wt_le h hk.1 hk.2
      obtain ⟨c1, c2⟩ := gcd_pos (a := σ 12 k) (b := σ 0 29) (by omega)
      have gc : (Int.gcd (σ 0 29) (wB σ k) : Int) = (Int.gcd (σ 12 k) (σ 0 29) : Int) := by rw [e, Int.gcd_comm]
      refine ok_aload_n 12 rfl rfl rfl (ok_getR 13 rfl rfl fl_X12_48 rfl rfl (ok_iload_n 14 rfl rfl rfl (ok_iald 15 rfl rfl rfl (by first | omega | (simp [up_if]; omega) | (simp [up_if] at *; omega)) (ok_i2l 16 rfl rfl (ok_aload_n 17 rfl rfl rfl (ok_getI 18 rfl rfl fl_X12_279 rfl rfl (Or.inl rfl) (ok_i2l 19 rfl rfl (ok_callSL (M' := M_Mo_common) (as := [_, _]) 20 rfl rfl ml_X12_89 (s_Mo_common (by omega) (by omega)) ⟨Nat.le_of_ble_eq_true rfl, Nat.le_of_ble_eq_true rfl⟩ rfl (Nat.le_of_ble_eq_true rfl) (fun σ' z hz => ?_)))))))))
      rw [hz.1, hz.2]
      clear hz z σ'
      refine ok_l2i 21 rfl rfl (by first | omega | (simp [up_if]; omega) | (simp [up_if] at *; omega)) (ok_ist3 22 rfl rfl rfl (ok_iload_n 23 rfl rfl rfl (ok_if_ne 24 52 rfl rfl rfl (fun h40 => ?_) (fun h40 => ?_))))
      · refine ok_iload_n 30 rfl rfl rfl (ok_iconst 31 rfl rfl (by decide) (ok_icmp_ne 32 68 rfl rfl rfl (fun h54 => ?_) (fun h54 => ?_)))
        · refine ok_aload_n 40 rfl rfl rfl (ok_getI 41 rfl rfl fl_X12_279 rfl rfl (Or.inl rfl) (ok_iload_n 42 rfl rfl rfl (ok_idiv 43 rfl rfl (by omega) (by omega) (ok_iret 44 rfl rfl rfl ?_))))
          refine ⟨_, rfl, rfl, ?_⟩
          unfold wtS
          rw [if_pos (by omega), gc]
          first
            | (rw [if_pos (by omega)]; rfl)
            | (rw [if_neg (by omega), if_pos (by omega)]; rfl)
            | (rw [if_neg (by omega), if_neg (by omega)])
        · refine ok_aload_n 33 rfl rfl rfl (ok_getR 34 rfl rfl fl_X12_48 rfl rfl (ok_iload_n 35 rfl rfl rfl (ok_iald 36 rfl rfl rfl (by first | omega | (simp [up_if]; omega) | (simp [up_if] at *; omega)) (ok_iload_n 37 rfl rfl rfl (ok_idiv 38 rfl rfl (by omega) (by omega) (ok_goto 39 74 rfl rfl rfl (ok_iret 44 rfl rfl rfl ?_)))))))
          refine ⟨_, rfl, rfl, ?_⟩
          unfold wtS
          rw [if_pos (by omega), gc]
          first
            | (rw [if_pos (by omega)]; rfl)
            | (rw [if_neg (by omega), if_pos (by omega)]; rfl)
            | (rw [if_neg (by omega), if_neg (by omega)])
      · refine ok_aload_n 25 rfl rfl rfl (ok_getR 26 rfl rfl fl_X12_48 rfl rfl (ok_iload_n 27 rfl rfl rfl (ok_iald 28 rfl rfl rfl (by first | omega | (simp [up_if]; omega) | (simp [up_if] at *; omega)) (ok_goto 29 74 rfl rfl rfl (ok_iret 44 rfl rfl rfl ?_)))))
        refine ⟨_, rfl, rfl, ?_⟩
        unfold wtS
        rw [if_pos (by omega), gc]
        first
          | (rw [if_pos (by omega)]; rfl)
          | (rw [if_neg (by omega), if_pos (by omega)]; rfl)
          | (rw [if_neg (by omega), if_neg (by omega)])
    · refine ok_iconst 10 rfl rfl (by decide) (ok_iret 11 rfl rfl rfl ?_)
      exact ⟨_, rfl, rfl, by unfold wtS; rw [if_neg (by omega)]⟩
theorem t_Mo_draw {σ : eS} {r : Int} (h : iK σ) : MtI shB M_Mo_draw [vr 0, vi r] σ (fun σ' z => σ' = σ ∧ drS (σ 0 27) (wB σ) r z) := by
  refine Mt.of okM_Mo_draw (Nat.le_of_ble_eq_true rfl) (fun hk hg => ?_)
  obtain ⟨h1, h2, h3, h4, h5, h6, -⟩ := id h
  have ws := wB_sum h
  refine ok_aload_n 0 rfl rfl rfl (ok_getI 1 rfl rfl fl_X12_273 rfl rfl (Or.inl rfl) (ok_if_eq 2 23 rfl rfl rfl (fun h4 => ?_) (fun h4 => ?_)))
  · refine ok_iconst 13 rfl rfl (by decide) (ok_iret 14 rfl rfl rfl ?_)
    exact ⟨_, rfl, rfl, Or.inl ⟨rfl, by rw [show σ 0 27 = 0 by omega]; show ¬ (0 ≤ r ∧ r < 0); omega⟩⟩
  · refine ok_iload_n 3 rfl rfl rfl (ok_i2l 4 rfl rfl (ok_lconst (w := 0) 5 rfl rfl rfl (by decide) (ok_aload_n 6 rfl rfl rfl (ok_getI 7 rfl rfl fl_X12_279 rfl rfl (Or.inl rfl) (ok_iconst 8 rfl rfl (by decide) (ok_isub 9 rfl rfl (by first | omega | (simp [up_if]; omega) | (simp [up_if] at *; omega)) (ok_i2l 10 rfl rfl (ok_callSI (M' := M_Mo_isIn) (as := [_, _, _]) 11 rfl rfl ml_X12_99 (s_Mo_isIn_r) ⟨Nat.le_of_ble_eq_true rfl, Nat.le_of_ble_eq_true rfl⟩ rfl (Nat.le_of_ble_eq_true rfl) (fun σ' z1 a1 => ?_)))))))))
    obtain ⟨hs_, a1⟩ := a1
    rw [hs_]; clear hs_ σ'
    refine ok_if_ne 12 25 rfl rfl rfl (fun h20 => ?_) (fun h20 => ?_)
    · refine ok_iconst 15 rfl rfl (by decide) (ok_ist2 16 rfl rfl rfl (ok_iload_n 17 rfl rfl rfl (ok_ist3 18 rfl rfl rfl ?_)))
      have hr := yes1 a1 h20
      refine lpO2 (fun k l : Int => [some (vr 0), some (vi r), some (vi k), some (vi l)]) (fun _ _ => σ) (fun k l => 0 ≤ k ∧ k < σ 0 27 ∧ 0 ≤ l ∧ l = r - sm (wB σ) k.toNat) (fun k _ => (64 - k).toNat) ?_ 0 r ⟨by omega, by omega, by omega, by show r = r - 0; omega⟩
      rintro k l ⟨k1, k2, k3, k4⟩ ih
      obtain ⟨w1, w2⟩ := wt_le h k1 k2
      have w3 : 0 ≤ sm (wB σ) k.toNat := (wt_sum h k1 (by omega)).1
      have e : sm (wB σ) (k + 1).toNat = sm (wB σ) k.toNat + σ 12 k := sm_s (wB σ) k1
      have last : k + 1 = σ 0 27 → sm (wB σ) (k + 1).toNat = σ 0 29 := fun q => by rw [q]; exact ws
      refine ok_iload_n 19 rfl rfl rfl (ok_aload_n 20 rfl rfl rfl (ok_getR 21 rfl rfl fl_X12_48 rfl rfl (ok_iload_n 22 rfl rfl rfl (ok_iald 23 rfl rfl rfl (by first | omega | (simp [up_if]; omega) | (simp [up_if] at *; omega)) (ok_icmp_lt 24 54 rfl rfl rfl (fun h36 => ?_) (fun h36 => ?_))))))
      · refine ok_iload_n 34 rfl rfl rfl (ok_iret 35 rfl rfl rfl ?_)
        exact ⟨_, rfl, rfl, Or.inr ⟨⟨k1, k2⟩, by omega, by omega⟩⟩
      · refine ok_iload_n 25 rfl rfl rfl (ok_aload_n 26 rfl rfl rfl (ok_getR 27 rfl rfl fl_X12_48 rfl rfl (ok_iload_n 28 rfl rfl rfl (ok_iald 29 rfl rfl rfl (by first | omega | (simp [up_if]; omega) | (simp [up_if] at *; omega)) (ok_isub 30 rfl rfl (by first | omega | (simp [up_if]; omega) | (simp [up_if] at *; omega)) (ok_ist3 31 rfl rfl rfl (ok_inc2 32 rfl rfl rfl (by first | omega | (simp [up_if]; omega) | (simp [up_if] at *; omega)) (ok_goto 33 29 rfl rfl rfl ?_))))))))
        exact ih (k + 1) _ ⟨by omega, by rcases (show k + 1 = σ 0 27 ∨ k + 1 < σ 0 27 by omega) with q | q; have := last q; omega; exact q, by omega, by omega⟩ (by omega)
    · refine ok_iconst 13 rfl rfl (by decide) (ok_iret 14 rfl rfl rfl ?_)
      exact ⟨_, rfl, rfl, Or.inl ⟨rfl, by omega⟩⟩
theorem t_Mo_together {σ : eS} {r j : Int} (h : iK σ) (hr : 0 ≤ r ∧ r < σ 0 28) : MtI shB M_Mo_together [vr 0, vi r, vi j] σ (fun σ' z => σ' = σ ∧ z = twS (σ 0 27) (wB σ) (kB σ) r j r j) := by
  refine Mt.of okM_Mo_together (Nat.le_of_ble_eq_true rfl) (fun hk hg => ?_)
  obtain ⟨h1, h2, h3, h4, h5, h6, -⟩ := id h
  refine ok_iconst 0 rfl rfl (by decide) (ok_ist3 1 rfl rfl rfl (ok_iconst 2 rfl rfl (by decide) (ok_ist4 3 rfl rfl rfl ?_)))
  refine lpO2 (fun v p : Int => [some (vr 0), some (vi r), some (vi j), some (vi v), some (vi p)]) (fun _ _ => σ) (fun v p => 0 ≤ p ∧ p ≤ σ 0 27 ∧ v = twS p (wB σ) (kB σ) r j r j) (fun _ p => (64 - p).toNat) ?_ 0 0 ⟨by omega, by omega, rfl⟩
  rintro v p ⟨k1, k2, k3⟩ ih
  have w3 : 0 ≤ sm (wB σ) p.toNat ∧ sm (wB σ) p.toNat ≤ σ 0 29 := wt_sum h k1 (by omega)
  have tb := twS_bd (N := p) (wt := wB σ) (col := kB σ) (i := r) (j := j) (k := r) (l := j) (fun q x y => wB_nn h q x (by omega))
  refine ok_iload 4 rfl rfl rfl (ok_aload_n 5 rfl rfl rfl (ok_getI 6 rfl rfl fl_X12_273 rfl rfl (Or.inl rfl) (ok_icmp_ge 7 50 rfl rfl rfl (fun h11 => ?_) (fun h11 => ?_))))
  · refine ok_iload_n 29 rfl rfl rfl (ok_iret 30 rfl rfl rfl ?_)
    exact ⟨_, rfl, rfl, by rw [k3, show p = σ 0 27 by omega]⟩
  · obtain ⟨w1, w2⟩ := wt_le h k1 (by omega)
    have e : sm (wB σ) (p + 1).toNat = sm (wB σ) p.toNat + σ 12 p := sm_s (wB σ) k1
    have w5 : sm (wB σ) (p + 1).toNat ≤ σ 0 29 := (wt_sum h (k := p + 1) (by omega) (by omega)).2
    have ts := twS_s (N := p) (wt := wB σ) (col := kB σ) (i := r) (j := j) (k := r) (l := j) k1
    have wp : wB σ p = σ 12 p := rfl
    have kp : kB σ p r = σ 13 (8 * p + r) := rfl
    refine ok_iload_n 8 rfl rfl rfl (ok_aload_n 9 rfl rfl rfl (ok_getR 10 rfl rfl fl_X12_51 rfl rfl (ok_bipush 11 rfl rfl (by decide) (by decide) (ok_iload 12 rfl rfl rfl (ok_imul 13 rfl rfl (by first | omega | (simp [up_if]; omega) | (simp [up_if] at *; omega)) (ok_iload_n 14 rfl rfl rfl (ok_iadd 15 rfl rfl (by first | omega | (simp [up_if]; omega) | (simp [up_if] at *; omega)) (ok_iald 16 rfl rfl rfl (by first | omega | (simp [up_if]; omega) | (simp [up_if] at *; omega)) (ok_iload_n 17 rfl rfl rfl (ok_icmp_ne 18 41 rfl rfl rfl (fun h28 => ?_) (fun h28 => ?_)))))))))))
    · refine ok_iconst 24 rfl rfl (by decide) (ok_iadd 25 rfl rfl (by first | omega | (simp [up_if]; omega) | (simp [up_if] at *; omega)) (ok_ist3 26 rfl rfl rfl (ok_inc4 27 rfl rfl rfl (by first | omega | (simp [up_if]; omega) | (simp [up_if] at *; omega)) (ok_goto 28 5 rfl rfl rfl ?_))))
      refine ih _ (p + 1) ⟨by omega, by omega, ?_⟩ (by omega)
      rw [ts]
      first
        | (rw [if_neg (by omega)]; omega)
        | (rw [if_pos (by omega)]; omega)
    · refine ok_aload_n 19 rfl rfl rfl (ok_getR 20 rfl rfl fl_X12_48 rfl rfl (ok_iload 21 rfl rfl rfl (ok_iald 22 rfl rfl rfl (by first | omega | (simp [up_if]; omega) | (simp [up_if] at *; omega)) (ok_goto 23 42 rfl rfl rfl (ok_iadd 25 rfl rfl (by first | omega | (simp [up_if]; omega) | (simp [up_if] at *; omega)) (ok_ist3 26 rfl rfl rfl (ok_inc4 27 rfl rfl rfl (by first | omega | (simp [up_if]; omega) | (simp [up_if] at *; omega)) (ok_goto 28 5 rfl rfl rfl ?_))))))))
      refine ih _ (p + 1) ⟨by omega, by omega, ?_⟩ (by omega)
      rw [ts]
      first
        | (rw [if_neg (by omega)]; omega)
        | (rw [if_pos (by omega)]; omega)
def cuS (f : Int → Int) (n : Int) : Int := sm (fun j => if 0 < f j then 1 else 0) n.toNat
theorem cuS_s {f : Int → Int} {n : Int} (hn : 0 ≤ n) : cuS f (n + 1) = cuS f n + (if 0 < f n then 1 else 0) := by unfold cuS; rw [sm_s _ hn]
def moS (N n : Int) (wt : Int → Int) (col : Int → Int → Int) (r w z : Int) : Prop := (z = -1 ∧ ¬ ((N ≠ 0 ∧ 0 ≤ r ∧ r < n) ∧ 0 ≤ w ∧ w ≤ 2)) ∨ (((0 ≤ r ∧ r < n) ∧ 0 ≤ w ∧ w ≤ 2) ∧ ((w = 2 ∧ z = cuS (fun c => twS N wt col r c r c) n) ∨ (w ≠ 2 ∧ ∃ b, mxS (fun c => twS N wt col r c r c) n b ∧ z = if w = 0 then b else twS N wt col r b r b)))
theorem t_Mo_most {σ : eS} {r w : Int} (h : iK σ) : MtI shB M_Mo_most [vr 0, vi r, vi w] σ (fun σ' z => σ' = σ ∧ moS (σ 0 27) (σ 0 28) (wB σ) (kB σ) r w z) := by
  refine Mt.of okM_Mo_most (Nat.le_of_ble_eq_true rfl) (fun hk hg => ?_)
  obtain ⟨h1, h2, h3, h4, h5, h6, -⟩ := id h
  refine ok_aload_n 0 rfl rfl rfl (ok_getI 1 rfl rfl fl_X12_273 rfl rfl (Or.inl rfl) (ok_if_eq 2 27 rfl rfl rfl (fun h4 => ?_) (fun h4 => ?_)))
  · refine ok_iconst 13 rfl rfl (by decide) (ok_iret 14 rfl rfl rfl ?_)
    exact ⟨_, rfl, rfl, Or.inl ⟨rfl, by omega⟩⟩
  · refine ok_aload_n 3 rfl rfl rfl (ok_iload_n 4 rfl rfl rfl (ok_callVI (M' := M_Mo_isKeptRow) (as := [_]) 5 rfl rfl ml_X12_303 (s_Mo_isKeptRow h) rfl rfl (Nat.le_of_ble_eq_true rfl) ⟨Nat.le_of_ble_eq_true rfl, Nat.le_of_ble_eq_true rfl⟩ rfl (Nat.le_of_ble_eq_true rfl) (fun σ' z1 a1 => ?_)))
    obtain ⟨hs_, a1⟩ := a1
    rw [hs_]; clear hs_ σ'
    refine ok_if_eq 6 27 rfl rfl rfl (fun h12 => ?_) (fun h12 => ?_)
    · refine ok_iconst 13 rfl rfl (by decide) (ok_iret 14 rfl rfl rfl ?_)
      exact ⟨_, rfl, rfl, Or.inl ⟨rfl, by omega⟩⟩
    · refine ok_iload_n 7 rfl rfl rfl (ok_i2l 8 rfl rfl (ok_lconst (w := 0) 9 rfl rfl rfl (by decide) (ok_ldc2 10 (2) rfl rfl kc_X12_306 (by decide) (ok_callSI (M' := M_Mo_isIn) (as := [_, _, _]) 11 rfl rfl ml_X12_99 (s_Mo_isIn_r) ⟨Nat.le_of_ble_eq_true rfl, Nat.le_of_ble_eq_true rfl⟩ rfl (Nat.le_of_ble_eq_true rfl) (fun σ' z2 a2 => ?_)))))
      obtain ⟨hs_, a2⟩ := a2
      rw [hs_]; clear hs_ σ'
      refine ok_if_ne 12 29 rfl rfl rfl (fun h24 => ?_) (fun h24 => ?_)
      · refine ok_iconst 15 rfl rfl (by decide) (ok_ist3 16 rfl rfl rfl (ok_iconst 17 rfl rfl (by decide) (ok_ist4 18 rfl rfl rfl (ok_iconst 19 rfl rfl (by decide) (ok_ist5 20 rfl rfl rfl ?_)))))
        have hr := yes1 a1 h12
        have hw := yes1 a2 h24
        obtain ⟨F, eF⟩ : ∃ F : Int → Int, F = fun c => twS (σ 0 27) (wB σ) (kB σ) r c r c := ⟨_, rfl⟩
        have eF' : ∀ c, twS (σ 0 27) (wB σ) (kB σ) r c r c = F c := fun c => by rw [eF]
        rw [show moS (σ 0 27) (σ 0 28) (wB σ) (kB σ) r w = moS (σ 0 27) (σ 0 28) (wB σ) (kB σ) r w from rfl]
        refine lpO3 (fun b c j : Int => [some (vr 0), some (vi r), some (vi w), some (vi b), some (vi c), some (vi j)]) (fun _ _ _ => σ) (fun b c j => 0 ≤ j ∧ j ≤ σ 0 28 ∧ (0 ≤ c ∧ c ≤ j) ∧ c = cuS F j ∧ (j = 0 → b = 0) ∧ (0 < j → mxS F j b)) (fun _ _ j => (8 - j).toNat) ?_ 0 0 0 ⟨by omega, by omega, ⟨by omega, by omega⟩, rfl, fun _ => rfl, fun q => by omega⟩
        rintro b c j ⟨j1, j2, j3, j4, j5, j6⟩ ih
        have nx : ∀ b', (F b < F j → b' = j) → (F j ≤ F b → b' = b) → mxS F (j + 1) b' := fun b' p q => by
          by_cases y : j = 0
          · have y1 := j5 y
            have y2 : b' = 0 := by
              rcases (by omega : F b < F j ∨ F j ≤ F b) with u | u
              · rw [p u, y]
              · rw [q u, y1]
            rw [y2, y]
            exact ⟨⟨by omega, by omega⟩, fun i u v => by rw [show i = 0 by omega]; exact Int.le_refl _, fun i u v => by omega⟩
          · have ms := mxS_s (j6 (by omega)) j1
            rcases (by omega : F b < F j ∨ F j ≤ F b) with u | u
            · rw [p u]; exact ms.1 u
            · rw [q u]; exact ms.2 u
        have cs := cuS_s (f := F) j1
        refine ok_iload 21 rfl rfl rfl (ok_aload_n 22 rfl rfl rfl (ok_getI 23 rfl rfl fl_X12_276 rfl rfl (Or.inl rfl) (ok_icmp_ge 24 94 rfl rfl rfl (fun h43 => ?_) (fun h43 => ?_))))
        · refine ok_iload_n 50 rfl rfl rfl (ok_if_ne 51 102 rfl rfl rfl (fun h95 => ?_) (fun h95 => ?_))
          · refine ok_iload_n 54 rfl rfl rfl (ok_iconst 55 rfl rfl (by decide) (ok_icmp_ne 56 116 rfl rfl rfl (fun h104 => ?_) (fun h104 => ?_)))
            · refine ok_iload 62 rfl rfl rfl (ok_iret 63 rfl rfl rfl ?_)
              have ej : j = σ 0 28 := by omega
              refine ⟨_, rfl, rfl, Or.inr ⟨⟨hr, hw⟩, ?_⟩⟩
              rw [← eF, ← ej]
              first
                | exact Or.inr ⟨by omega, b, j6 (by omega), by rw [if_pos (by omega)]⟩
                | exact Or.inr ⟨by omega, b, j6 (by omega), by rw [if_neg (by omega)]⟩
                | exact Or.inl ⟨by omega, j4⟩
            · refine ok_aload_n 57 rfl rfl rfl (ok_iload_n 58 rfl rfl rfl (ok_iload_n 59 rfl rfl rfl (ok_callVI (M' := M_Mo_together) (as := [_, _]) 60 rfl rfl ml_X12_308 (t_Mo_together h hr) rfl rfl (Nat.le_of_ble_eq_true rfl) ⟨Nat.le_of_ble_eq_true rfl, Nat.le_of_ble_eq_true rfl⟩ rfl (Nat.le_of_ble_eq_true rfl) (fun σ' z hz => ?_))))
              rw [hz.1, hz.2]; clear hz z σ'
              refine ok_goto 61 118 rfl rfl rfl (ok_iret 63 rfl rfl rfl ?_)
              have ej : j = σ 0 28 := by omega
              refine ⟨_, rfl, rfl, Or.inr ⟨⟨hr, hw⟩, ?_⟩⟩
              rw [← eF, ← ej]
              first
                | exact Or.inr ⟨by omega, b, j6 (by omega), by rw [if_pos (by omega)]⟩
                | exact Or.inr ⟨by omega, b, j6 (by omega), by rw [if_neg (by omega)]⟩
                | exact Or.inl ⟨by omega, j4⟩
          · refine ok_iload_n 52 rfl rfl rfl (ok_goto 53 118 rfl rfl rfl (ok_iret 63 rfl rfl rfl ?_))
            have ej : j = σ 0 28 := by omega
            refine ⟨_, rfl, rfl, Or.inr ⟨⟨hr, hw⟩, ?_⟩⟩
            rw [← eF, ← ej]
            first
              | exact Or.inr ⟨by omega, b, j6 (by omega), by rw [if_pos (by omega)]⟩
              | exact Or.inr ⟨by omega, b, j6 (by omega), by rw [if_neg (by omega)]⟩
              | exact Or.inl ⟨by omega, j4⟩
        · refine ok_aload_n 25 rfl rfl rfl (ok_iload_n 26 rfl rfl rfl (ok_iload 27 rfl rfl rfl (ok_callVI (M' := M_Mo_together) (as := [_, _]) 28 rfl rfl ml_X12_308 (t_Mo_together h hr) rfl rfl (Nat.le_of_ble_eq_true rfl) ⟨Nat.le_of_ble_eq_true rfl, Nat.le_of_ble_eq_true rfl⟩ rfl (Nat.le_of_ble_eq_true rfl) (fun σ' z hz => ?_))))
          rw [hz.1, hz.2, eF']; clear hz z σ'
          refine ok_aload_n 29 rfl rfl rfl (ok_iload_n 30 rfl rfl rfl (ok_iload_n 31 rfl rfl rfl (ok_callVI (M' := M_Mo_together) (as := [_, _]) 32 rfl rfl ml_X12_308 (t_Mo_together h hr) rfl rfl (Nat.le_of_ble_eq_true rfl) ⟨Nat.le_of_ble_eq_true rfl, Nat.le_of_ble_eq_true rfl⟩ rfl (Nat.le_of_ble_eq_true rfl) (fun σ' z hz => ?_))))
          rw [hz.1, hz.2, eF']; clear hz z σ'
          refine ok_icmp_le 33 65 rfl rfl rfl (fun h59 => ?_) (fun h59 => ?_)
          · refine ok_iload 36 rfl rfl rfl (ok_aload_n 37 rfl rfl rfl (ok_iload_n 38 rfl rfl rfl (ok_iload 39 rfl rfl rfl (ok_callVI (M' := M_Mo_together) (as := [_, _]) 40 rfl rfl ml_X12_308 (t_Mo_together h hr) rfl rfl (Nat.le_of_ble_eq_true rfl) ⟨Nat.le_of_ble_eq_true rfl, Nat.le_of_ble_eq_true rfl⟩ rfl (Nat.le_of_ble_eq_true rfl) (fun σ' z hz => ?_)))))
            rw [hz.1, hz.2, eF']; clear hz z σ'
            refine ok_if_le 41 81 rfl rfl rfl (fun h74 => ?_) (fun h74 => ?_)
            · refine ok_iconst 44 rfl rfl (by decide) (ok_callSI (M' := M_Mo_one) (as := [_]) 45 rfl rfl ml_X12_192 (s_Mo_one) ⟨Nat.le_of_ble_eq_true rfl, Nat.le_of_ble_eq_true rfl⟩ rfl (Nat.le_of_ble_eq_true rfl) (fun σ' z hz => ?_))
              have q0 := hz.2
              rw [hz.1]
              have q1 : z = if 0 < F j then 1 else 0 := by
                rw [q0]
                first
                  | (rw [if_neg (by decide), if_pos (by omega)])
                  | (rw [if_pos (by decide), if_neg (by omega)])
              clear q0 hz σ'
              have q2 : 0 ≤ z ∧ z ≤ 1 := by rw [q1]; split <;> omega
              refine ok_iadd 46 rfl rfl (by first | omega | (simp [up_if]; omega) | (simp [up_if] at *; omega)) (ok_ist4 47 rfl rfl rfl (ok_inc5 48 rfl rfl rfl (by first | omega | (simp [up_if]; omega) | (simp [up_if] at *; omega)) (ok_goto 49 37 rfl rfl rfl ?_)))
              refine ih _ _ (j + 1) ⟨by omega, by omega, ⟨by omega, by omega⟩, by rw [cs, ← q1, j4], fun q => by omega, fun _ => nx _ (fun q => by omega) (fun q => by omega)⟩ (by omega)
            · refine ok_iconst 42 rfl rfl (by decide) (ok_goto 43 82 rfl rfl rfl (ok_callSI (M' := M_Mo_one) (as := [_]) 45 rfl rfl ml_X12_192 (s_Mo_one) ⟨Nat.le_of_ble_eq_true rfl, Nat.le_of_ble_eq_true rfl⟩ rfl (Nat.le_of_ble_eq_true rfl) (fun σ' z hz => ?_)))
              have q0 := hz.2
              rw [hz.1]
              have q1 : z = if 0 < F j then 1 else 0 := by
                rw [q0]
                first
                  | (rw [if_neg (by decide), if_pos (by omega)])
                  | (rw [if_pos (by decide), if_neg (by omega)])
              clear q0 hz σ'
              have q2 : 0 ≤ z ∧ z ≤ 1 := by rw [q1]; split <;> omega
              refine ok_iadd 46 rfl rfl (by first | omega | (simp [up_if]; omega) | (simp [up_if] at *; omega)) (ok_ist4 47 rfl rfl rfl (ok_inc5 48 rfl rfl rfl (by first | omega | (simp [up_if]; omega) | (simp [up_if] at *; omega)) (ok_goto 49 37 rfl rfl rfl ?_)))
              refine ih _ _ (j + 1) ⟨by omega, by omega, ⟨by omega, by omega⟩, by rw [cs, ← q1, j4], fun q => by omega, fun _ => nx _ (fun q => by omega) (fun q => by omega)⟩ (by omega)
          · refine ok_iload 34 rfl rfl rfl (ok_ist3 35 rfl rfl rfl (ok_iload 36 rfl rfl rfl (ok_aload_n 37 rfl rfl rfl (ok_iload_n 38 rfl rfl rfl (ok_iload 39 rfl rfl rfl (ok_callVI (M' := M_Mo_together) (as := [_, _]) 40 rfl rfl ml_X12_308 (t_Mo_together h hr) rfl rfl (Nat.le_of_ble_eq_true rfl) ⟨Nat.le_of_ble_eq_true rfl, Nat.le_of_ble_eq_true rfl⟩ rfl (Nat.le_of_ble_eq_true rfl) (fun σ' z hz => ?_)))))))
            rw [hz.1, hz.2, eF']; clear hz z σ'
            refine ok_if_le 41 81 rfl rfl rfl (fun h74 => ?_) (fun h74 => ?_)
            · refine ok_iconst 44 rfl rfl (by decide) (ok_callSI (M' := M_Mo_one) (as := [_]) 45 rfl rfl ml_X12_192 (s_Mo_one) ⟨Nat.le_of_ble_eq_true rfl, Nat.le_of_ble_eq_true rfl⟩ rfl (Nat.le_of_ble_eq_true rfl) (fun σ' z hz => ?_))
              have q0 := hz.2
              rw [hz.1]
              have q1 : z = if 0 < F j then 1 else 0 := by
                rw [q0]
                first
                  | (rw [if_neg (by decide), if_pos (by omega)])
                  | (rw [if_pos (by decide), if_neg (by omega)])
              clear q0 hz σ'
              have q2 : 0 ≤ z ∧ z ≤ 1 := by rw [q1]; split <;> omega
              refine ok_iadd 46 rfl rfl (by first | omega | (simp [up_if]; omega) | (simp [up_if] at *; omega)) (ok_ist4 47 rfl rfl rfl (ok_inc5 48 rfl rfl rfl (by first | omega | (simp [up_if]; omega) | (simp [up_if] at *; omega)) (ok_goto 49 37 rfl rfl rfl ?_)))
              refine ih _ _ (j + 1) ⟨by omega, by omega, ⟨by omega, by omega⟩, by rw [cs, ← q1, j4], fun q => by omega, fun _ => nx _ (fun q => by omega) (fun q => by omega)⟩ (by omega)
            · refine ok_iconst 42 rfl rfl (by decide) (ok_goto 43 82 rfl rfl rfl (ok_callSI (M' := M_Mo_one) (as := [_]) 45 rfl rfl ml_X12_192 (s_Mo_one) ⟨Nat.le_of_ble_eq_true rfl, Nat.le_of_ble_eq_true rfl⟩ rfl (Nat.le_of_ble_eq_true rfl) (fun σ' z hz => ?_)))
              have q0 := hz.2
              rw [hz.1]
              have q1 : z = if 0 < F j then 1 else 0 := by
                rw [q0]
                first
                  | (rw [if_neg (by decide), if_pos (by omega)])
                  | (rw [if_pos (by decide), if_neg (by omega)])
              clear q0 hz σ'
              have q2 : 0 ≤ z ∧ z ≤ 1 := by rw [q1]; split <;> omega
              refine ok_iadd 46 rfl rfl (by first | omega | (simp [up_if]; omega) | (simp [up_if] at *; omega)) (ok_ist4 47 rfl rfl rfl (ok_inc5 48 rfl rfl rfl (by first | omega | (simp [up_if]; omega) | (simp [up_if] at *; omega)) (ok_goto 49 37 rfl rfl rfl ?_)))
              refine ih _ _ (j + 1) ⟨by omega, by omega, ⟨by omega, by omega⟩, by rw [cs, ← q1, j4], fun q => by omega, fun _ => nx _ (fun q => by omega) (fun q => by omega)⟩ (by omega)
      · refine ok_iconst 13 rfl rfl (by decide) (ok_iret 14 rfl rfl rfl ?_)
        exact ⟨_, rfl, rfl, Or.inl ⟨rfl, by omega⟩⟩
theorem t_Mo_joint {σ : eS} {i j k l w : Int} (h : iK σ) : MtI shB M_Mo_joint [vr 0, vi i, vi j, vi k, vi l, vi w] σ (fun σ' z => σ' = σ ∧ (σ 0 27 ≠ 0 → jtS (σ 0 27) (σ 0 28) (σ 0 29) (wB σ) (kB σ) i j k l w z) ∧ (σ 0 27 = 0 → z = -1)) := by
  refine Mt.of okM_Mo_joint (Nat.le_of_ble_eq_true rfl) (fun hk hg => ?_)
  obtain ⟨h1, h2, h3, h4, h5, h6, -⟩ := id h
  have no : ∀ {z : Int}, ¬ okJ4 (σ 0 28) i j k l w → jtS (σ 0 27) (σ 0 28) (σ 0 29) (wB σ) (kB σ) i j k l w (-1) := fun q => by unfold jtS; rw [if_neg q]
  refine ok_aload_n 0 rfl rfl rfl (ok_getI 1 rfl rfl fl_X12_273 rfl rfl (Or.inl rfl) (ok_if_eq 2 51 rfl rfl rfl (fun h4 => ?_) (fun h4 => ?_)))
  · refine ok_iconst 25 rfl rfl (by decide) (ok_iret 26 rfl rfl rfl ?_)
    exact ⟨_, rfl, rfl, fun q => absurd (by omega) q, fun _ => rfl⟩
  · refine ok_aload_n 3 rfl rfl rfl (ok_iload_n 4 rfl rfl rfl (ok_callVI (M' := M_Mo_isKeptRow) (as := [_]) 5 rfl rfl ml_X12_303 (s_Mo_isKeptRow h) rfl rfl (Nat.le_of_ble_eq_true rfl) ⟨Nat.le_of_ble_eq_true rfl, Nat.le_of_ble_eq_true rfl⟩ rfl (Nat.le_of_ble_eq_true rfl) (fun σ' z1 a1 => ?_)))
    obtain ⟨hs_, a1⟩ := a1
    rw [hs_]; clear hs_ σ'
    refine ok_if_eq 6 51 rfl rfl rfl (fun h12 => ?_) (fun h12 => ?_)
    · refine ok_iconst 25 rfl rfl (by decide) (ok_iret 26 rfl rfl rfl ?_)
      exact ⟨_, rfl, rfl, fun q => no (z := 0) (by unfold okJ4; omega), fun _ => rfl⟩
    · refine ok_aload_n 7 rfl rfl rfl (ok_iload_n 8 rfl rfl rfl (ok_callVI (M' := M_Mo_isKeptRow) (as := [_]) 9 rfl rfl ml_X12_303 (s_Mo_isKeptRow h) rfl rfl (Nat.le_of_ble_eq_true rfl) ⟨Nat.le_of_ble_eq_true rfl, Nat.le_of_ble_eq_true rfl⟩ rfl (Nat.le_of_ble_eq_true rfl) (fun σ' z2 a2 => ?_)))
      obtain ⟨hs_, a2⟩ := a2
      rw [hs_]; clear hs_ σ'
      refine ok_if_eq 10 51 rfl rfl rfl (fun h20 => ?_) (fun h20 => ?_)
      · refine ok_iconst 25 rfl rfl (by decide) (ok_iret 26 rfl rfl rfl ?_)
        exact ⟨_, rfl, rfl, fun q => no (z := 0) (by unfold okJ4; omega), fun _ => rfl⟩
      · refine ok_aload_n 11 rfl rfl rfl (ok_iload_n 12 rfl rfl rfl (ok_callVI (M' := M_Mo_isKeptRow) (as := [_]) 13 rfl rfl ml_X12_303 (s_Mo_isKeptRow h) rfl rfl (Nat.le_of_ble_eq_true rfl) ⟨Nat.le_of_ble_eq_true rfl, Nat.le_of_ble_eq_true rfl⟩ rfl (Nat.le_of_ble_eq_true rfl) (fun σ' z3 a3 => ?_)))
        obtain ⟨hs_, a3⟩ := a3
        rw [hs_]; clear hs_ σ'
        refine ok_if_eq 14 51 rfl rfl rfl (fun h28 => ?_) (fun h28 => ?_)
        · refine ok_iconst 25 rfl rfl (by decide) (ok_iret 26 rfl rfl rfl ?_)
          exact ⟨_, rfl, rfl, fun q => no (z := 0) (by unfold okJ4; omega), fun _ => rfl⟩
        · refine ok_aload_n 15 rfl rfl rfl (ok_iload 16 rfl rfl rfl (ok_callVI (M' := M_Mo_isKeptRow) (as := [_]) 17 rfl rfl ml_X12_303 (s_Mo_isKeptRow h) rfl rfl (Nat.le_of_ble_eq_true rfl) ⟨Nat.le_of_ble_eq_true rfl, Nat.le_of_ble_eq_true rfl⟩ rfl (Nat.le_of_ble_eq_true rfl) (fun σ' z4 a4 => ?_)))
          obtain ⟨hs_, a4⟩ := a4
          rw [hs_]; clear hs_ σ'
          refine ok_if_eq 18 51 rfl rfl rfl (fun h37 => ?_) (fun h37 => ?_)
          · refine ok_iconst 25 rfl rfl (by decide) (ok_iret 26 rfl rfl rfl ?_)
            exact ⟨_, rfl, rfl, fun q => no (z := 0) (by unfold okJ4; omega), fun _ => rfl⟩
          · refine ok_iload 19 rfl rfl rfl (ok_i2l 20 rfl rfl (ok_lconst (w := 0) 21 rfl rfl rfl (by decide) (ok_lconst (w := 1) 22 rfl rfl rfl (by decide) (ok_callSI (M' := M_Mo_isIn) (as := [_, _, _]) 23 rfl rfl ml_X12_99 (s_Mo_isIn_r) ⟨Nat.le_of_ble_eq_true rfl, Nat.le_of_ble_eq_true rfl⟩ rfl (Nat.le_of_ble_eq_true rfl) (fun σ' z5 a5 => ?_)))))
            obtain ⟨hs_, a5⟩ := a5
            rw [hs_]; clear hs_ σ'
            refine ok_if_ne 24 53 rfl rfl rfl (fun h48 => ?_) (fun h48 => ?_)
            · refine ok_iconst 27 rfl rfl (by decide) (ok_ist6 28 rfl rfl rfl (ok_iconst 29 rfl rfl (by decide) (ok_ist7 30 rfl rfl rfl ?_)))
              have r1 := yes1 a1 h12
              have r2 := yes1 a2 h20
              have r3 := yes1 a3 h28
              have r4 := yes1 a4 h37
              have r5 := yes1 a5 h48
              refine lpO2 (fun v p : Int => [some (vr 0), some (vi i), some (vi j), some (vi k), some (vi l), some (vi w), some (vi v), some (vi p)]) (fun _ _ => σ) (fun v p => 0 ≤ p ∧ p ≤ σ 0 27 ∧ v = twS p (wB σ) (kB σ) i j k l) (fun _ p => (64 - p).toNat) ?_ 0 0 ⟨by omega, by omega, rfl⟩
              rintro v p ⟨k1, k2, k3⟩ ih
              have w3 : 0 ≤ sm (wB σ) p.toNat ∧ sm (wB σ) p.toNat ≤ σ 0 29 := wt_sum h k1 (by omega)
              obtain ⟨w6, w7⟩ := wt_le h (k := 0) (by omega) (by omega)
              have tb := twS_bd (N := p) (wt := wB σ) (col := kB σ) (i := i) (j := j) (k := k) (l := l) (fun q x y => wB_nn h q x (by omega))
              refine ok_iload 31 rfl rfl rfl (ok_aload_n 32 rfl rfl rfl (ok_getI 33 rfl rfl fl_X12_273 rfl rfl (Or.inl rfl) (ok_icmp_ge 34 123 rfl rfl rfl (fun h65 => ?_) (fun h65 => ?_))))
              · obtain ⟨c1, c2⟩ := gcd_pos (a := σ 0 29) (b := v) (by omega)
                have ep : p = σ 0 27 := by omega
                rw [← k3] at tb
                rw [ep] at k3
                refine ok_aload_n 66 rfl rfl rfl (ok_getI 67 rfl rfl fl_X12_279 rfl rfl (Or.inl rfl) (ok_i2l 68 rfl rfl (ok_iload 69 rfl rfl rfl (ok_i2l 70 rfl rfl (ok_callSL (M' := M_Mo_common) (as := [_, _]) 71 rfl rfl ml_X12_89 (s_Mo_common (by omega) (by omega)) ⟨Nat.le_of_ble_eq_true rfl, Nat.le_of_ble_eq_true rfl⟩ rfl (Nat.le_of_ble_eq_true rfl) (fun σ' z hz => ?_))))))
                rw [hz.1, hz.2]
                clear hz z σ'
                refine ok_l2i 72 rfl rfl (by first | omega | (simp [up_if]; omega) | (simp [up_if] at *; omega)) (ok_ist7 73 rfl rfl rfl (ok_iload 74 rfl rfl rfl (ok_if_ne 75 150 rfl rfl rfl (fun h139 => ?_) (fun h139 => ?_))))
                · refine ok_aload_n 80 rfl rfl rfl (ok_getI 81 rfl rfl fl_X12_279 rfl rfl (Or.inl rfl) (ok_iload 82 rfl rfl rfl (ok_idiv 83 rfl rfl (by omega) (by omega) (ok_iret 84 rfl rfl rfl ?_))))
                  refine ⟨_, rfl, rfl, fun q => ?_, fun q => by omega⟩
                  unfold jtS
                  rw [← k3, if_pos (by unfold okJ4; omega)]
                  first | rw [if_pos (by omega)] | rw [if_neg (by omega)]
                · refine ok_iload 76 rfl rfl rfl (ok_iload 77 rfl rfl rfl (ok_idiv 78 rfl rfl (by omega) (by omega) (ok_goto 79 157 rfl rfl rfl (ok_iret 84 rfl rfl rfl ?_))))
                  refine ⟨_, rfl, rfl, fun q => ?_, fun q => by omega⟩
                  unfold jtS
                  rw [← k3, if_pos (by unfold okJ4; omega)]
                  first | rw [if_pos (by omega)] | rw [if_neg (by omega)]
              · obtain ⟨w1, w2⟩ := wt_le h k1 (by omega)
                have e : sm (wB σ) (p + 1).toNat = sm (wB σ) p.toNat + σ 12 p := sm_s (wB σ) k1
                have w5 : sm (wB σ) (p + 1).toNat ≤ σ 0 29 := (wt_sum h (k := p + 1) (by omega) (by omega)).2
                have ts := twS_s (N := p) (wt := wB σ) (col := kB σ) (i := i) (j := j) (k := k) (l := l) k1
                have wp : wB σ p = σ 12 p := rfl
                have kp : kB σ p i = σ 13 (8 * p + i) := rfl
                have kp2 : kB σ p k = σ 13 (8 * p + k) := rfl
                refine ok_iload 35 rfl rfl rfl (ok_aload_n 36 rfl rfl rfl (ok_getR 37 rfl rfl fl_X12_51 rfl rfl (ok_bipush 38 rfl rfl (by decide) (by decide) (ok_iload 39 rfl rfl rfl (ok_imul 40 rfl rfl (by first | omega | (simp [up_if]; omega) | (simp [up_if] at *; omega)) (ok_iload_n 41 rfl rfl rfl (ok_iadd 42 rfl rfl (by first | omega | (simp [up_if]; omega) | (simp [up_if] at *; omega)) (ok_iald 43 rfl rfl rfl (by first | omega | (simp [up_if]; omega) | (simp [up_if] at *; omega)) (ok_iload_n 44 rfl rfl rfl (ok_icmp_ne 45 113 rfl rfl rfl (fun h83 => ?_) (fun h83 => ?_)))))))))))
                · refine ok_iconst 61 rfl rfl (by decide) (ok_iadd 62 rfl rfl (by first | omega | (simp [up_if]; omega) | (simp [up_if] at *; omega)) (ok_ist6 63 rfl rfl rfl (ok_inc7 64 rfl rfl rfl (by first | omega | (simp [up_if]; omega) | (simp [up_if] at *; omega)) (ok_goto 65 59 rfl rfl rfl ?_))))
                  refine ih _ (p + 1) ⟨by omega, by omega, ?_⟩ (by omega)
                  rw [ts]
                  first
                    | (rw [if_neg (by omega)]; omega)
                    | (rw [if_pos (by omega)]; omega)
                · refine ok_aload_n 46 rfl rfl rfl (ok_getR 47 rfl rfl fl_X12_51 rfl rfl (ok_bipush 48 rfl rfl (by decide) (by decide) (ok_iload 49 rfl rfl rfl (ok_imul 50 rfl rfl (by first | omega | (simp [up_if]; omega) | (simp [up_if] at *; omega)) (ok_iload_n 51 rfl rfl rfl (ok_iadd 52 rfl rfl (by first | omega | (simp [up_if]; omega) | (simp [up_if] at *; omega)) (ok_iald 53 rfl rfl rfl (by first | omega | (simp [up_if]; omega) | (simp [up_if] at *; omega)) (ok_iload 54 rfl rfl rfl (ok_icmp_ne 55 113 rfl rfl rfl (fun h100 => ?_) (fun h100 => ?_))))))))))
                  · refine ok_iconst 61 rfl rfl (by decide) (ok_iadd 62 rfl rfl (by first | omega | (simp [up_if]; omega) | (simp [up_if] at *; omega)) (ok_ist6 63 rfl rfl rfl (ok_inc7 64 rfl rfl rfl (by first | omega | (simp [up_if]; omega) | (simp [up_if] at *; omega)) (ok_goto 65 59 rfl rfl rfl ?_))))
                    refine ih _ (p + 1) ⟨by omega, by omega, ?_⟩ (by omega)
                    rw [ts]
                    first
                      | (rw [if_neg (by omega)]; omega)
                      | (rw [if_pos (by omega)]; omega)
                  · refine ok_aload_n 56 rfl rfl rfl (ok_getR 57 rfl rfl fl_X12_48 rfl rfl (ok_iload 58 rfl rfl rfl (ok_iald 59 rfl rfl rfl (by first | omega | (simp [up_if]; omega) | (simp [up_if] at *; omega)) (ok_goto 60 114 rfl rfl rfl (ok_iadd 62 rfl rfl (by first | omega | (simp [up_if]; omega) | (simp [up_if] at *; omega)) (ok_ist6 63 rfl rfl rfl (ok_inc7 64 rfl rfl rfl (by first | omega | (simp [up_if]; omega) | (simp [up_if] at *; omega)) (ok_goto 65 59 rfl rfl rfl ?_))))))))
                    refine ih _ (p + 1) ⟨by omega, by omega, ?_⟩ (by omega)
                    rw [ts]
                    first
                      | (rw [if_neg (by omega)]; omega)
                      | (rw [if_pos (by omega)]; omega)
            · refine ok_iconst 25 rfl rfl (by decide) (ok_iret 26 rfl rfl rfl ?_)
              exact ⟨_, rfl, rfl, fun q => no (z := 0) (by unfold okJ4; omega), fun _ => rfl⟩
theorem t_Mo_works {σ : eS} {j t : Int} (h : iK σ) : MtI shB M_Mo_works [vr 0, vi j, vi t] σ (fun σ' z => σ' = σ ∧ wkS (σ 0 27) (σ 0 31) (wB σ) (kB σ) (σ 0 30 = 2 ∧ 0 ≤ j ∧ j < σ 0 31) j t z) := by
  refine Mt.of okM_Mo_works (Nat.le_of_ble_eq_true rfl) (fun hk hg => ?_)
  obtain ⟨k1, k2, k3, k4, k5, k6, -⟩ := id h
  have ws := wB_sum h
  refine ok_aload_n 0 rfl rfl rfl (ok_iload_n 1 rfl rfl rfl (ok_callVI (M' := M_Mo_isJob) (as := [_]) 2 rfl rfl ml_X12_366 (s_Mo_isJob h) rfl rfl (Nat.le_of_ble_eq_true rfl) ⟨Nat.le_of_ble_eq_true rfl, Nat.le_of_ble_eq_true rfl⟩ rfl (Nat.le_of_ble_eq_true rfl) (fun σ' z1 a1 => ?_)))
  obtain ⟨hs_, a1⟩ := a1
  rw [hs_]; clear hs_ σ'
  refine ok_if_eq 3 24 rfl rfl rfl (fun h5 => ?_) (fun h5 => ?_)
  · refine ok_iconst 14 rfl rfl (by decide) (ok_iret 15 rfl rfl rfl ?_)
    exact ⟨_, rfl, rfl, Or.inl ⟨rfl, no1 a1 h5⟩⟩
  · refine ok_iload_n 4 rfl rfl rfl (ok_i2l 5 rfl rfl (ok_lconst (w := 0) 6 rfl rfl rfl (by decide) (ok_aload_n 7 rfl rfl rfl (ok_getI 8 rfl rfl fl_X12_279 rfl rfl (Or.inl rfl) (ok_iconst 9 rfl rfl (by decide) (ok_isub 10 rfl rfl (by first | omega | (simp [up_if]; omega) | (simp [up_if] at *; omega)) (ok_i2l 11 rfl rfl (ok_callSI (M' := M_Mo_isIn) (as := [_, _, _]) 12 rfl rfl ml_X12_99 (s_Mo_isIn_r) ⟨Nat.le_of_ble_eq_true rfl, Nat.le_of_ble_eq_true rfl⟩ rfl (Nat.le_of_ble_eq_true rfl) (fun σ' z2 a2 => ?_)))))))))
    obtain ⟨hs_, a2⟩ := a2
    rw [hs_]; clear hs_ σ'
    refine ok_if_ne 13 26 rfl rfl rfl (fun h21 => ?_) (fun h21 => ?_)
    · have r1 := yes1 a1 h5
      have r2 := yes1 a2 h21
      have r3 := h.two r1.1
      refine ok_aload_n 16 rfl rfl rfl (ok_getR 17 rfl rfl fl_X12_51 rfl rfl (ok_bipush 18 rfl rfl (by decide) (by decide) (ok_aload_n 19 rfl rfl rfl (ok_iload_n 20 rfl rfl rfl (ok_callVI (M' := M_Mo_draw) (as := [_]) 21 rfl rfl ml_X12_369 (t_Mo_draw h) rfl rfl (Nat.le_of_ble_eq_true rfl) ⟨Nat.le_of_ble_eq_true rfl, Nat.le_of_ble_eq_true rfl⟩ rfl (Nat.le_of_ble_eq_true rfl) (fun σ' z3 a3 => ?_))))))
      obtain ⟨hs_, a3⟩ := a3
      rw [hs_]; clear hs_ σ'
      have r4 : 0 ≤ z3 ∧ z3 < σ 0 27 := by
        rcases id a3 with ⟨-, q⟩ | ⟨q, -⟩
        · exact absurd (by omega) q
        · exact q
      refine ok_imul 22 rfl rfl (by first | omega | (simp [up_if]; omega) | (simp [up_if] at *; omega)) (ok_iload_n 23 rfl rfl rfl (ok_iadd 24 rfl rfl (by first | omega | (simp [up_if]; omega) | (simp [up_if] at *; omega)) (ok_iald 25 rfl rfl rfl (by first | omega | (simp [up_if]; omega) | (simp [up_if] at *; omega)) (ok_ist3 26 rfl rfl rfl (ok_iload_n 27 rfl rfl rfl (ok_aload_n 28 rfl rfl rfl (ok_getI 29 rfl rfl fl_X12_363 rfl rfl (Or.inl rfl) (ok_icmp_ge 30 54 rfl rfl rfl (fun h47 => ?_) (fun h47 => ?_)))))))))
      · refine ok_iconst 33 rfl rfl (by decide) (ok_iret 34 rfl rfl rfl ?_)
        refine ⟨_, rfl, rfl, Or.inr ⟨r1, z3, a3, Or.inr ⟨r4.1, ?_⟩⟩⟩
        have kp : kB σ z3 j = σ 13 (8 * z3 + j) := rfl
        rw [kp]
        first | (rw [if_pos (by omega)]) | (rw [if_neg (by omega)])
      · refine ok_iload_n 31 rfl rfl rfl (ok_goto 32 55 rfl rfl rfl (ok_iret 34 rfl rfl rfl ?_))
        refine ⟨_, rfl, rfl, Or.inr ⟨r1, z3, a3, Or.inr ⟨r4.1, ?_⟩⟩⟩
        have kp : kB σ z3 j = σ 13 (8 * z3 + j) := rfl
        rw [kp]
        first | (rw [if_pos (by omega)]) | (rw [if_neg (by omega)])
    · refine ok_iconst 14 rfl rfl (by decide) (ok_iret 15 rfl rfl rfl ?_)
      exact ⟨_, rfl, rfl, Or.inr ⟨yes1 a1 h5, -1, Or.inl ⟨rfl, by omega⟩, Or.inl ⟨rfl, rfl⟩⟩⟩
theorem t_Mo_kept {σ : eS} {w : Int} : MtI shB M_Mo_kept [vr 0, vi w] σ (fun σ' z => σ' = σ ∧ z = if w = 0 then σ 0 30 else if w = 1 then σ 0 27 else if w = 2 then σ 0 29 else if w = 3 then (if σ 0 30 = 2 then σ 0 31 else σ 0 28) else if w = 4 then σ 0 6 else -1) := by
  refine Mt.of okM_Mo_kept (Nat.le_of_ble_eq_true rfl) (fun hk hg => ?_)
  refine ok_iload_n 0 rfl rfl rfl ?_
  rcases (by omega : w = 0 ∨ w = 1 ∨ w = 2 ∨ w = 3 ∨ w = 4 ∨ (w < 0 ∨ 4 < w)) with q_ | q_ | q_ | q_ | q_ | q_
  · subst q_
    refine ok_tin 1 (len := 35) 36 rfl rfl (by decide) (by decide) rfl rfl ?_
    refine ok_aload_n 2 rfl rfl rfl (ok_getI 3 rfl rfl fl_X12_282 rfl rfl (Or.inl rfl) (ok_iret 4 rfl rfl rfl ?_))
    refine ⟨_, rfl, rfl, ?_⟩
    first
      | rfl
      | (show σ 0 31 = if σ 0 30 = 2 then σ 0 31 else σ 0 28; rw [if_pos (by omega)])
      | (show σ 0 28 = if σ 0 30 = 2 then σ 0 31 else σ 0 28; rw [if_neg (by omega)])
      | (rw [if_neg (by omega), if_neg (by omega), if_neg (by omega), if_neg (by omega), if_neg (by omega)])
  · subst q_
    refine ok_tin 1 (len := 35) 41 rfl rfl (by decide) (by decide) rfl rfl ?_
    refine ok_aload_n 5 rfl rfl rfl (ok_getI 6 rfl rfl fl_X12_273 rfl rfl (Or.inl rfl) (ok_iret 7 rfl rfl rfl ?_))
    refine ⟨_, rfl, rfl, ?_⟩
    first
      | rfl
      | (show σ 0 31 = if σ 0 30 = 2 then σ 0 31 else σ 0 28; rw [if_pos (by omega)])
      | (show σ 0 28 = if σ 0 30 = 2 then σ 0 31 else σ 0 28; rw [if_neg (by omega)])
      | (rw [if_neg (by omega), if_neg (by omega), if_neg (by omega), if_neg (by omega), if_neg (by omega)])
  · subst q_
    refine ok_tin 1 (len := 35) 46 rfl rfl (by decide) (by decide) rfl rfl ?_
    refine ok_aload_n 8 rfl rfl rfl (ok_getI 9 rfl rfl fl_X12_279 rfl rfl (Or.inl rfl) (ok_iret 10 rfl rfl rfl ?_))
    refine ⟨_, rfl, rfl, ?_⟩
    first
      | rfl
      | (show σ 0 31 = if σ 0 30 = 2 then σ 0 31 else σ 0 28; rw [if_pos (by omega)])
      | (show σ 0 28 = if σ 0 30 = 2 then σ 0 31 else σ 0 28; rw [if_neg (by omega)])
      | (rw [if_neg (by omega), if_neg (by omega), if_neg (by omega), if_neg (by omega), if_neg (by omega)])
  · subst q_
    refine ok_tin 1 (len := 35) 51 rfl rfl (by decide) (by decide) rfl rfl ?_
    refine ok_aload_n 11 rfl rfl rfl (ok_getI 12 rfl rfl fl_X12_282 rfl rfl (Or.inl rfl) (ok_iconst 13 rfl rfl (by decide) (ok_icmp_ne 14 66 rfl rfl rfl (fun h56 => ?_) (fun h56 => ?_))))
    · refine ok_aload_n 18 rfl rfl rfl (ok_getI 19 rfl rfl fl_X12_276 rfl rfl (Or.inl rfl) (ok_iret 20 rfl rfl rfl ?_))
      refine ⟨_, rfl, rfl, ?_⟩
      first
        | rfl
        | (show σ 0 31 = if σ 0 30 = 2 then σ 0 31 else σ 0 28; rw [if_pos (by omega)])
        | (show σ 0 28 = if σ 0 30 = 2 then σ 0 31 else σ 0 28; rw [if_neg (by omega)])
        | (rw [if_neg (by omega), if_neg (by omega), if_neg (by omega), if_neg (by omega), if_neg (by omega)])
    · refine ok_aload_n 15 rfl rfl rfl (ok_getI 16 rfl rfl fl_X12_363 rfl rfl (Or.inl rfl) (ok_goto 17 70 rfl rfl rfl (ok_iret 20 rfl rfl rfl ?_)))
      refine ⟨_, rfl, rfl, ?_⟩
      first
        | rfl
        | (show σ 0 31 = if σ 0 30 = 2 then σ 0 31 else σ 0 28; rw [if_pos (by omega)])
        | (show σ 0 28 = if σ 0 30 = 2 then σ 0 31 else σ 0 28; rw [if_neg (by omega)])
        | (rw [if_neg (by omega), if_neg (by omega), if_neg (by omega), if_neg (by omega), if_neg (by omega)])
  · subst q_
    refine ok_tin 1 (len := 35) 71 rfl rfl (by decide) (by decide) rfl rfl ?_
    refine ok_aload_n 21 rfl rfl rfl (ok_getI 22 rfl rfl fl_X12_125 rfl rfl (Or.inl rfl) (ok_iret 23 rfl rfl rfl ?_))
    refine ⟨_, rfl, rfl, ?_⟩
    first
      | rfl
      | (show σ 0 31 = if σ 0 30 = 2 then σ 0 31 else σ 0 28; rw [if_pos (by omega)])
      | (show σ 0 28 = if σ 0 30 = 2 then σ 0 31 else σ 0 28; rw [if_neg (by omega)])
      | (rw [if_neg (by omega), if_neg (by omega), if_neg (by omega), if_neg (by omega), if_neg (by omega)])
  · refine ok_tout 1 (len := 35) 76 rfl rfl q_ rfl ?_
    refine ok_iconst 24 rfl rfl (by decide) (ok_iret 25 rfl rfl rfl ?_)
    refine ⟨_, rfl, rfl, ?_⟩
    first
      | rfl
      | (show σ 0 31 = if σ 0 30 = 2 then σ 0 31 else σ 0 28; rw [if_pos (by omega)])
      | (show σ 0 28 = if σ 0 30 = 2 then σ 0 31 else σ 0 28; rw [if_neg (by omega)])
      | (rw [if_neg (by omega), if_neg (by omega), if_neg (by omega), if_neg (by omega), if_neg (by omega)])
end
section
/-! PAIRED: the first of the joined choices, on both sides -/
def okPr (T : Prop) (n l r : Int) : Prop := T ∧ isL l ∧ 0 ≤ r ∧ r < n
def paS (n : Int) (op : Int → Int → Prop) (r z : Int) : Prop := (¬ cpl n op n.toNat 0 ∧ z = -1) ∨ (cpl n op n.toNat 0 ∧ ∃ ch : Int → Int, fstC n (okJ n op) ch ∧ z = ch r)
theorem paS_un {n r z z' : Int} {op op' : Int → Int → Prop} (hn : 0 ≤ n ∧ n ≤ 8) (hr : 0 ≤ r ∧ r < n) (e : ∀ i j, 0 ≤ i → i < n → 0 ≤ j → j < n → (op i j ↔ op' i j)) (h : paS n op r z) (h' : paS n op' r z') : z = z' := by
  have c := cpl_cg e n.toNat 0 (by omega)
  rcases h with ⟨a1, a2⟩ | ⟨a1, ch, a2, a3⟩ <;> rcases h' with ⟨b1, b2⟩ | ⟨b1, ch', b2, b3⟩
  · rw [a2, b2]
  · exact absurd (c.mpr b1) a1
  · exact absurd (c.mp a1) b1
  · rw [a3, b3]; exact lex_un hn e a2 b2 r hr.1 hr.2
theorem paS_cg {n r z : Int} {op op' : Int → Int → Prop} (hn : 0 ≤ n ∧ n ≤ 8) (e : ∀ i j, 0 ≤ i → i < n → 0 ≤ j → j < n → (op i j ↔ op' i j)) (h : paS n op r z) : paS n op' r z := by
  have c := cpl_cg e n.toNat 0 (by omega)
  rcases h with ⟨a1, a2⟩ | ⟨a1, ch, a2, a3⟩
  · exact Or.inl ⟨fun q => a1 (c.mpr q), a2⟩
  · exact Or.inr ⟨c.mp a1, ch, lex_cg hn e a2, a3⟩
theorem t_Ev_paired {σ : eS} {s m r : Int} (h : IA σ ∧ iSe σ ∧ σ 16 3 + 64 < 2147483647) : MtI shA M_Ev_paired [vr 0, vi s, vi m, vi r] σ (fun σ' z => QA σ σ' ∧ ((¬ okPr (tabA σ s) (σ (s.toNat + 2) 1) m r ∧ z = -1) ∨ (okPr (tabA σ s) (σ (s.toNat + 2) 1) m r ∧ paS (σ (s.toNat + 2) 1) (fun i j => m ≤ cT σ (s.toNat + 2) i j) r z))) := by
  refine Mt.of okM_Ev_paired (Nat.le_of_ble_eq_true rfl) (fun hk hg => ?_)
  obtain ⟨h, hS, hS2⟩ := h
  refine ok_aload_n 0 rfl rfl rfl (ok_iload_n 1 rfl rfl rfl (ok_callVR (M' := M_Ev_filledSlot) (as := [_]) 2 rfl rfl ml_X11_137 (s_Ev_filledSlot) rfl rfl (Nat.le_of_ble_eq_true rfl) ⟨Nat.le_of_ble_eq_true rfl, Nat.le_of_ble_eq_true rfl⟩ rfl (Nat.le_of_ble_eq_true rfl) (fun σ' z hz => ?_)))
  obtain ⟨hs_, hz⟩ := hz
  rw [hs_]; clear hs_ σ'
  rcases hz with ⟨q, q0⟩ | ⟨q1, q2, q, q3⟩
  · subst q
    refine ok_ast4 3 rfl rfl rfl (ok_aload 4 rfl rfl rfl (ok_ifnullN 5 28 rfl rfl rfl (ok_iconst 13 rfl rfl (by decide) (ok_iret 14 rfl rfl rfl ?_))))
    exact ⟨_, rfl, QA_rf h, Or.inl ⟨fun c => q0 c.1, rfl⟩⟩
  · subst q
    have ht := sl_tA ⟨q1, q2⟩
    have hT := (h.2.1 _ ht).1
    have m1 := hT.1
    have m2 := hT.2.1
    refine ok_ast4 3 rfl rfl rfl (ok_aload 4 rfl rfl rfl (ok_ifnull 5 rfl rfl (ok_iload_n 6 rfl rfl rfl (ok_callSI (M' := M_Ev_isCell) (as := [_]) 7 rfl rfl ml_X11_208 (s_Ev_isCell) ⟨Nat.le_of_ble_eq_true rfl, Nat.le_of_ble_eq_true rfl⟩ rfl (Nat.le_of_ble_eq_true rfl) (fun σ' z0 x0 => ?_)))))
    obtain ⟨hs_, x0⟩ := x0
    rw [hs_]; clear hs_ σ'
    refine ok_if_eq 8 28 rfl rfl rfl (fun h16 => ?_) (fun h16 => ?_)
    · refine ok_iconst 13 rfl rfl (by decide) (ok_iret 14 rfl rfl rfl ?_)
      exact ⟨_, rfl, QA_rf h, Or.inl ⟨fun c => by have c2 := c.2.1; unfold isL at c2; omega, rfl⟩⟩
    · refine ok_aload 9 rfl rfl rfl (ok_iload_n 10 rfl rfl rfl (ok_callVI (M' := M_Ta_has) (as := [_]) 11 rfl rfl ml_X11_129 (s_Ta_has ht) (sT ht) rfl (Nat.le_of_ble_eq_true rfl) ⟨Nat.le_of_ble_eq_true rfl, Nat.le_of_ble_eq_true rfl⟩ rfl (Nat.le_of_ble_eq_true rfl) (fun σ' z1 x1 => ?_)))
      obtain ⟨hs_, x1⟩ := x1
      rw [hs_]; clear hs_ σ'
      refine ok_if_ne 12 30 rfl rfl rfl (fun h25 => ?_) (fun h25 => ?_)
      · refine ok_aload_n 15 rfl rfl rfl (ok_getR 16 rfl rfl fl_X11_32 rfl rfl (ok_aload 17 rfl rfl rfl (ok_iload_n 18 rfl rfl rfl (ok_callVL (M' := M_Ta_joinedBy) (as := [_]) 19 rfl rfl ml_X11_119 (t_Ta_joinedBy ht hT) (sT ht) rfl (Nat.le_of_ble_eq_true rfl) ⟨Nat.le_of_ble_eq_true rfl, Nat.le_of_ble_eq_true rfl⟩ rfl (Nat.le_of_ble_eq_true rfl) (fun σ' z2 x2 => ?_)))))
        obtain ⟨hs_, x2⟩ := x2
        rw [hs_]; clear hs_ σ'
        refine ok_aload 20 rfl rfl rfl (ok_getI 21 rfl rfl fl_X11_103 (sT ht) rfl (Or.inl rfl) (ok_callVI (M' := M_Ch_findFirst) (as := [_, _]) 22 rfl rfl ml_X11_223 (t_Ch_findFirst h.2.2.1 ⟨m1, m2⟩ x2 hS (by omega)) rfl rfl (Nat.le_of_ble_eq_true rfl) ⟨Nat.le_of_ble_eq_true rfl, Nat.le_of_ble_eq_true rfl⟩ rfl (Nat.le_of_ble_eq_true rfl) (fun τ z3 f => ?_)))
        obtain ⟨f1, f2, f3, f4, f5⟩ := f
        have fq : fr rgCh σ τ := f1.mono (fun c k w => by simp only [rgFf, rgCh] at w ⊢; omega)
        have hQ := QA_C h fq f2 (fun _ _ => ⟨f4, by omega, by omega⟩)
        have hok : okPr (tabA σ s) (σ (s.toNat + 2) 1) m r := ⟨⟨q1, q2, q3⟩, by unfold isL; omega, by omega, by omega⟩
        refine ok_if_eq 23 63 rfl rfl rfl (fun h48 => ?_) (fun h48 => ?_)
        · refine ok_iconst 30 rfl rfl (by decide) (ok_iret 31 rfl rfl rfl ?_)
          refine ⟨_, rfl, hQ, Or.inr ⟨hok, ?_⟩⟩
          rcases f5 with ⟨g1, g2⟩ | ⟨g1, g2, g3⟩
          · first | (exfalso; omega) | exact Or.inl ⟨g2, rfl⟩
          · first | (exfalso; omega) | exact Or.inr ⟨g2, fun i => τ 17 i, g3, rfl⟩
        · refine ok_aload_n 24 rfl rfl rfl (ok_getR 25 rfl rfl fl_X11_32 rfl rfl (ok_getR 26 rfl rfl fl_X11_227 rfl rfl (ok_iload_n 27 rfl rfl rfl (ok_iald 28 rfl rfl rfl (by first | omega | (simp [up_if]; omega) | (simp [up_if] at *; omega)) (ok_goto 29 64 rfl rfl rfl (ok_iret 31 rfl rfl rfl ?_))))))
          refine ⟨_, rfl, hQ, Or.inr ⟨hok, ?_⟩⟩
          rcases f5 with ⟨g1, g2⟩ | ⟨g1, g2, g3⟩
          · first | (exfalso; omega) | exact Or.inl ⟨g2, rfl⟩
          · first | (exfalso; omega) | exact Or.inr ⟨g2, fun i => τ 17 i, g3, rfl⟩
      · refine ok_iconst 13 rfl rfl (by decide) (ok_iret 14 rfl rfl rfl ?_)
        exact ⟨_, rfl, QA_rf h, Or.inl ⟨fun c => by have c2 := c.2.2; omega, rfl⟩⟩
theorem t_Mo_paired {σ : eS} {s l r : Int} (hB : iB1 σ) : MtI shB M_Mo_paired [vr 0, vi s, vi l, vi r] σ (fun σ' z => fr rgS σ σ' ∧ ((¬ okPr (tabB σ s) (σ 1 s) l r ∧ z = -1) ∨ (okPr (tabB σ s) (σ 1 s) l r ∧ paS (σ 1 s) (fun i j => l ≤ cB σ s i j) r z))) := by
  refine Mt.of okM_Mo_paired (Nat.le_of_ble_eq_true rfl) (fun hk hg => ?_)
  refine ok_aload_n 0 rfl rfl rfl (ok_iload_n 1 rfl rfl rfl (ok_callVI (M' := M_Mo_isTable) (as := [_]) 2 rfl rfl ml_X12_111 (s_Mo_isTable_r) rfl rfl (Nat.le_of_ble_eq_true rfl) ⟨Nat.le_of_ble_eq_true rfl, Nat.le_of_ble_eq_true rfl⟩ rfl (Nat.le_of_ble_eq_true rfl) (fun σ' z1 a1 => ?_)))
  obtain ⟨hs_, a1⟩ := a1
  rw [hs_]; clear hs_ σ'
  refine ok_if_eq 3 33 rfl rfl rfl (fun h5 => ?_) (fun h5 => ?_)
  · refine ok_iconst 19 rfl rfl (by decide) (ok_iret 20 rfl rfl rfl ?_)
    exact ⟨_, rfl, fr.rf, Or.inl ⟨fun c => no1 a1 h5 c.1, rfl⟩⟩
  · refine ok_iload_n 4 rfl rfl rfl (ok_callSI (M' := M_Mo_isLeast) (as := [_]) 5 rfl rfl ml_X12_343 (s_Mo_isLeast) ⟨Nat.le_of_ble_eq_true rfl, Nat.le_of_ble_eq_true rfl⟩ rfl (Nat.le_of_ble_eq_true rfl) (fun σ' z2 a2 => ?_))
    obtain ⟨hs_, a2⟩ := a2
    rw [hs_]; clear hs_ σ'
    refine ok_if_eq 6 33 rfl rfl rfl (fun h12 => ?_) (fun h12 => ?_)
    · refine ok_iconst 19 rfl rfl (by decide) (ok_iret 20 rfl rfl rfl ?_)
      exact ⟨_, rfl, fr.rf, Or.inl ⟨fun c => no1 a2 h12 c.2.1, rfl⟩⟩
    · obtain ⟨u1, u2, u3⟩ := yes1 a1 h5
      have tn := hB.1 s u1 u2
      refine ok_iload_n 7 rfl rfl rfl (ok_i2l 8 rfl rfl (ok_lconst (w := 0) 9 rfl rfl rfl (by decide) (ok_aload_n 10 rfl rfl rfl (ok_getR 11 rfl rfl fl_X12_7 rfl rfl (ok_iload_n 12 rfl rfl rfl (ok_iald 13 rfl rfl rfl (by first | omega | (simp [up_if]; omega) | (simp [up_if] at *; omega)) (ok_iconst 14 rfl rfl (by decide) (ok_isub 15 rfl rfl (by first | omega | (simp [up_if]; omega) | (simp [up_if] at *; omega)) (ok_i2l 16 rfl rfl (ok_callSI (M' := M_Mo_isIn) (as := [_, _, _]) 17 rfl rfl ml_X12_99 (s_Mo_isIn_r) ⟨Nat.le_of_ble_eq_true rfl, Nat.le_of_ble_eq_true rfl⟩ rfl (Nat.le_of_ble_eq_true rfl) (fun σ' z3 a3 => ?_)))))))))))
      obtain ⟨hs_, a3⟩ := a3
      rw [hs_]; clear hs_ σ'
      refine ok_if_ne 18 35 rfl rfl rfl (fun h30 => ?_) (fun h30 => ?_)
      · have f := wo_fr σ s (σ 1 s) (σ 1 s * σ 1 s)
        have hr := yes1 a3 h30
        have e22 := wo_22 σ s
        have hnW : nW (wo σ s (σ 1 s) (σ 1 s * σ 1 s)) := by unfold nW; rw [e22]; omega
        have hag := wo_wkB hB ⟨u1, u2, u3⟩
        have hok : okPr (tabB σ s) (σ 1 s) l r := ⟨⟨u1, u2, u3⟩, yes1 a2 h12, by omega, by omega⟩
        have he : ∀ i j, 0 ≤ i → i < σ 1 s → 0 ≤ j → j < σ 1 s → (opB (wo σ s (σ 1 s) (σ 1 s * σ 1 s)) l (-1) (-1) i j ↔ l ≤ cB σ s i j) := fun i j a b c d => by rw [opB_m i j a b c d, hag i j a b c d]
        refine ok_aload_n 21 rfl rfl rfl (ok_iload_n 22 rfl rfl rfl (ok_callVV (M' := M_Mo_worksOn) (as := [_]) 23 rfl rfl ml_X12_294 (s_Mo_worksOn hB ⟨u1, u2, u3⟩) rfl rfl (Nat.le_of_ble_eq_true rfl) ⟨Nat.le_of_ble_eq_true rfl, Nat.le_of_ble_eq_true rfl⟩ rfl (Nat.le_of_ble_eq_true rfl) (fun σ' hz => ?_)))
        rw [hz]
        clear hz σ'
        refine ok_aload_n 24 rfl rfl rfl (ok_iload_n 25 rfl rfl rfl (ok_iconst 26 rfl rfl (by decide) (ok_iconst 27 rfl rfl (by decide) (ok_callVI (M' := M_Mo_isChosen) (as := [_, _, _]) 28 rfl rfl ml_X12_260 (s_Mo_isChosen hnW) rfl rfl (Nat.le_of_ble_eq_true rfl) ⟨Nat.le_of_ble_eq_true rfl, Nat.le_of_ble_eq_true rfl⟩ rfl (Nat.le_of_ble_eq_true rfl) (fun σ' z hz => ?_)))))
        have g := f.tr hz.fr1
        rw [e22] at hz
        refine ok_if_eq 29 59 rfl rfl rfl (fun h47 => ?_) (fun h47 => ?_)
        · refine ok_iconst 35 rfl rfl (by decide) (ok_iret 36 rfl rfl rfl ?_)
          refine ⟨_, rfl, g, Or.inr ⟨hok, paS_cg ⟨by omega, by omega⟩ he ?_⟩⟩
          rcases hz with ⟨y1, y2, -⟩ | ⟨y1, y2, -, y3⟩
          · first | (exfalso; omega) | exact Or.inl ⟨y2, rfl⟩
          · first | (exfalso; omega) | exact Or.inr ⟨y2, fun i => σ' 11 i, lex_fst y3, rfl⟩
        · refine ok_aload_n 30 rfl rfl rfl (ok_getR 31 rfl rfl fl_X12_45 rfl rfl (ok_iload_n 32 rfl rfl rfl (ok_iald 33 rfl rfl rfl (by first | omega | (simp [up_if]; omega) | (simp [up_if] at *; omega)) (ok_goto 34 60 rfl rfl rfl (ok_iret 36 rfl rfl rfl ?_)))))
          refine ⟨_, rfl, g, Or.inr ⟨hok, paS_cg ⟨by omega, by omega⟩ he ?_⟩⟩
          rcases hz with ⟨y1, y2, -⟩ | ⟨y1, y2, -, y3⟩
          · first | (exfalso; omega) | exact Or.inl ⟨y2, rfl⟩
          · first | (exfalso; omega) | exact Or.inr ⟨y2, fun i => σ' 11 i, lex_fst y3, rfl⟩
      · refine ok_iconst 19 rfl rfl (by decide) (ok_iret 20 rfl rfl rfl ?_)
        exact ⟨_, rfl, fr.rf, Or.inl ⟨fun c => no1 a3 h30 (by have := c.2.2; omega), rfl⟩⟩
end
