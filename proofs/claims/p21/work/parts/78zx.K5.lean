/-! PEEL and SHOP, the class -/
theorem t_Mi_start {σ : eS} {a b c d : Int} : MtV shA M_Mi_start [vr 22, vi a, vi b, vi c, vi d] σ (fun σ' => fr (fun c k => c = 22 ∧ 2 ≤ k ∧ k ≤ 6) σ σ' ∧ σ' 22 2 = a ∧ σ' 22 3 = b ∧ σ' 22 4 = c ∧ σ' 22 5 = 0 ∧ σ' 22 6 = d) := by
  refine Mt.of okM_Mi_start (Nat.le_of_ble_eq_true rfl) (fun hk hg => ?_)
  refine ok_aload_n 0 rfl rfl rfl (ok_iload_n 1 rfl rfl rfl (ok_putI 2 rfl rfl fl_X3_18 rfl rfl rfl rfl (ok_aload_n 3 rfl rfl rfl (ok_iload_n 4 rfl rfl rfl (ok_putI 5 rfl rfl fl_X3_22 rfl rfl rfl rfl (ok_aload_n 6 rfl rfl rfl (ok_iload_n 7 rfl rfl rfl (ok_putI 8 rfl rfl fl_X3_25 rfl rfl rfl rfl (ok_aload_n 9 rfl rfl rfl (ok_iload 10 rfl rfl rfl (ok_putI 11 rfl rfl fl_X3_31 rfl rfl rfl rfl (ok_aload_n 12 rfl rfl rfl (ok_iconst 13 rfl rfl (by decide) (ok_putI 14 rfl rfl fl_X3_28 rfl rfl rfl rfl (ok_vret 15 rfl rfl rfl ?_)))))))))))))))
  exact ⟨rfl, fr_up (fr_up (fr_up (fr_up (fr_up fr.rf (by simp)) (by simp)) (by simp)) (by simp)) (by simp), by simp [up_if], by simp [up_if], by simp [up_if], by simp [up_if], by simp [up_if]⟩
abbrev rgPl : Nat → Int → Prop := fun c k => (16 ≤ c ∧ c ≤ 21) ∨ (c = 22 ∧ 2 ≤ k ∧ k ≤ 6) ∨ c = 23 ∨ c = 24
/-- parts are kept: kind, n, rows, whole and the parts -/
def mpA (σ σ' : eS) (kind n rows m r z : Int) (W : Int → Int → Int) : Prop := fr rgPl σ σ' ∧ iCh σ' ∧ cSe σ σ' 64 ∧ iMi σ' ∧ (σ' 22 2 = kind ∧ σ' 22 3 = n ∧ σ' 22 4 = rows ∧ σ' 22 5 = z ∧ σ' 22 6 = m) ∧ PE rows r W (fun q => σ' 23 q) (fun q i => σ' 24 (8 * q + i)) z
def evA (σ : eS) (s : Int) : Prop := 0 ≤ s ∧ s < 4 ∧ σ (s.toNat + 2) 3 ≠ -1
def okP (E : Prop) (r : Int) : Prop := E ∧ 0 ≤ r ∧ r ≤ 3
theorem evT_ev {σ : eS} {t : Nat} (hT : iT σ t) (h : evT σ t) : EvW (σ t 1) (cT σ t) (rowT σ t 0) := by
  refine ⟨fun i j a b c d => (cT_bd hT ⟨a, by have := hT.2.1; omega⟩ ⟨c, by have := hT.2.1; omega⟩).1, fun i a b => h.2.2.1 i a b, fun j a b => h.2.2.2 j a b⟩
def XpA (σ : eS) (s r : Int) (σ' : eS) (z : Int) : Prop := (¬ okP (evA σ s) r ∧ σ' = σ ∧ z = -1) ∨ (okP (evA σ s) r ∧ mpA σ σ' 1 (σ (s.toNat + 2) 1) (σ (s.toNat + 2) 1) (σ (s.toNat + 2) 3) r z (cT σ (s.toNat + 2)))
theorem t_Ev_peel {σ : eS} {s r : Int} (h : IA σ) (hS : iSe σ) (hS2 : σ 16 3 + 64 < 2147483647) : MtI shA M_Ev_peel [vr 0, vi s, vi r] σ (XpA σ s r) := by
  refine Mt.of okM_Ev_peel (Nat.le_of_ble_eq_true rfl) (fun hk hg => ?_)
  refine ok_aload_n 0 rfl rfl rfl (ok_iload_n 1 rfl rfl rfl (ok_callVR (M' := M_Ev_evenSlot) (as := [_]) 2 rfl rfl ml_X11_163 (s_Ev_evenSlot) rfl rfl (Nat.le_of_ble_eq_true rfl) ⟨Nat.le_of_ble_eq_true rfl, Nat.le_of_ble_eq_true rfl⟩ rfl (Nat.le_of_ble_eq_true rfl) (fun σ' z hz => ?_)))
  obtain ⟨hs_, hz⟩ := hz
  rw [hs_]; clear hs_ σ'
  rcases hz with ⟨q, q0⟩ | ⟨q1, q2, q, q3⟩
  · subst q
    refine ok_ast3 3 rfl rfl rfl (ok_aload_n 4 rfl rfl rfl (ok_ifnullN 5 17 rfl rfl rfl (ok_iconst 9 rfl rfl (by decide) (ok_iret 10 rfl rfl rfl ?_))))
    exact ⟨_, rfl, Or.inl ⟨fun c => q0 c.1, rfl, rfl⟩⟩
  · subst q
    have ht := sl_tA ⟨q1, q2⟩
    have nA := tA_10 ht
    obtain ⟨hT, hM⟩ := h.2.1 _ ht
    have hb := mT_bd hT hM q3
    have m2 := hT.2.1
    have hm := h.2.2.2.1
    obtain ⟨v1, v2⟩ : evT σ (s.toNat + 2) ∧ σ (s.toNat + 2) 3 = rowT σ (s.toNat + 2) 0 := by
      rcases hM with q | q
      · exact absurd q.1 q3
      · exact q
    have m1 := v1.1
    have hev := evT_ev hT v1
    rw [← v2] at hev
    refine ok_ast3 3 rfl rfl rfl (ok_aload_n 4 rfl rfl rfl (ok_ifnull 5 rfl rfl (ok_iload_n 6 rfl rfl rfl (ok_callSI (M' := M_Ev_isRule) (as := [_]) 7 rfl rfl ml_X11_166 (s_Ev_isRule) ⟨Nat.le_of_ble_eq_true rfl, Nat.le_of_ble_eq_true rfl⟩ rfl (Nat.le_of_ble_eq_true rfl) (fun σ' z1 x1 => ?_)))))
    obtain ⟨hs_, x1⟩ := x1
    rw [hs_]; clear hs_ σ'
    refine ok_if_ne 8 19 rfl rfl rfl (fun h14 => ?_) (fun h14 => ?_)
    · refine ok_aload_n 11 rfl rfl rfl (ok_getR 12 rfl rfl fl_X11_41 rfl rfl (ok_aload_n 13 rfl rfl rfl (ok_callVV (M' := M_Pe_startTable) (as := [_]) 14 rfl rfl ml_X11_169 (t_Pe_startTable (p := 20) (q := 21) (Or.inl ⟨rfl, rfl⟩) ht) rfl rfl (Nat.le_of_ble_eq_true rfl) ⟨Nat.le_of_ble_eq_true rfl, Nat.le_of_ble_eq_true rfl⟩ rfl (Nat.le_of_ble_eq_true rfl) (fun τ f => ?_))))
      obtain ⟨f1, f2, f3, f4, f5⟩ := f
      have e1 : τ (s.toNat + 2) 1 = σ (s.toNat + 2) 1 := f1 _ _ (by simp only [rgP0]; omega)
      have e3 : τ (s.toNat + 2) 3 = σ (s.toNat + 2) 3 := f1 _ _ (by simp only [rgP0]; omega)
      refine ok_aload_n 15 rfl rfl rfl (ok_getR 16 rfl rfl fl_X11_48 rfl rfl (ok_iconst 17 rfl rfl (by decide) (ok_aload_n 18 rfl rfl rfl (ok_getI 19 rfl rfl fl_X11_103 (sT ht) rfl (Or.inl rfl) (ok_aload_n 20 rfl rfl rfl (ok_getI 21 rfl rfl fl_X11_103 (sT ht) rfl (Or.inl rfl) (ok_aload_n 22 rfl rfl rfl (ok_getI 23 rfl rfl fl_X11_109 (sT ht) rfl (Or.inl rfl) (ok_callVV (M' := M_Mi_start) (as := [_, _, _, _]) 24 rfl rfl ml_X11_173 (t_Mi_start) rfl rfl (Nat.le_of_ble_eq_true rfl) ⟨Nat.le_of_ble_eq_true rfl, Nat.le_of_ble_eq_true rfl⟩ rfl (Nat.le_of_ble_eq_true rfl) (fun υ g => ?_))))))))))
      obtain ⟨g1, g2, g3, g4, g5, g6⟩ := g
      have k2 : υ 20 2 = σ (s.toNat + 2) 1 := by rw [g1 20 2 (by simp), f2]
      have k3 : υ 20 3 = σ (s.toNat + 2) 3 := by rw [g1 20 3 (by simp), f3]
      have F : fr rgPl σ υ := (f1.mono (fun c k w => by simp only [rgP0, rgPl] at w ⊢; omega)).tr (g1.mono (fun c k w => by simp only [rgPl]; omega))
      have M : iMi υ := ⟨by omega, fun k a b => by omega, fun k a b => by rw [g1 24 k (by simp), f1 24 k (by simp [rgP0])]; exact hm.2.2.1 k a b, by rw [g5, g6]; show (0 : Int) ≤ _; omega⟩
      have C : iCh υ := iCh_cg h.2.2.1 (fun k => by rw [g1 17 k (by simp), f1 17 k (by simp [rgP0])])
      have c16 : υ 16 3 = σ 16 3 := by rw [g1 16 3 (by simp), f1 16 3 (by simp [rgP0])]
      have SS : iSe υ := iSe_cg hS c16 (fun k => by rw [g1 19 k (by simp), f1 19 k (by simp [rgP0])])
      have B : bd64 υ 21 := fun k a b => by rw [g1 21 k (by simp), f5 k a b]; have := hT.2.2.2 k a b; omega
      have G : ag (σ (s.toNat + 2) 1) (pk υ 21) (cT σ (s.toNat + 2)) := fun i j a b c d => by
        unfold pk cT
        rw [g1 21 _ (by simp), f5 _ (by omega) (by omega)]
      refine ok_aload_n 25 rfl rfl rfl (ok_iload_n 26 rfl rfl rfl (ok_callVI (M' := M_Ev_keepParts) (as := [_]) 27 rfl rfl ml_X11_177 (t_Ev_keepParts (n := σ (s.toNat + 2) 1) (m := σ (s.toNat + 2) 3) (by omega) ⟨by omega, m2⟩ C SS (by omega) k2 B k3 ⟨by omega, by omega⟩ (EvW_cg hev (fun i j a b c d => G i j a b c d)) M g5 (by rw [g6, e3])) rfl rfl (Nat.le_of_ble_eq_true rfl) ⟨Nat.le_of_ble_eq_true rfl, Nat.le_of_ble_eq_true rfl⟩ rfl (Nat.le_of_ble_eq_true rfl) (fun ω z2 w => ?_)))
      refine ok_iret 28 rfl rfl rfl ?_
      obtain ⟨w1, w2, ⟨w3, w4, w5⟩, w6, w7, w8⟩ := w
      refine ⟨_, rfl, Or.inr ⟨⟨⟨q1, q2, q3⟩, by omega⟩, F.tr (w1.mono (fun c k w => by simp only [rgKq, rgPl] at w ⊢; omega)), w2, ⟨w3, by omega, by omega⟩, w6, ⟨?_, ?_, ?_, w7.symm, ?_⟩, PE_w0 G w8⟩⟩
      · rw [w1 22 2 (by simp [rgKq]), g2]
      · rw [w1 22 3 (by simp [rgKq]), g3, e1]
      · rw [w1 22 4 (by simp [rgKq]), g4, e1]
      · rw [w1 22 6 (by simp [rgKq]), g6, e3]
    · refine ok_iconst 9 rfl rfl (by decide) (ok_iret 10 rfl rfl rfl ?_)
      exact ⟨_, rfl, Or.inl ⟨fun c => by have := c.2; omega, rfl, rfl⟩⟩
/-- is there a cell above 0 -/
def anyP (n : Int) (c : Int → Int → Int) : Prop := ∃ i j, (0 ≤ i ∧ i < n) ∧ (0 ≤ j ∧ j < n) ∧ 0 < c i j
theorem t_Ta_greatestCell {σ : eS} {t : Nat} (ht : tA t) (hT : iT σ t) : MtI shA M_Ta_greatestCell [vr t] σ (fun σ' z => σ' = σ ∧ 0 ≤ z ∧ (z = 0 ↔ ¬ anyP (σ t 1) (cT σ t))) := by
  refine Mt.of okM_Ta_greatestCell (Nat.le_of_ble_eq_true rfl) (fun hk hg => ?_)
  have hn := hT.1
  have hn2 := hT.2.1
  refine ok_iconst 0 rfl rfl (by decide) (ok_ist1 1 rfl rfl rfl (ok_iconst 2 rfl rfl (by decide) (ok_ist2 3 rfl rfl rfl ?_)))
  refine lpO2 (fun v i : Int => [some (vr t), some (vi v), some (vi i), none]) (fun _ _ => σ) (fun v i => (0 ≤ i ∧ i ≤ σ t 1 ∧ 0 ≤ v) ∧ (0 < v → anyP (σ t 1) (cT σ t)) ∧ ∀ x y, 0 ≤ x → x < i → 0 ≤ y → y < σ t 1 → cT σ t x y ≤ v) (fun _ i => (8 - i).toNat) ?_ 0 0 ⟨⟨by omega, by omega, by omega⟩, fun q => by omega, fun x y a b => by omega⟩
  rintro v i ⟨⟨i1, i2, v1⟩, v2, v3⟩ ih
  refine ok_iload_n 4 rfl rfl rfl (ok_aload_n 5 rfl rfl rfl (ok_getI 6 rfl rfl fl_X9_15 (sT ht) rfl (Or.inl rfl) (ok_icmp_ge 7 50 rfl rfl rfl (fun h9 => ?_) (fun h9 => ?_))))
  · refine ok_iload_n 29 rfl rfl rfl (ok_iret 30 rfl rfl rfl ?_)
    refine ⟨_, rfl, rfl, v1, ⟨fun q => ?_, fun q => ?_⟩⟩
    · rintro ⟨x, y, a, b, c⟩
      have := v3 x y a.1 (by omega) b.1 b.2
      omega
    · by_cases w : 0 < v
      · exact absurd (v2 w) q
      · omega
  · refine ok_iconst 8 rfl rfl (by decide) (ok_ist3 9 rfl rfl rfl ?_)
    have il : i < σ t 1 := by omega
    refine lpO2 (fun v j : Int => [some (vr t), some (vi v), some (vi i), some (vi j)]) (fun _ _ => σ) (fun v j => (0 ≤ j ∧ j ≤ σ t 1 ∧ 0 ≤ v) ∧ (0 < v → anyP (σ t 1) (cT σ t)) ∧ ∀ x y, 0 ≤ x → 0 ≤ y → y < σ t 1 → (x < i ∨ (x = i ∧ y < j)) → cT σ t x y ≤ v) (fun _ j => (8 - j).toNat) ?_ v 0 ⟨⟨by omega, by omega, v1⟩, v2, fun x y a b c d => v3 x y a (by omega) b c⟩
    clear v1 v2 v3 v
    rintro v j ⟨⟨j1, j2, v1⟩, v2, v3⟩ ih2
    refine ok_iload_n 10 rfl rfl rfl (ok_aload_n 11 rfl rfl rfl (ok_getI 12 rfl rfl fl_X9_15 (sT ht) rfl (Or.inl rfl) (ok_icmp_ge 13 44 rfl rfl rfl (fun h19 => ?_) (fun h19 => ?_))))
    · refine ok_inc2 27 rfl rfl rfl (by first | omega | (simp [up_if]; omega) | (simp [up_if] at *; omega)) (ok_goto 28 4 rfl rfl rfl ?_)
      exact ok_fg [some (vr t), some (vi _), some (vi (i + 1)), none] ⟨rfl, rfl, rfl, trivial⟩ (ih _ (i + 1) ⟨⟨by omega, by omega, v1⟩, v2, fun x y a b c d => v3 x y a c d (by omega)⟩ (by omega))
    · refine ok_iload_n 14 rfl rfl rfl (ok_aload_n 15 rfl rfl rfl (ok_getR 16 rfl rfl fl_X9_9 (sT ht) rfl (ok_iload_n 17 rfl rfl rfl (ok_bipush 18 rfl rfl (by decide) (by decide) (ok_imul 19 rfl rfl (by first | omega | (simp [up_if]; omega) | (simp [up_if] at *; omega)) (ok_iload_n 20 rfl rfl rfl (ok_iadd 21 rfl rfl (by first | omega | (simp [up_if]; omega) | (simp [up_if] at *; omega)) (ok_iald 22 rfl rfl (sC ht) (by first | omega | (simp [up_if]; omega) | (simp [up_if] at *; omega)) (ok_mmax 23 rfl rfl ml_X9_42 ⟨Nat.le_of_ble_eq_true rfl, Nat.le_of_ble_eq_true rfl⟩ (ok_ist1 24 rfl rfl rfl (ok_inc3 25 rfl rfl rfl (by first | omega | (simp [up_if]; omega) | (simp [up_if] at *; omega)) (ok_goto 26 14 rfl rfl rfl ?_))))))))))))
      obtain ⟨x, ex⟩ : ∃ x, x = σ (t + 4) (i * 8 + j) := ⟨_, rfl⟩
      rw [← ex]
      refine ih2 _ (j + 1) ⟨⟨by omega, by omega, by omega⟩, fun q => ?_, fun a b a1 b1 b2 s => ?_⟩ (by omega)
      · by_cases w : 0 < v
        · exact v2 w
        · exact ⟨i, j, ⟨i1, il⟩, ⟨j1, by omega⟩, by unfold cT; rw [← ex]; omega⟩
      · by_cases w : a = i ∧ b = j
        · rw [w.1, w.2]; unfold cT; rw [← ex]; omega
        · have := v3 a b a1 b1 b2 (by omega); omega
theorem shW_ev {σ : eS} {t : Nat} {L : Int} (hT : iT σ t) (h : grS (rowT σ t) (colT σ t) (σ t 1) L) : EvW (2 * σ t 1) (shW σ t L) L :=
  tg_ev hT.1 (fun i j a b c d => (cT_bd hT ⟨a, by have := hT.2.1; omega⟩ ⟨c, by have := hT.2.1; omega⟩).1) (fun i a b => (h.1 i a b).1) (fun i a b => (h.1 i a b).2)
theorem gr_pos {σ : eS} {t : Nat} {L : Int} (hT : iT σ t) (h : grS (rowT σ t) (colT σ t) (σ t 1) L) (ha : anyP (σ t 1) (cT σ t)) : 1 ≤ L := by
  obtain ⟨i, j, a, b, c⟩ := ha
  have m2 := hT.2.1
  have x := sm_le (f := fun j => cT σ t i j) (n := (σ t 1).toNat) (fun k p q => (cT_bd hT ⟨a.1, by omega⟩ ⟨p, by omega⟩).1) j b.1 (by omega)
  have y := (h.1 i a.1 a.2).1
  unfold rowT at y
  try dsimp only at x
  omega
def okS (T A : Prop) (n r : Int) : Prop := T ∧ n ≤ 4 ∧ A ∧ 0 ≤ r ∧ r ≤ 3
def XsA (σ : eS) (s r : Int) (σ' : eS) (z : Int) : Prop := (¬ okS (tabA σ s) (anyP (σ (s.toNat + 2) 1) (cT σ (s.toNat + 2))) (σ (s.toNat + 2) 1) r ∧ σ' = σ ∧ z = -1) ∨ (okS (tabA σ s) (anyP (σ (s.toNat + 2) 1) (cT σ (s.toNat + 2))) (σ (s.toNat + 2) 1) r ∧ ∃ L, grS (rowT σ (s.toNat + 2)) (colT σ (s.toNat + 2)) (σ (s.toNat + 2) 1) L ∧ mpA σ σ' 2 (σ (s.toNat + 2) 1) (2 * σ (s.toNat + 2) 1) L r z (shW σ (s.toNat + 2) L))
theorem t_Ev_shop {σ : eS} {s r : Int} (h : IA σ) (hS : iSe σ) (hS2 : σ 16 3 + 64 < 2147483647) : MtI shA M_Ev_shop [vr 0, vi s, vi r] σ (XsA σ s r) := by
  refine Mt.of okM_Ev_shop (Nat.le_of_ble_eq_true rfl) (fun hk hg => ?_)
  refine ok_aload_n 0 rfl rfl rfl (ok_iload_n 1 rfl rfl rfl (ok_callVR (M' := M_Ev_filledSlot) (as := [_]) 2 rfl rfl ml_X11_137 (s_Ev_filledSlot) rfl rfl (Nat.le_of_ble_eq_true rfl) ⟨Nat.le_of_ble_eq_true rfl, Nat.le_of_ble_eq_true rfl⟩ rfl (Nat.le_of_ble_eq_true rfl) (fun σ' z hz => ?_)))
  obtain ⟨hs_, hz⟩ := hz
  rw [hs_]; clear hs_ σ'
  rcases hz with ⟨q, q0⟩ | ⟨q1, q2, q, q3⟩
  · subst q
    refine ok_ast3 3 rfl rfl rfl (ok_aload_n 4 rfl rfl rfl (ok_ifnullN 5 32 rfl rfl rfl (ok_iconst 16 rfl rfl (by decide) (ok_iret 17 rfl rfl rfl ?_))))
    exact ⟨_, rfl, Or.inl ⟨fun c => q0 c.1, rfl, rfl⟩⟩
  · subst q
    have ht := sl_tA ⟨q1, q2⟩
    have nA := tA_10 ht
    obtain ⟨hT, hM⟩ := h.2.1 _ ht
    have m1 := hT.1
    have hm := h.2.2.2.1
    refine ok_ast3 3 rfl rfl rfl (ok_aload_n 4 rfl rfl rfl (ok_ifnull 5 rfl rfl (ok_aload_n 6 rfl rfl rfl (ok_getI 7 rfl rfl fl_X11_103 (sT ht) rfl (Or.inl rfl) (ok_iconst 8 rfl rfl (by decide) (ok_icmp_gt 9 32 rfl rfl rfl (fun h15 => ?_) (fun h15 => ?_)))))))
    · refine ok_iconst 16 rfl rfl (by decide) (ok_iret 17 rfl rfl rfl ?_)
      exact ⟨_, rfl, Or.inl ⟨fun c => by have := c.2.1; omega, rfl, rfl⟩⟩
    · refine ok_aload_n 10 rfl rfl rfl (ok_callVI (M' := M_Ta_greatestCell) (as := []) 11 rfl rfl ml_X11_116 (t_Ta_greatestCell ht hT) (sT ht) rfl (Nat.le_of_ble_eq_true rfl) ⟨Nat.le_of_ble_eq_true rfl, Nat.le_of_ble_eq_true rfl⟩ rfl (Nat.le_of_ble_eq_true rfl) (fun σ' z0 x0 => ?_))
      obtain ⟨hs_, x0⟩ := x0
      rw [hs_]; clear hs_ σ'
      refine ok_if_eq 12 32 rfl rfl rfl (fun h22 => ?_) (fun h22 => ?_)
      · refine ok_iconst 16 rfl rfl (by decide) (ok_iret 17 rfl rfl rfl ?_)
        exact ⟨_, rfl, Or.inl ⟨fun c => x0.2.mp h22 c.2.2.1, rfl, rfl⟩⟩
      · refine ok_iload_n 13 rfl rfl rfl (ok_callSI (M' := M_Ev_isRule) (as := [_]) 14 rfl rfl ml_X11_166 (s_Ev_isRule) ⟨Nat.le_of_ble_eq_true rfl, Nat.le_of_ble_eq_true rfl⟩ rfl (Nat.le_of_ble_eq_true rfl) (fun σ' z1 x1 => ?_))
        obtain ⟨hs_, x1⟩ := x1
        rw [hs_]; clear hs_ σ'
        refine ok_if_ne 15 34 rfl rfl rfl (fun h29 => ?_) (fun h29 => ?_)
        · refine ok_aload_n 18 rfl rfl rfl (ok_getR 19 rfl rfl fl_X11_41 rfl rfl (ok_aload_n 20 rfl rfl rfl (ok_callVV (M' := M_Pe_startShop) (as := [_]) 21 rfl rfl ml_X11_294 (t_Pe_startShop (p := 20) (q := 21) (Or.inl ⟨rfl, rfl⟩) ht hT (by omega)) rfl rfl (Nat.le_of_ble_eq_true rfl) ⟨Nat.le_of_ble_eq_true rfl, Nat.le_of_ble_eq_true rfl⟩ rfl (Nat.le_of_ble_eq_true rfl) (fun τ f => ?_))))
          obtain ⟨f1, f2, f3, f4, f5, f6, f7⟩ := f
          have ha : anyP (σ (s.toNat + 2) 1) (cT σ (s.toNat + 2)) := Classical.byContradiction (fun c => h22 (x0.2.mpr c))
          have hL := gr_pos hT f6 ha
          have e1 : τ (s.toNat + 2) 1 = σ (s.toNat + 2) 1 := f1 _ _ (by simp only [rgP0]; omega)
          refine ok_aload_n 22 rfl rfl rfl (ok_getR 23 rfl rfl fl_X11_48 rfl rfl (ok_iconst 24 rfl rfl (by decide) (ok_aload_n 25 rfl rfl rfl (ok_getI 26 rfl rfl fl_X11_103 (sT ht) rfl (Or.inl rfl) (ok_iconst 27 rfl rfl (by decide) (ok_aload_n 28 rfl rfl rfl (ok_getI 29 rfl rfl fl_X11_103 (sT ht) rfl (Or.inl rfl) (ok_imul 30 rfl rfl (by first | omega | (simp [up_if]; omega) | (simp [up_if] at *; omega)) (ok_aload_n 31 rfl rfl rfl (ok_getR 32 rfl rfl fl_X11_41 rfl rfl (ok_getI 33 rfl rfl fl_X11_297 rfl rfl (Or.inl rfl) (ok_callVV (M' := M_Mi_start) (as := [_, _, _, _]) 34 rfl rfl ml_X11_173 (t_Mi_start) rfl rfl (Nat.le_of_ble_eq_true rfl) ⟨Nat.le_of_ble_eq_true rfl, Nat.le_of_ble_eq_true rfl⟩ rfl (Nat.le_of_ble_eq_true rfl) (fun υ g => ?_)))))))))))))
          obtain ⟨g1, g2, g3, g4, g5, g6⟩ := g
          have k2 : υ 20 2 = 2 * σ (s.toNat + 2) 1 := by rw [g1 20 2 (by simp), f3]
          have k3 : υ 20 3 = τ 20 3 := g1 20 3 (by simp)
          have F : fr rgPl σ υ := (f1.mono (fun c k w => by simp only [rgP0, rgPl] at w ⊢; omega)).tr (g1.mono (fun c k w => by simp only [rgPl]; omega))
          have M : iMi υ := ⟨by omega, fun k a b => by omega, fun k a b => by rw [g1 24 k (by simp), f1 24 k (by simp [rgP0])]; exact hm.2.2.1 k a b, by rw [g5, g6]; show (0 : Int) ≤ _; omega⟩
          have C : iCh υ := iCh_cg h.2.2.1 (fun k => by rw [g1 17 k (by simp), f1 17 k (by simp [rgP0])])
          have c16 : υ 16 3 = σ 16 3 := by rw [g1 16 3 (by simp), f1 16 3 (by simp [rgP0])]
          have SS : iSe υ := iSe_cg hS c16 (fun k => by rw [g1 19 k (by simp), f1 19 k (by simp [rgP0])])
          have B : bd64 υ 21 := fun k a b => by rw [g1 21 k (by simp)]; exact f2 k a b
          have G : ag (2 * σ (s.toNat + 2) 1) (pk υ 21) (shW σ (s.toNat + 2) (τ 20 3)) := fun i j a b c d => by
            rw [← f7 i j a b c d]
            exact g1 21 _ (by simp)
          have E := EvW_cg (shW_ev hT f6) (fun i j a b c d => G i j a b c d)
          refine ok_aload_n 35 rfl rfl rfl (ok_iload_n 36 rfl rfl rfl (ok_callVI (M' := M_Ev_keepParts) (as := [_]) 37 rfl rfl ml_X11_177 (t_Ev_keepParts (n := 2 * σ (s.toNat + 2) 1) (m := τ 20 3) (by omega) ⟨by omega, by omega⟩ C SS (by omega) k2 B k3 ⟨by omega, by omega⟩ E M g5 g6) rfl rfl (Nat.le_of_ble_eq_true rfl) ⟨Nat.le_of_ble_eq_true rfl, Nat.le_of_ble_eq_true rfl⟩ rfl (Nat.le_of_ble_eq_true rfl) (fun ω z2 w => ?_)))
          refine ok_iret 38 rfl rfl rfl ?_
          obtain ⟨w1, w2, ⟨w3, w4, w5⟩, w6, w7, w8⟩ := w
          refine ⟨_, rfl, Or.inr ⟨⟨⟨q1, q2, q3⟩, by omega, ha, by omega⟩, τ 20 3, f6, F.tr (w1.mono (fun c k w => by simp only [rgKq, rgPl] at w ⊢; omega)), w2, ⟨w3, by omega, by omega⟩, w6, ⟨?_, ?_, ?_, w7.symm, ?_⟩, PE_w0 G w8⟩⟩
          · rw [w1 22 2 (by simp [rgKq]), g2]
          · rw [w1 22 3 (by simp [rgKq]), g3, e1]
          · rw [w1 22 4 (by simp [rgKq]), g4, e1]
          · rw [w1 22 6 (by simp [rgKq]), g6]
        · refine ok_iconst 16 rfl rfl (by decide) (ok_iret 17 rfl rfl rfl ?_)
          exact ⟨_, rfl, Or.inl ⟨fun c => by have := c.2.2.2; omega, rfl, rfl⟩⟩
