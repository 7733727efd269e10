/-! what is read off a table by its choices: the class and the reference -/
theorem t_Ev_permanent {σ : eS} {s : Int} (h : IA σ) : MtL shA M_Ev_permanent [vr 0, vi s] σ (fun σ' z => QA σ σ' ∧ ((¬ tabA σ s ∧ z = -1) ∨ (tabA σ s ∧ pmA (σ (s.toNat + 2) 1) (cT σ (s.toNat + 2)) z))) := by
  refine Mt.of okM_Ev_permanent (Nat.le_of_ble_eq_true rfl) (fun hk hg => ?_)
  refine ok_aload_n 0 rfl rfl rfl (ok_iload_n 1 rfl rfl rfl (ok_callVR (M' := M_Ev_filledSlot) (as := [_]) 2 rfl rfl ml_X11_137 (s_Ev_filledSlot) rfl rfl (Nat.le_of_ble_eq_true rfl) ⟨Nat.le_of_ble_eq_true rfl, Nat.le_of_ble_eq_true rfl⟩ rfl (Nat.le_of_ble_eq_true rfl) (fun σ' z hz => ?_)))
  obtain ⟨hs_, hz⟩ := hz
  rw [hs_]; clear hs_ σ'
  rcases hz with ⟨q, q0⟩ | ⟨q1, q2, q, q3⟩
  · subst q
    refine ok_ast2 3 rfl rfl rfl (ok_aload_n 4 rfl rfl rfl (ok_ifnonnullN 5 rfl rfl (ok_ldc2 6 (-1) rfl rfl kc_X11_238 (by decide) (ok_goto 7 31 rfl rfl rfl (ok_lret 15 rfl rfl rfl ?_)))))
    exact ⟨_, rfl, QA_rf h, Or.inl ⟨q0, rfl⟩⟩
  · subst q
    have ht := sl_tA ⟨q1, q2⟩
    have hT := (h.2.1 _ ht).1
    have n := tA_10 ht
    refine ok_ast2 3 rfl rfl rfl (ok_aload_n 4 rfl rfl rfl (ok_ifnonnull 5 16 rfl rfl rfl (ok_aload_n 8 rfl rfl rfl (ok_getR 9 rfl rfl fl_X11_32 rfl rfl (ok_aload_n 10 rfl rfl rfl (ok_getR 11 rfl rfl fl_X11_133 (sT ht) rfl (ok_aload_n 12 rfl rfl rfl (ok_getI 13 rfl rfl fl_X11_103 (sT ht) rfl (Or.inl rfl) (ok_callVL (M' := M_Ch_multiplyAll) (as := [_, _]) 14 rfl rfl ml_X11_243 (t_Ch_multiplyAll (sC ht) ⟨hT.1, hT.2.1⟩ (by omega) (fun k a b => by have := hT.2.2.2 k a b; omega)) rfl rfl (Nat.le_of_ble_eq_true rfl) ⟨Nat.le_of_ble_eq_true rfl, Nat.le_of_ble_eq_true rfl⟩ rfl (Nat.le_of_ble_eq_true rfl) (fun τ z3 f => ?_))))))))))
    refine ok_lret 15 rfl rfl rfl ?_
    exact ⟨_, rfl, QA_18 h f.1, Or.inr ⟨⟨q1, q2, q3⟩, f.2⟩⟩
theorem t_Mo_permanent {σ : eS} {s : Int} (hB : iB1 σ) : MtL shB M_Mo_permanent [vr 0, vi s] σ (fun σ' z => fr rgU σ σ' ∧ ((¬ tabB σ s ∧ z = -1) ∨ (tabB σ s ∧ pmA (σ 1 s) (cB σ s) z))) := by
  refine Mt.of okM_Mo_permanent (Nat.le_of_ble_eq_true rfl) (fun hk hg => ?_)
  refine ok_aload_n 0 rfl rfl rfl (ok_iload_n 1 rfl rfl rfl (ok_callVI (M' := M_Mo_isTable) (as := [_]) 2 rfl rfl ml_X12_111 (s_Mo_isTable_r) rfl rfl (Nat.le_of_ble_eq_true rfl) ⟨Nat.le_of_ble_eq_true rfl, Nat.le_of_ble_eq_true rfl⟩ rfl (Nat.le_of_ble_eq_true rfl) (fun σ' z1 a1 => ?_)))
  obtain ⟨hs_, a1⟩ := a1
  rw [hs_]; clear hs_ σ'
  refine ok_if_ne 3 12 rfl rfl rfl (fun h5 => ?_) (fun h5 => ?_)
  · have ht := yes1 a1 h5
    obtain ⟨u1, u2, u3⟩ := id ht
    have tn := hB.1 s u1 u2
    obtain ⟨z1, z2, z3, -⟩ := bit2 (n := σ 1 s) ⟨by omega, by omega⟩
    have ew : smW σ s 0 0 = cB σ s := by funext i j; unfold smW; rw [if_pos rfl]
    refine ok_aload_n 6 rfl rfl rfl (ok_iload_n 7 rfl rfl rfl (ok_iconst 8 rfl rfl (by decide) (ok_iconst 9 rfl rfl (by decide) (ok_callVI (M' := M_Mo_isSummed) (as := [_, _, _]) 10 rfl rfl ml_X12_349 (t_Mo_isSummed hB ht) rfl rfl (Nat.le_of_ble_eq_true rfl) ⟨Nat.le_of_ble_eq_true rfl, Nat.le_of_ble_eq_true rfl⟩ rfl (Nat.le_of_ble_eq_true rfl) (fun σ' z hz => ?_)))))
    rw [ew] at hz
    have e1 : σ' 1 s = σ 1 s := hz.1 1 s (by simp [rgU])
    refine ok_if_eq 11 40 rfl rfl rfl (fun h19 => ?_) (fun h19 => ?_)
    · refine ok_ldc2 24 (-2) rfl rfl kc_X12_355 (by decide) (ok_lret 25 rfl rfl rfl ?_)
      refine ⟨_, rfl, hz.1, Or.inr ⟨ht, ?_⟩⟩
      rcases hz.2 with ⟨y1, T, y2, y3, y4⟩ | ⟨y1, y2⟩
      · first | omega | exact Or.inl ⟨rfl, T, y2, y3, y4⟩
      · first | omega | exact Or.inr ⟨(y2 _ (by omega) (by omega)).1, fun k a b => (y2 k a b).2⟩
    · refine ok_aload_n 12 rfl rfl rfl (ok_getR 13 rfl rfl fl_X12_72 rfl rfl (ok_iconst 14 rfl rfl (by decide) (ok_aload_n 15 rfl rfl rfl (ok_getR 16 rfl rfl fl_X12_7 rfl rfl (ok_iload_n 17 rfl rfl rfl (ok_iald 18 rfl rfl rfl (by first | omega | (simp [up_if]; omega) | (simp [up_if] at *; omega)) (ok_ishl 19 rfl rfl ?_)))))))
      rw [e1, z1]
      refine ok_iconst 20 rfl rfl (by decide) (ok_isub 21 rfl rfl (by first | omega | (simp [up_if]; omega) | (simp [up_if] at *; omega)) (ok_lald 22 rfl rfl rfl (by omega) (ok_goto 23 43 rfl rfl rfl (ok_lret 25 rfl rfl rfl ?_))))
      refine ⟨_, rfl, hz.1, Or.inr ⟨ht, ?_⟩⟩
      rcases hz.2 with ⟨y1, T, y2, y3, y4⟩ | ⟨y1, y2⟩
      · first | omega | exact Or.inl ⟨rfl, T, y2, y3, y4⟩
      · first | omega | exact Or.inr ⟨(y2 _ (by omega) (by omega)).1, fun k a b => (y2 k a b).2⟩
  · refine ok_ldc2 4 (-1) rfl rfl kc_X12_219 (by decide) (ok_lret 5 rfl rfl rfl ?_)
    exact ⟨_, rfl, fr.rf, Or.inl ⟨no1 a1 h5, rfl⟩⟩
def wdA (n : Int) (op : Int → Int → Prop) (w : Int → Int → Int) (z : Int) : Prop := ∃ v : Int → Int, v (p2 n - 1) = 9223372036854775807 ∧ (∀ T, 0 ≤ T → T < p2 n - 1 → dpO n 0 op w v T) ∧ z = v 0
theorem wdA_un {n : Int} {op op' : Int → Int → Prop} {w w' : Int → Int → Int} {z z' : Int} (hn : 1 ≤ n ∧ n ≤ 8) (he : ∀ i j, 0 ≤ i → i < n → 0 ≤ j → j < n → (op i j ↔ op' i j)) (hw : ∀ i j, 0 ≤ i → i < n → 0 ≤ j → j < n → w i j = w' i j) (h : wdA n op w z) (h' : wdA n op' w' z') : z = z' := by
  have b := bit2 (n := n) ⟨by omega, hn.2⟩
  obtain ⟨v, a1, a2, a3⟩ := h
  obtain ⟨v', b1, b2, b3⟩ := h'
  rw [a3, b3]
  exact dpO_un (n := n) ⟨by omega, hn.2⟩ he hw (by rw [a1, b1]) a2 b2 0 (by omega) (by omega)
def bsA (n : Int) (op : Int → Int → Prop) (w : Int → Int → Int) (q z : Int) : Prop := ∃ v ch : Int → Int, v (p2 n - 1) = 0 ∧ (∀ T, 0 ≤ T → T < p2 n - 1 → dpO n 1 op w v T) ∧ fstC n (rcG op w v) ch ∧ z = if q = 0 then v 0 else ch (q - 10)
theorem bsA_un {n : Int} {op op' : Int → Int → Prop} {w w' : Int → Int → Int} {q z z' : Int} (hn : 1 ≤ n ∧ n ≤ 8) (hq : q ≠ 0 → 0 ≤ q - 10 ∧ q - 10 < n) (he : ∀ i j, 0 ≤ i → i < n → 0 ≤ j → j < n → (op i j ↔ op' i j)) (hw : ∀ i j, 0 ≤ i → i < n → 0 ≤ j → j < n → w i j = w' i j) (h : bsA n op w q z) (h' : bsA n op' w' q z') : z = z' := by
  have b := bit2 (n := n) ⟨by omega, hn.2⟩
  obtain ⟨v, ch, a1, a2, a3, a4⟩ := h
  obtain ⟨v', ch', b1, b2, b3, b4⟩ := h'
  have ev := dpO_un (n := n) ⟨by omega, hn.2⟩ he hw (by rw [a1, b1]) a2 b2
  rw [a4, b4]
  by_cases c : q = 0
  · rw [if_pos c, if_pos c]; exact ev 0 (by omega) (by omega)
  · rw [if_neg c, if_neg c]
    exact rc_un (n := n) ⟨by omega, hn.2⟩ he hw ev a3 b3 _ (hq c).1 (hq c).2
theorem t_Ev_widest {σ : eS} {s : Int} (h : IA σ) : MtI shA M_Ev_widest [vr 0, vi s] σ (fun σ' z => QA σ σ' ∧ ((¬ tabA σ s ∧ z = -1) ∨ (tabA σ s ∧ wdA (σ (s.toNat + 2) 1) (fun i j => 0 ≤ cT σ (s.toNat + 2) i j) (cT σ (s.toNat + 2)) z))) := by
  refine Mt.of okM_Ev_widest (Nat.le_of_ble_eq_true rfl) (fun hk hg => ?_)
  refine ok_aload_n 0 rfl rfl rfl (ok_iload_n 1 rfl rfl rfl (ok_callVR (M' := M_Ev_filledSlot) (as := [_]) 2 rfl rfl ml_X11_137 (s_Ev_filledSlot) rfl rfl (Nat.le_of_ble_eq_true rfl) ⟨Nat.le_of_ble_eq_true rfl, Nat.le_of_ble_eq_true rfl⟩ rfl (Nat.le_of_ble_eq_true rfl) (fun σ' z hz => ?_)))
  obtain ⟨hs_, hz⟩ := hz
  rw [hs_]; clear hs_ σ'
  rcases hz with ⟨q, q0⟩ | ⟨q1, q2, q, q3⟩
  · subst q
    refine ok_ast2 3 rfl rfl rfl (ok_aload_n 4 rfl rfl rfl (ok_ifnonnullN 5 rfl rfl (ok_iconst 6 rfl rfl (by decide) (ok_goto 7 35 rfl rfl rfl (ok_iret 19 rfl rfl rfl ?_)))))
    exact ⟨_, rfl, QA_rf h, Or.inl ⟨q0, rfl⟩⟩
  · subst q
    have ht := sl_tA ⟨q1, q2⟩
    have hT := (h.2.1 _ ht).1
    have n := tA_10 ht
    have n1 := hT.1
    have b2 := bit2 (n := σ (s.toNat + 2) 1) ⟨hT.1, hT.2.1⟩
    have b24 := b2.2.2.2 (by omega)
    refine ok_ast2 3 rfl rfl rfl (ok_aload_n 4 rfl rfl rfl (ok_ifnonnull 5 14 rfl rfl rfl (ok_aload_n 8 rfl rfl rfl (ok_getR 9 rfl rfl fl_X11_32 rfl rfl (ok_aload_n 10 rfl rfl rfl (ok_getR 11 rfl rfl fl_X11_133 (sT ht) rfl (ok_aload_n 12 rfl rfl rfl (ok_iconst 13 rfl rfl (by decide) (ok_callVL (M' := M_Ta_joinedBy) (as := [_]) 14 rfl rfl ml_X11_119 (t_Ta_joinedBy ht hT) (sT ht) rfl (Nat.le_of_ble_eq_true rfl) ⟨Nat.le_of_ble_eq_true rfl, Nat.le_of_ble_eq_true rfl⟩ rfl (Nat.le_of_ble_eq_true rfl) (fun σ' z2 x2 => ?_))))))))))
    obtain ⟨hs_, x2⟩ := x2
    rw [hs_]; clear hs_ σ'
    refine ok_aload_n 15 rfl rfl rfl (ok_getI 16 rfl rfl fl_X11_103 (sT ht) rfl (Or.inl rfl) (ok_callVL (M' := M_Ch_greatestLeast) (as := [_, _, _]) 17 rfl rfl ml_X11_234 (t_Ch_greatestLeast (sC ht) ⟨hT.1, hT.2.1⟩ x2 (by omega) (fun k a b => by have := hT.2.2.2 k a b; omega)) rfl rfl (Nat.le_of_ble_eq_true rfl) ⟨Nat.le_of_ble_eq_true rfl, Nat.le_of_ble_eq_true rfl⟩ rfl (Nat.le_of_ble_eq_true rfl) (fun τ z3 f => ?_)))
    obtain ⟨f1, f2, f3, f4⟩ := f
    have f5 := (f4 0 (by omega) (by omega)).2
    refine ok_l2i 18 rfl rfl (by omega) (ok_iret 19 rfl rfl rfl ?_)
    exact ⟨_, rfl, QA_18 h f1, Or.inr ⟨⟨q1, q2, q3⟩, fun k => τ 18 k, f3, fun T a b => (f4 T a b).1, f2⟩⟩
theorem wo_wkB {σ : eS} {s : Int} (hB : iB1 σ) (ht : tabB σ s) : ∀ i j, 0 ≤ i → i < σ 1 s → 0 ≤ j → j < σ 1 s → wk (wo σ s (σ 1 s) (σ 1 s * σ 1 s)) i j = cB σ s i j := fun i j a b c d => by
  obtain ⟨u1, u2, u3⟩ := ht
  have tn := (hB.1 s u1 u2).2.1
  exact wo_wk ⟨by omega, tn⟩ rfl ⟨a, b⟩ ⟨c, d⟩
theorem wo_22 (σ : eS) (s : Int) : wo σ s (σ 1 s) (σ 1 s * σ 1 s) 0 22 = σ 1 s := by simp [wo]
theorem t_Mo_widest {σ : eS} {s : Int} (hB : iB1 σ) : MtI shB M_Mo_widest [vr 0, vi s] σ (fun σ' z => fr rgS σ σ' ∧ ((¬ tabB σ s ∧ z = -1) ∨ (tabB σ s ∧ wdA (σ 1 s) (fun i j => 0 ≤ wk (wo σ s (σ 1 s) (σ 1 s * σ 1 s)) i j) (wk (wo σ s (σ 1 s) (σ 1 s * σ 1 s))) z))) := by
  refine Mt.of okM_Mo_widest (Nat.le_of_ble_eq_true rfl) (fun hk hg => ?_)
  refine ok_aload_n 0 rfl rfl rfl (ok_iload_n 1 rfl rfl rfl (ok_callVI (M' := M_Mo_isTable) (as := [_]) 2 rfl rfl ml_X12_111 (s_Mo_isTable_r) rfl rfl (Nat.le_of_ble_eq_true rfl) ⟨Nat.le_of_ble_eq_true rfl, Nat.le_of_ble_eq_true rfl⟩ rfl (Nat.le_of_ble_eq_true rfl) (fun σ' z1 a1 => ?_)))
  obtain ⟨hs_, a1⟩ := a1
  rw [hs_]; clear hs_ σ'
  refine ok_if_ne 3 10 rfl rfl rfl (fun h5 => ?_) (fun h5 => ?_)
  · have ht := yes1 a1 h5
    have f := wo_fr σ s (σ 1 s) (σ 1 s * σ 1 s)
    obtain ⟨w1, w2⟩ := wo_bd hB ht
    have e22 := wo_22 σ s
    have tn := hB.1 s ht.1 ht.2.1
    have t3 := ht.2.2
    have b2 := bit2 (n := σ 1 s) ⟨by omega, by omega⟩
    have b24 := b2.2.2.2 (by omega)
    refine ok_aload_n 6 rfl rfl rfl (ok_iload_n 7 rfl rfl rfl (ok_callVV (M' := M_Mo_worksOn) (as := [_]) 8 rfl rfl ml_X12_294 (s_Mo_worksOn hB ht) rfl rfl (Nat.le_of_ble_eq_true rfl) ⟨Nat.le_of_ble_eq_true rfl, Nat.le_of_ble_eq_true rfl⟩ rfl (Nat.le_of_ble_eq_true rfl) (fun σ' hz => ?_)))
    rw [hz]
    clear hz σ'
    refine ok_aload_n 9 rfl rfl rfl (ok_iconst 10 rfl rfl (by decide) (ok_iconst 11 rfl rfl (by decide) (ok_callVV (M' := M_Mo_laysCan) (as := [_, _]) 12 rfl rfl ml_X12_256 (s_Mo_laysCan w1 w2 (by omega) (Or.inl rfl)) rfl rfl (Nat.le_of_ble_eq_true rfl) ⟨Nat.le_of_ble_eq_true rfl, Nat.le_of_ble_eq_true rfl⟩ rfl (Nat.le_of_ble_eq_true rfl) (fun σ' hz => ?_))))
    rw [e22] at hz
    obtain ⟨f1, f2, f3⟩ := hz
    rw [if_pos rfl] at f2
    have f5 := (f3 0 (by omega) (by omega)).2
    have f6 : σ' 10 0 ≤ 799999992 := by
      rcases (f3 0 (by omega) (by omega)).1.2 with q | ⟨j, a, b, c, d⟩
      · have q1 : σ' 10 0 = -1 := q.1
        omega
      · have d1 : σ' 10 0 = cmbG 0 (wk (wo σ s (σ 1 s) (σ 1 s * σ 1 s)) (pc 0) j) (σ' 10 (sB 0 j)) := d
        unfold cmbG at d1
        rw [if_pos rfl, pc_0] at d1
        have := (w2 0 j (by omega) (by omega) a (by omega)).2
        omega
    refine ok_aload_n 13 rfl rfl rfl (ok_getR 14 rfl rfl fl_X12_42 rfl rfl (ok_iconst 15 rfl rfl (by decide) (ok_lald 16 rfl rfl rfl (by first | omega | (simp [up_if]; omega) | (simp [up_if] at *; omega)) (ok_l2i 17 rfl rfl (by omega) (ok_iret 18 rfl rfl rfl ?_)))))
    exact ⟨_, rfl, f.tr (f1.mono (fun c k q => by simp only [rgS]; omega)), Or.inr ⟨ht, fun k => σ' 10 k, f2, fun T a b => dpO_of (f3 T a b).1, rfl⟩⟩
  · refine ok_iconst 4 rfl rfl (by decide) (ok_iret 5 rfl rfl rfl ?_)
    exact ⟨_, rfl, fr.rf, Or.inl ⟨no1 a1 h5, rfl⟩⟩
def okBs (T : Prop) (n q : Int) : Prop := T ∧ (q ≠ 0 → 0 ≤ q - 10 ∧ q - 10 < n)
theorem t_Ev_best {σ : eS} {s w : Int} (h : IA σ) : MtL shA M_Ev_best [vr 0, vi s, vi w] σ (fun σ' z => QA σ σ' ∧ ((¬ okBs (tabA σ s) (σ (s.toNat + 2) 1) w ∧ z = -1) ∨ (okBs (tabA σ s) (σ (s.toNat + 2) 1) w ∧ bsA (σ (s.toNat + 2) 1) (fun i j => 0 ≤ cT σ (s.toNat + 2) i j) (cT σ (s.toNat + 2)) w z))) := by
  refine Mt.of okM_Ev_best (Nat.le_of_ble_eq_true rfl) (fun hk hg => ?_)
  have hrw : rg w := hk.2.2.1
  refine ok_aload_n 0 rfl rfl rfl (ok_iload_n 1 rfl rfl rfl (ok_callVR (M' := M_Ev_filledSlot) (as := [_]) 2 rfl rfl ml_X11_137 (s_Ev_filledSlot) rfl rfl (Nat.le_of_ble_eq_true rfl) ⟨Nat.le_of_ble_eq_true rfl, Nat.le_of_ble_eq_true rfl⟩ rfl (Nat.le_of_ble_eq_true rfl) (fun σ' z hz => ?_)))
  obtain ⟨hs_, hz⟩ := hz
  rw [hs_]; clear hs_ σ'
  rcases hz with ⟨q, q0⟩ | ⟨q1, q2, q, q3⟩
  · subst q
    refine ok_ast3 3 rfl rfl rfl (ok_aload_n 4 rfl rfl rfl (ok_ifnullN 5 31 rfl rfl rfl (ok_ldc2 17 (-1) rfl rfl kc_X11_238 (by decide) (ok_lret 18 rfl rfl rfl ?_))))
    exact ⟨_, rfl, QA_rf h, Or.inl ⟨fun c => q0 c.1, rfl⟩⟩
  · subst q
    have ht := sl_tA ⟨q1, q2⟩
    have hT := (h.2.1 _ ht).1
    have nt := tA_10 ht
    have m1 := hT.1
    have m2 := hT.2.1
    have b2 := bit2 (n := σ (s.toNat + 2) 1) ⟨hT.1, hT.2.1⟩
    have tail : (w ≠ 0 → 0 ≤ w - 10 ∧ w - 10 < σ (s.toNat + 2) 1) → Ok shA M_Ev_best 35 [some (vr 0), some (vi s), some (vi w), some (vr (s.toNat + 2)), none, none] [] σ (fun σ' v => ∃ z, v = some (vl z) ∧ QA σ σ' ∧ ((¬ okBs (tabA σ s) (σ (s.toNat + 2) 1) w ∧ z = -1) ∨ (okBs (tabA σ s) (σ (s.toNat + 2) 1) w ∧ bsA (σ (s.toNat + 2) 1) (fun i j => 0 ≤ cT σ (s.toNat + 2) i j) (cT σ (s.toNat + 2)) w z))) := by
      intro hw
      refine ok_aload_n 19 rfl rfl rfl (ok_getR 20 rfl rfl fl_X11_32 rfl rfl (ok_aload_n 21 rfl rfl rfl (ok_getR 22 rfl rfl fl_X11_133 (sT ht) rfl (ok_aload_n 23 rfl rfl rfl (ok_iconst 24 rfl rfl (by decide) (ok_callVL (M' := M_Ta_joinedBy) (as := [_]) 25 rfl rfl ml_X11_119 (t_Ta_joinedBy ht hT) (sT ht) rfl (Nat.le_of_ble_eq_true rfl) ⟨Nat.le_of_ble_eq_true rfl, Nat.le_of_ble_eq_true rfl⟩ rfl (Nat.le_of_ble_eq_true rfl) (fun σ' z2 x2 => ?_)))))))
      obtain ⟨hs_, x2⟩ := x2
      rw [hs_]; clear hs_ σ'
      refine ok_aload_n 26 rfl rfl rfl (ok_getI 27 rfl rfl fl_X11_103 (sT ht) rfl (Or.inl rfl) (ok_callVL (M' := M_Ch_findRichest) (as := [_, _, _]) 28 rfl rfl ml_X11_240 (t_Ch_findRichest (sC ht) h.2.2.1 ⟨m1, m2⟩ x2 (by omega) (by omega) (fun k a b => by have := hT.2.2.2 k a b; omega)) rfl rfl (Nat.le_of_ble_eq_true rfl) ⟨Nat.le_of_ble_eq_true rfl, Nat.le_of_ble_eq_true rfl⟩ rfl (Nat.le_of_ble_eq_true rfl) (fun τ z3 f => ?_)))
      obtain ⟨f1, f2, f3, f4, f5, f6⟩ := f
      have hv0 : 0 ≤ τ 18 0 := (dp_ge (l := 0) (w := cT σ (s.toNat + 2)) (sums := 1) (v := fun k => τ 18 k) ⟨by omega, m2⟩ (fun i j a b c d => (cT_bd hT ⟨a, by omega⟩ ⟨c, by omega⟩).1) (by rw [if_neg (by decide)]; exact f4) (fun T a b => (f5 T a b).1) (σ (s.toNat + 2) 1).toNat 0 (by omega) (by omega) (by simp [pc]) (cpl_of (f := fun i => i) (by omega) ⟨fun i a b => ⟨a, b⟩, fun i k a b c => by show i ≠ k; omega⟩ (fun i a b => (cT_bd hT ⟨a, by omega⟩ ⟨a, by omega⟩).1))).1
      have fq : fr rgCh σ τ := f1.mono (fun c k q => by simp only [rgFr, rgCh] at q ⊢; omega)
      refine ok_lst4 29 rfl rfl rfl (ok_iload_n 30 rfl rfl rfl (ok_if_ne 31 66 rfl rfl rfl (fun h58 => ?_) (fun h58 => ?_)))
      · refine ok_aload_n 34 rfl rfl rfl (ok_getR 35 rfl rfl fl_X11_32 rfl rfl (ok_getR 36 rfl rfl fl_X11_227 rfl rfl (ok_iload_n 37 rfl rfl rfl (ok_bipush 38 rfl rfl (by decide) (by decide) (ok_isub 39 rfl rfl (by first | omega | (simp [up_if]; omega) | (simp [up_if] at *; omega)) (ok_iald 40 rfl rfl rfl (by first | omega | (simp [up_if]; omega) | (simp [up_if] at *; omega)) (ok_i2l 41 rfl rfl (ok_lret 42 rfl rfl rfl ?_))))))))
        refine ⟨_, rfl, QA_C h fq f2 (mkS_fr (by decide) f1 (by simp [rgFr]) (fun k => by simp [rgFr])), Or.inr ⟨⟨⟨q1, q2, q3⟩, hw⟩, fun k => τ 18 k, fun i => τ 17 i, f4, fun T a b => (f5 T a b).1, f6 (by omega), ?_⟩⟩
        first | (rw [if_pos (by omega)]; exact f3) | rw [if_neg (by omega)]
      · refine ok_lload 32 rfl rfl rfl (ok_goto 33 79 rfl rfl rfl (ok_lret 42 rfl rfl rfl ?_))
        refine ⟨_, rfl, QA_C h fq f2 (mkS_fr (by decide) f1 (by simp [rgFr]) (fun k => by simp [rgFr])), Or.inr ⟨⟨⟨q1, q2, q3⟩, hw⟩, fun k => τ 18 k, fun i => τ 17 i, f4, fun T a b => (f5 T a b).1, f6 (by omega), ?_⟩⟩
        first | (rw [if_pos (by omega)]; exact f3) | rw [if_neg (by omega)]
    refine ok_ast3 3 rfl rfl rfl (ok_aload_n 4 rfl rfl rfl (ok_ifnull 5 rfl rfl (ok_iload_n 6 rfl rfl rfl (ok_if_eq 7 35 rfl rfl rfl (fun h11 => ?_) (fun h11 => ?_)))))
    · exact tail (by omega)
    · refine ok_iload_n 8 rfl rfl rfl (ok_bipush 9 rfl rfl (by decide) (by decide) (ok_icmp_lt 10 31 rfl rfl rfl (fun h17 => ?_) (fun h17 => ?_)))
      · refine ok_ldc2 17 (-1) rfl rfl kc_X11_238 (by decide) (ok_lret 18 rfl rfl rfl ?_)
        exact ⟨_, rfl, QA_rf h, Or.inl ⟨fun c => by have := c.2 (by omega); omega, rfl⟩⟩
      · refine ok_aload_n 11 rfl rfl rfl (ok_iload_n 12 rfl rfl rfl (ok_bipush 13 rfl rfl (by decide) (by decide) (ok_isub 14 rfl rfl (by first | omega | (simp [up_if]; omega) | (simp [up_if] at *; omega)) (ok_callVI (M' := M_Ta_has) (as := [_]) 15 rfl rfl ml_X11_129 (s_Ta_has ht) (sT ht) rfl (Nat.le_of_ble_eq_true rfl) ⟨Nat.le_of_ble_eq_true rfl, Nat.le_of_ble_eq_true rfl⟩ rfl (Nat.le_of_ble_eq_true rfl) (fun σ' z1 x1 => ?_)))))
        obtain ⟨hs_, x1⟩ := x1
        rw [hs_]; clear hs_ σ'
        refine ok_if_ne 16 35 rfl rfl rfl (fun h28 => ?_) (fun h28 => ?_)
        · exact tail (by omega)
        · refine ok_ldc2 17 (-1) rfl rfl kc_X11_238 (by decide) (ok_lret 18 rfl rfl rfl ?_)
          exact ⟨_, rfl, QA_rf h, Or.inl ⟨fun c => by have := c.2 (by omega); omega, rfl⟩⟩
theorem t_Mo_best {σ : eS} {s w : Int} (hB : iB1 σ) : MtL shB M_Mo_best [vr 0, vi s, vi w] σ (fun σ' z => fr rgS σ σ' ∧ ((¬ okBs (tabB σ s) (σ 1 s) w ∧ z = -1) ∨ (okBs (tabB σ s) (σ 1 s) w ∧ bsA (σ 1 s) (fun i j => 0 ≤ wk (wo σ s (σ 1 s) (σ 1 s * σ 1 s)) i j) (wk (wo σ s (σ 1 s) (σ 1 s * σ 1 s))) w z))) := by
  refine Mt.of okM_Mo_best (Nat.le_of_ble_eq_true rfl) (fun hk hg => ?_)
  refine ok_aload_n 0 rfl rfl rfl (ok_iload_n 1 rfl rfl rfl (ok_callVI (M' := M_Mo_isTable) (as := [_]) 2 rfl rfl ml_X12_111 (s_Mo_isTable_r) rfl rfl (Nat.le_of_ble_eq_true rfl) ⟨Nat.le_of_ble_eq_true rfl, Nat.le_of_ble_eq_true rfl⟩ rfl (Nat.le_of_ble_eq_true rfl) (fun σ' z1 a1 => ?_)))
  obtain ⟨hs_, a1⟩ := a1
  rw [hs_]; clear hs_ σ'
  refine ok_if_eq 3 33 rfl rfl rfl (fun h5 => ?_) (fun h5 => ?_)
  · refine ok_ldc2 18 (-1) rfl rfl kc_X12_219 (by decide) (ok_lret 19 rfl rfl rfl ?_)
    exact ⟨_, rfl, fr.rf, Or.inl ⟨fun c => no1 a1 h5 c.1, rfl⟩⟩
  · obtain ⟨u1, u2, u3⟩ := yes1 a1 h5
    have tn := hB.1 s u1 u2
    have f := wo_fr σ s (σ 1 s) (σ 1 s * σ 1 s)
    obtain ⟨w1, w2⟩ := wo_bd hB ⟨u1, u2, u3⟩
    have e22 := wo_22 σ s
    have hc : cpl (wo σ s (σ 1 s) (σ 1 s * σ 1 s) 0 22) (fun i j => 0 ≤ wk (wo σ s (σ 1 s) (σ 1 s * σ 1 s)) i j) (wo σ s (σ 1 s) (σ 1 s * σ 1 s) 0 22).toNat 0 := cpl_of (f := fun i => i) (by have := w1.1; omega) ⟨fun i a b => ⟨a, b⟩, fun i k a b c => by show i ≠ k; omega⟩ (fun i a b => (w2 i i a b a b).1)
    refine ok_iload_n 4 rfl rfl rfl (ok_if_eq 5 37 rfl rfl rfl (fun h9 => ?_) (fun h9 => ?_))
    · refine ok_aload_n 20 rfl rfl rfl (ok_iload_n 21 rfl rfl rfl (ok_callVV (M' := M_Mo_worksOn) (as := [_]) 22 rfl rfl ml_X12_294 (s_Mo_worksOn hB ⟨u1, u2, u3⟩) rfl rfl (Nat.le_of_ble_eq_true rfl) ⟨Nat.le_of_ble_eq_true rfl, Nat.le_of_ble_eq_true rfl⟩ rfl (Nat.le_of_ble_eq_true rfl) (fun σ' hz => ?_)))
      rw [hz]
      clear hz σ'
      refine ok_aload_n 23 rfl rfl rfl (ok_iconst 24 rfl rfl (by decide) (ok_callVL (M' := M_Mo_chooseGreatest) (as := [_]) 25 rfl rfl ml_X12_263 (t_Mo_chooseGreatest w1 w2 (by omega) hc) rfl rfl (Nat.le_of_ble_eq_true rfl) ⟨Nat.le_of_ble_eq_true rfl, Nat.le_of_ble_eq_true rfl⟩ rfl (Nat.le_of_ble_eq_true rfl) (fun σ' z hz => ?_)))
      rw [e22] at hz
      obtain ⟨g1, g2, g3, g4, g5, g6⟩ := hz
      have g := f.tr (g1.mono (fun c k q => by simp only [rgS]; omega))
      refine ok_lst3 26 rfl rfl rfl (ok_iload_n 27 rfl rfl rfl (ok_if_ne 28 56 rfl rfl rfl (fun h49 => ?_) (fun h49 => ?_)))
      · refine ok_aload_n 31 rfl rfl rfl (ok_getR 32 rfl rfl fl_X12_45 rfl rfl (ok_iload_n 33 rfl rfl rfl (ok_bipush 34 rfl rfl (by decide) (by decide) (ok_isub 35 rfl rfl (by first | omega | (simp [up_if]; omega) | (simp [up_if] at *; omega)) (ok_iald 36 rfl rfl rfl (by first | omega | (have := yes1 a2 h30; omega)) (ok_i2l 37 rfl rfl (ok_lret 38 rfl rfl rfl ?_)))))))
        refine ⟨_, rfl, g, Or.inr ⟨⟨⟨u1, u2, u3⟩, fun c => ?_⟩, fun k => σ' 10 k, fun i => σ' 11 i, g4, g5, g6, ?_⟩⟩
        · first | omega | (have := yes1 a2 h30; omega)
        · first | (rw [if_pos (by omega)]; exact g2) | rw [if_neg (by omega)]
      · refine ok_lload_n 29 rfl rfl rfl (ok_goto 30 66 rfl rfl rfl (ok_lret 38 rfl rfl rfl ?_))
        refine ⟨_, rfl, g, Or.inr ⟨⟨⟨u1, u2, u3⟩, fun c => ?_⟩, fun k => σ' 10 k, fun i => σ' 11 i, g4, g5, g6, ?_⟩⟩
        · first | omega | (have := yes1 a2 h30; omega)
        · first | (rw [if_pos (by omega)]; exact g2) | rw [if_neg (by omega)]
    · refine ok_iload_n 6 rfl rfl rfl (ok_i2l 7 rfl rfl (ok_ldc2 8 (10) rfl rfl kc_X12_353 (by decide) (ok_bipush 9 rfl rfl (by decide) (by decide) (ok_aload_n 10 rfl rfl rfl (ok_getR 11 rfl rfl fl_X12_7 rfl rfl (ok_iload_n 12 rfl rfl rfl (ok_iald 13 rfl rfl rfl (by first | omega | (simp [up_if]; omega) | (simp [up_if] at *; omega)) (ok_iadd 14 rfl rfl (by first | omega | (simp [up_if]; omega) | (simp [up_if] at *; omega)) (ok_i2l 15 rfl rfl (ok_callSI (M' := M_Mo_isIn) (as := [_, _, _]) 16 rfl rfl ml_X12_99 (s_Mo_isIn_r) ⟨Nat.le_of_ble_eq_true rfl, Nat.le_of_ble_eq_true rfl⟩ rfl (Nat.le_of_ble_eq_true rfl) (fun σ' z2 a2 => ?_)))))))))))
      obtain ⟨hs_, a2⟩ := a2
      rw [hs_]; clear hs_ σ'
      refine ok_if_ne 17 37 rfl rfl rfl (fun h30 => ?_) (fun h30 => ?_)
      · refine ok_aload_n 20 rfl rfl rfl (ok_iload_n 21 rfl rfl rfl (ok_callVV (M' := M_Mo_worksOn) (as := [_]) 22 rfl rfl ml_X12_294 (s_Mo_worksOn hB ⟨u1, u2, u3⟩) rfl rfl (Nat.le_of_ble_eq_true rfl) ⟨Nat.le_of_ble_eq_true rfl, Nat.le_of_ble_eq_true rfl⟩ rfl (Nat.le_of_ble_eq_true rfl) (fun σ' hz => ?_)))
        rw [hz]
        clear hz σ'
        refine ok_aload_n 23 rfl rfl rfl (ok_iconst 24 rfl rfl (by decide) (ok_callVL (M' := M_Mo_chooseGreatest) (as := [_]) 25 rfl rfl ml_X12_263 (t_Mo_chooseGreatest w1 w2 (by omega) hc) rfl rfl (Nat.le_of_ble_eq_true rfl) ⟨Nat.le_of_ble_eq_true rfl, Nat.le_of_ble_eq_true rfl⟩ rfl (Nat.le_of_ble_eq_true rfl) (fun σ' z hz => ?_)))
        rw [e22] at hz
        obtain ⟨g1, g2, g3, g4, g5, g6⟩ := hz
        have g := f.tr (g1.mono (fun c k q => by simp only [rgS]; omega))
        refine ok_lst3 26 rfl rfl rfl (ok_iload_n 27 rfl rfl rfl (ok_if_ne 28 56 rfl rfl rfl (fun h49 => ?_) (fun h49 => ?_)))
        · refine ok_aload_n 31 rfl rfl rfl (ok_getR 32 rfl rfl fl_X12_45 rfl rfl (ok_iload_n 33 rfl rfl rfl (ok_bipush 34 rfl rfl (by decide) (by decide) (ok_isub 35 rfl rfl (by first | omega | (simp [up_if]; omega) | (simp [up_if] at *; omega)) (ok_iald 36 rfl rfl rfl (by first | omega | (have := yes1 a2 h30; omega)) (ok_i2l 37 rfl rfl (ok_lret 38 rfl rfl rfl ?_)))))))
          refine ⟨_, rfl, g, Or.inr ⟨⟨⟨u1, u2, u3⟩, fun c => ?_⟩, fun k => σ' 10 k, fun i => σ' 11 i, g4, g5, g6, ?_⟩⟩
          · first | omega | (have := yes1 a2 h30; omega)
          · first | (rw [if_pos (by omega)]; exact g2) | rw [if_neg (by omega)]
        · refine ok_lload_n 29 rfl rfl rfl (ok_goto 30 66 rfl rfl rfl (ok_lret 38 rfl rfl rfl ?_))
          refine ⟨_, rfl, g, Or.inr ⟨⟨⟨u1, u2, u3⟩, fun c => ?_⟩, fun k => σ' 10 k, fun i => σ' 11 i, g4, g5, g6, ?_⟩⟩
          · first | omega | (have := yes1 a2 h30; omega)
          · first | (rw [if_pos (by omega)]; exact g2) | rw [if_neg (by omega)]
      · refine ok_ldc2 18 (-1) rfl rfl kc_X12_219 (by decide) (ok_lret 19 rfl rfl rfl ?_)
        exact ⟨_, rfl, fr.rf, Or.inl ⟨fun c => no1 a2 h30 (by have := c.2 (by omega); omega), rfl⟩⟩
noncomputable def wyV (n : Int) (op : Int → Int → Prop) : Int := PMv n (fun i j => @ite Int (op i j) (Classical.propDecidable _) 1 0) (p2 n - 1)
theorem w01_of (op : Int → Int → Prop) : w01 op (fun i j => @ite Int (op i j) (Classical.propDecidable _) 1 0) := fun i j => by
  by_cases q : op i j
  · exact Or.inl ⟨q, if_pos q⟩
  · exact Or.inr ⟨q, if_neg q⟩
def okW (T : Prop) (l : Int) : Prop := T ∧ isL l
theorem t_Ev_ways {σ : eS} {s m : Int} (h : IA σ) : MtI shA M_Ev_ways [vr 0, vi s, vi m] σ (fun σ' z => QA σ σ' ∧ ((¬ okW (tabA σ s) m ∧ z = -1) ∨ (okW (tabA σ s) m ∧ z = wyV (σ (s.toNat + 2) 1) (fun i j => m ≤ cT σ (s.toNat + 2) i j)))) := by
  refine Mt.of okM_Ev_ways (Nat.le_of_ble_eq_true rfl) (fun hk hg => ?_)
  refine ok_aload_n 0 rfl rfl rfl (ok_iload_n 1 rfl rfl rfl (ok_callVR (M' := M_Ev_filledSlot) (as := [_]) 2 rfl rfl ml_X11_137 (s_Ev_filledSlot) rfl rfl (Nat.le_of_ble_eq_true rfl) ⟨Nat.le_of_ble_eq_true rfl, Nat.le_of_ble_eq_true rfl⟩ rfl (Nat.le_of_ble_eq_true rfl) (fun σ' z hz => ?_)))
  obtain ⟨hs_, hz⟩ := hz
  rw [hs_]; clear hs_ σ'
  rcases hz with ⟨q, q0⟩ | ⟨q1, q2, q, q3⟩
  · subst q
    refine ok_ast3 3 rfl rfl rfl (ok_aload_n 4 rfl rfl rfl (ok_ifnullN 5 17 rfl rfl rfl (ok_iconst 9 rfl rfl (by decide) (ok_iret 10 rfl rfl rfl ?_))))
    exact ⟨_, rfl, QA_rf h, Or.inl ⟨fun c => q0 c.1, rfl⟩⟩
  · subst q
    have ht := sl_tA ⟨q1, q2⟩
    have hT := (h.2.1 _ ht).1
    refine ok_ast3 3 rfl rfl rfl (ok_aload_n 4 rfl rfl rfl (ok_ifnull 5 rfl rfl (ok_iload_n 6 rfl rfl rfl (ok_callSI (M' := M_Ev_isCell) (as := [_]) 7 rfl rfl ml_X11_208 (s_Ev_isCell) ⟨Nat.le_of_ble_eq_true rfl, Nat.le_of_ble_eq_true rfl⟩ rfl (Nat.le_of_ble_eq_true rfl) (fun σ' z0 x0 => ?_)))))
    obtain ⟨hs_, x0⟩ := x0
    rw [hs_]; clear hs_ σ'
    refine ok_if_ne 8 19 rfl rfl rfl (fun h14 => ?_) (fun h14 => ?_)
    · refine ok_aload_n 11 rfl rfl rfl (ok_getR 12 rfl rfl fl_X11_32 rfl rfl (ok_aload_n 13 rfl rfl rfl (ok_iload_n 14 rfl rfl rfl (ok_callVL (M' := M_Ta_joinedBy) (as := [_]) 15 rfl rfl ml_X11_119 (t_Ta_joinedBy ht hT) (sT ht) rfl (Nat.le_of_ble_eq_true rfl) ⟨Nat.le_of_ble_eq_true rfl, Nat.le_of_ble_eq_true rfl⟩ rfl (Nat.le_of_ble_eq_true rfl) (fun σ' z2 x2 => ?_)))))
      obtain ⟨hs_, x2⟩ := x2
      rw [hs_]; clear hs_ σ'
      refine ok_aload_n 16 rfl rfl rfl (ok_getI 17 rfl rfl fl_X11_103 (sT ht) rfl (Or.inl rfl) (ok_callVL (M' := M_Ch_countAll) (as := [_, _]) 18 rfl rfl ml_X11_230 (t_Ch_countAll ⟨hT.1, hT.2.1⟩ x2 (w01_of _)) rfl rfl (Nat.le_of_ble_eq_true rfl) ⟨Nat.le_of_ble_eq_true rfl, Nat.le_of_ble_eq_true rfl⟩ rfl (Nat.le_of_ble_eq_true rfl) (fun τ z3 f => ?_)))
      obtain ⟨f1, f2, f3, f4⟩ := f
      refine ok_l2i 19 rfl rfl (by omega) (ok_iret 20 rfl rfl rfl ?_)
      refine ⟨_, rfl, QA_18 h f1, Or.inr ⟨⟨⟨q1, q2, q3⟩, by unfold isL; omega⟩, ?_⟩⟩
      rw [f2, CA_PM ⟨hT.1, hT.2.1⟩]; rfl
    · refine ok_iconst 9 rfl rfl (by decide) (ok_iret 10 rfl rfl rfl ?_)
      exact ⟨_, rfl, QA_rf h, Or.inl ⟨fun c => by have c2 := c.2; unfold isL at c2; omega, rfl⟩⟩
theorem PMk_bd {n : Nat} {w : Int → Int → Int} (hn : n ≤ 8) (hw : ∀ i j : Int, 0 ≤ i → i < n → 0 ≤ j → j < n → 0 ≤ w i j ∧ w i j ≤ 1) : ∀ (k : Nat) (s : Int), k ≤ n → 0 ≤ PMk n w k s ∧ PMk n w k s ≤ e8 k
  | 0, s, _ => by show (0 : Int) ≤ 1 ∧ (1 : Int) ≤ 1; decide
  | k + 1, s, h => by
    have eb := (e8_bd k (by omega)).1
    rw [PMk]
    have := sm_bd (f := fun j => if bt s j = true then w (k : Int) j * PMk n w k (ixor s (ishl 1 j)) else 0) (B := e8 k) (by omega) (n := n) (fun j a b => by
      try dsimp only
      split
      · have x := hw k j (by omega) (by omega) a b
        have y := PMk_bd hn hw k (ixor s (ishl 1 j)) (by omega)
        refine ⟨Int.mul_nonneg x.1 y.1, ?_⟩
        rcases (by omega : w k j = 0 ∨ w k j = 1) with q | q
        · rw [q, Int.zero_mul]; omega
        · rw [q, Int.one_mul]; exact y.2
      · omega)
    refine ⟨this.1, Int.le_trans this.2 ?_⟩
    show e8 k * (n : Int) ≤ 8 * e8 k
    rw [Int.mul_comm]
    exact Int.mul_le_mul_of_nonneg_right (by omega) (by omega)
theorem t_Mo_ways {σ : eS} {s l : Int} (hB : iB1 σ) : MtI shB M_Mo_ways [vr 0, vi s, vi l] σ (fun σ' z => fr rgU σ σ' ∧ ((¬ okW (tabB σ s) l ∧ z = -1) ∨ (okW (tabB σ s) l ∧ z = wyV (σ 1 s) (fun i j => l ≤ cB σ s i j)))) := by
  refine Mt.of okM_Mo_ways (Nat.le_of_ble_eq_true rfl) (fun hk hg => ?_)
  refine ok_aload_n 0 rfl rfl rfl (ok_iload_n 1 rfl rfl rfl (ok_callVI (M' := M_Mo_isTable) (as := [_]) 2 rfl rfl ml_X12_111 (s_Mo_isTable_r) rfl rfl (Nat.le_of_ble_eq_true rfl) ⟨Nat.le_of_ble_eq_true rfl, Nat.le_of_ble_eq_true rfl⟩ rfl (Nat.le_of_ble_eq_true rfl) (fun σ' z1 a1 => ?_)))
  obtain ⟨hs_, a1⟩ := a1
  rw [hs_]; clear hs_ σ'
  refine ok_if_eq 3 15 rfl rfl rfl (fun h5 => ?_) (fun h5 => ?_)
  · refine ok_iconst 7 rfl rfl (by decide) (ok_iret 8 rfl rfl rfl ?_)
    exact ⟨_, rfl, fr.rf, Or.inl ⟨fun c => no1 a1 h5 c.1, rfl⟩⟩
  · refine ok_iload_n 4 rfl rfl rfl (ok_callSI (M' := M_Mo_isLeast) (as := [_]) 5 rfl rfl ml_X12_343 (s_Mo_isLeast) ⟨Nat.le_of_ble_eq_true rfl, Nat.le_of_ble_eq_true rfl⟩ rfl (Nat.le_of_ble_eq_true rfl) (fun σ' z2 a2 => ?_))
    obtain ⟨hs_, a2⟩ := a2
    rw [hs_]; clear hs_ σ'
    refine ok_if_ne 6 17 rfl rfl rfl (fun h12 => ?_) (fun h12 => ?_)
    · have ht := yes1 a1 h5
      have hl : isL l := yes1 a2 h12
      obtain ⟨u1, u2, u3⟩ := id ht
      have tn := hB.1 s u1 u2
      have hn : 0 ≤ σ 1 s ∧ σ 1 s ≤ 8 := ⟨by omega, by omega⟩
      obtain ⟨z1, z2, z3, -⟩ := bit2 (n := σ 1 s) hn
      have pb : ∀ T, 0 ≤ T → T < p2 (σ 1 s) → 0 ≤ PMv (σ 1 s) (smW σ s l 1) T ∧ PMv (σ 1 s) (smW σ s l 1) T ≤ 16777216 := fun T a b => by
        have p := pc_bd hn ⟨a, b⟩
        have x := PMk_bd (n := (σ 1 s).toNat) (w := smW σ s l 1) (by omega) (fun i j _ _ _ _ => by unfold smW; rw [if_neg (by decide)]; split <;> omega) (pc T).toNat T (by omega)
        have y := e8_bd (pc T).toNat (by omega)
        unfold PMv
        omega
      have ev : PMv (σ 1 s) (smW σ s l 1) (p2 (σ 1 s) - 1) = wyV (σ 1 s) (fun i j => l ≤ cB σ s i j) := by
        unfold wyV
        refine PMv_cg hn (fun i j _ _ _ _ => ?_) ⟨by omega, by omega⟩
        unfold smW
        rw [if_neg (by decide)]
        by_cases q : l ≤ cB σ s i j
        · rw [if_pos q, if_pos q]
        · rw [if_neg q, if_neg q]
      refine ok_aload_n 9 rfl rfl rfl (ok_iload_n 10 rfl rfl rfl (ok_iload_n 11 rfl rfl rfl (ok_iconst 12 rfl rfl (by decide) (ok_callVI (M' := M_Mo_isSummed) (as := [_, _, _]) 13 rfl rfl ml_X12_349 (t_Mo_isSummed hB ht) rfl rfl (Nat.le_of_ble_eq_true rfl) ⟨Nat.le_of_ble_eq_true rfl, Nat.le_of_ble_eq_true rfl⟩ rfl (Nat.le_of_ble_eq_true rfl) (fun σ' z hz => ?_)))))
      have e1 : σ' 1 s = σ 1 s := hz.1 1 s (by simp [rgU])
      have hv : ∀ T, 0 ≤ T → T < p2 (σ 1 s) → σ' 20 T = PMv (σ 1 s) (smW σ s l 1) T := by
        rcases hz.2 with ⟨y1, T, y2, y3, y4⟩ | ⟨y1, y2⟩
        · have := (pb T (by omega) y3).2; omega
        · exact fun T a b => (y2 T a b).1
      have hf := hv (p2 (σ 1 s) - 1) (by omega) (by omega)
      have hb := pb (p2 (σ 1 s) - 1) (by omega) (by omega)
      refine ok_pop 14 rfl rfl rfl (ok_aload_n 15 rfl rfl rfl (ok_getR 16 rfl rfl fl_X12_72 rfl rfl (ok_iconst 17 rfl rfl (by decide) (ok_aload_n 18 rfl rfl rfl (ok_getR 19 rfl rfl fl_X12_7 rfl rfl (ok_iload_n 20 rfl rfl rfl (ok_iald 21 rfl rfl rfl (by first | omega | (simp [up_if]; omega) | (simp [up_if] at *; omega)) (ok_ishl 22 rfl rfl ?_))))))))
      rw [e1, z1]
      refine ok_iconst 23 rfl rfl (by decide) (ok_isub 24 rfl rfl (by first | omega | (simp [up_if]; omega) | (simp [up_if] at *; omega)) (ok_lald 25 rfl rfl rfl (by omega) (ok_l2i 26 rfl rfl (by omega) (ok_iret 27 rfl rfl rfl ?_))))
      exact ⟨_, rfl, hz.1, Or.inr ⟨⟨ht, hl⟩, by rw [hf, ev]⟩⟩
    · refine ok_iconst 7 rfl rfl (by decide) (ok_iret 8 rfl rfl rfl ?_)
      exact ⟨_, rfl, fr.rf, Or.inl ⟨fun c => no1 a2 h12 c.2, rfl⟩⟩
