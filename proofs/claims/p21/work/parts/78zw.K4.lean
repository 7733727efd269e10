/-! PARTS kept, the class: keepParts, peel and shop -/
theorem t_Mi_add {σ : eS} {w : Int} (hs : 0 ≤ σ 22 5 ∧ σ 22 5 < 64) (hw : 1 ≤ w) : MtV shA M_Mi_add [vr 22, vi w, vr 17] σ (fun σ' => fr rgMi σ σ' ∧ σ' 22 5 = σ 22 5 + 1 ∧ (∀ k, σ' 23 k = if k = σ 22 5 then w else σ 23 k) ∧ ∀ k, σ' 24 k = if σ 22 5 * 8 ≤ k ∧ k < σ 22 5 * 8 + 8 then σ 17 (k - σ 22 5 * 8) else σ 24 k) := by
  refine Mt.of okM_Mi_add (Nat.le_of_ble_eq_true rfl) (fun hk hg => ?_)
  refine ok_iload_n 0 rfl rfl rfl (ok_iconst 1 rfl rfl (by decide) (ok_icmp_lt 2 14 rfl rfl rfl (fun h2 => ?_) (fun h2 => ?_)))
  · exfalso; omega
  · refine ok_aload_n 3 rfl rfl rfl (ok_getI 4 rfl rfl fl_X3_28 rfl rfl (Or.inl rfl) (ok_bipush 5 rfl rfl (by decide) (by decide) (ok_icmp_lt 6 15 rfl rfl rfl (fun h11 => ?_) (fun h11 => ?_))))
    · refine ok_aload_n 8 rfl rfl rfl (ok_getR 9 rfl rfl fl_X3_9 rfl rfl (ok_aload_n 10 rfl rfl rfl (ok_getI 11 rfl rfl fl_X3_28 rfl rfl (Or.inl rfl) (ok_iload_n 12 rfl rfl rfl (ok_iast 13 rfl rfl rfl (by first | omega | (simp [up_if]; omega) | (simp [up_if] at *; omega)) (ok_aload_n 14 rfl rfl rfl (ok_iconst 15 rfl rfl (by decide) (ok_aload_n 16 rfl rfl rfl (ok_getR 17 rfl rfl fl_X3_15 rfl rfl (ok_aload_n 18 rfl rfl rfl (ok_getI 19 rfl rfl fl_X3_28 rfl rfl (Or.inl rfl) (ok_bipush 20 rfl rfl (by decide) (by decide) (ok_imul 21 rfl rfl (by first | omega | (simp [up_if]; omega) | (simp [up_if] at *; omega)) (ok_bipush 22 rfl rfl (by decide) (by decide) (ok_copy 23 rfl rfl (wd3 175 rfl rfl) ⟨Nat.le_of_ble_eq_true rfl, Nat.le_of_ble_eq_true rfl⟩ rfl rfl (by decide) (by simp [up_if]; omega) (by decide) (by decide) (by simp [up_if]; omega) ?_)))))))))))))))
      obtain ⟨τ, eτ⟩ : ∃ τ, τ = cp (up σ 23 (σ 22 5) w) 17 0 24 (up σ 23 (σ 22 5) w 22 5 * 8) 8 := ⟨_, rfl⟩
      rw [← eτ]
      have e0 : up σ 23 (σ 22 5) w 22 5 = σ 22 5 := up_ne _ _ _ _ (by decide)
      rw [e0] at eτ
      have f : fr rgMi σ τ := by rw [eτ]; exact (fr_up (P := rgMi) fr.rf (by simp [rgMi])).tr (fr_cp (fun k _ _ => by simp [rgMi]))
      have e22 : ∀ k, τ 22 k = σ 22 k := fun k => by rw [eτ]; unfold cp; rw [if_neg (by omega), up_ne _ _ _ _ (by decide)]
      have e23 : ∀ k, τ 23 k = if k = σ 22 5 then w else σ 23 k := fun k => by
        rw [eτ]
        unfold cp
        rw [if_neg (by omega), up_if]
        by_cases q : k = σ 22 5
        · rw [if_pos ⟨rfl, q⟩, if_pos q]
        · rw [if_neg (fun y => q y.2), if_neg q]
      have e24 : ∀ k, τ 24 k = if σ 22 5 * 8 ≤ k ∧ k < σ 22 5 * 8 + 8 then σ 17 (k - σ 22 5 * 8) else σ 24 k := fun k => by
        rw [eτ]
        unfold cp
        by_cases q : σ 22 5 * 8 ≤ k ∧ k < σ 22 5 * 8 + 8
        · rw [if_pos ⟨rfl, q.1, q.2⟩, if_pos q, up_ne _ _ _ _ (by decide)]; congr 1; omega
        · rw [if_neg (fun y => q ⟨y.2.1, y.2.2⟩), if_neg q, up_ne _ _ _ _ (by decide)]
      have e225 := e22 5
      refine ok_aload_n 24 rfl rfl rfl (ok_dup 25 rfl rfl rfl (ok_getI 26 rfl rfl fl_X3_28 rfl rfl (Or.inl rfl) (ok_iconst 27 rfl rfl (by decide) (ok_iadd 28 rfl rfl (by first | omega | (simp [up_if]; omega) | (simp [up_if] at *; omega)) (ok_putI 29 rfl rfl fl_X3_28 rfl rfl rfl rfl (ok_vret 30 rfl rfl rfl ?_))))))
      refine ⟨rfl, fr_up f (by simp [rgMi]), by rw [up_same, e22], fun k => by rw [up_ne _ _ _ _ (by decide)]; exact e23 k, fun k => by rw [up_ne _ _ _ _ (by decide)]; exact e24 k⟩
    · exfalso; omega
abbrev rgKq : Nat → Int → Prop := fun c k => (16 ≤ c ∧ c ≤ 21) ∨ (c = 22 ∧ k = 5) ∨ c = 23 ∨ c = 24
def QKp (n r : Int) (σ σ' : eS) (z : Int) : Prop := fr rgKq σ σ' ∧ iCh σ' ∧ cSe σ σ' 64 ∧ iMi σ' ∧ z = σ' 22 5 ∧ PE n r (pk σ 21) (fun q => σ' 23 q) (fun q i => σ' 24 (8 * q + i)) z
/-- what stands between two parts -/
def KP (n r m : Int) (σ ρ : eS) (k : Int) : Prop := (0 ≤ k ∧ k ≤ 64 ∧ ρ 22 5 = k) ∧ fr rgKq σ ρ ∧ iCh ρ ∧ cSe σ ρ k ∧ (ρ 20 2 = n ∧ bd64 ρ 21 ∧ 0 ≤ ρ 20 3 ∧ ρ 20 3 ≤ m) ∧ EvW n (pk ρ 21) (ρ 20 3) ∧ k + np2 n (pk ρ 21) ≤ 64 ∧ iMi ρ ∧ sm (fun q => ρ 23 q) k.toNat = m - ρ 20 3 ∧ Pl n r (pk σ 21) (fun q => ρ 23 q) (fun q i => ρ 24 (8 * q + i)) k.toNat (pk ρ 21)
theorem t_Ev_keepParts {σ : eS} {n r m : Int} (hr : 0 ≤ r ∧ r ≤ 3) (hn : 1 ≤ n ∧ n ≤ 8) (hC : iCh σ) (hS : iSe σ) (hS2 : σ 16 3 + 64 < 2147483647) (h2 : σ 20 2 = n) (hb : bd64 σ 21) (h3 : σ 20 3 = m) (hm : 1 ≤ m ∧ m ≤ 799999992) (he : EvW n (pk σ 21) m) (hM : iMi σ) (h5 : σ 22 5 = 0) (h6 : σ 22 6 = m) : MtI shA M_Ev_keepParts [vr 0, vi r] σ (QKp n r σ) := by
  refine Mt.of okM_Ev_keepParts (Nat.le_of_ble_eq_true rfl) (fun hk hg => ?_)
  have n0 : 0 ≤ n ∧ n ≤ 8 := ⟨by omega, hn.2⟩
  have hnp := np2_bd n0 (pk σ 21)
  refine ok_iconst 0 rfl rfl (by decide) (ok_ist2 1 rfl rfl rfl ?_)
  refine lpO2 (fun (k : Int) (_ : eS) => [some (vr 0), some (vi r), some (vi k)]) (fun _ ρ => ρ) (fun k ρ => KP n r m σ ρ k) (fun k _ => (64 - k).toNat) ?_ 0 σ ⟨⟨by omega, by omega, h5⟩, fr.rf, hC, ⟨hS, by omega, by omega⟩, ⟨h2, hb, by omega, by omega⟩, by rw [h3]; exact he, by omega, hM, by rw [h3]; show (0 : Int) = m - m; omega, ag_rf _ _⟩
  rintro k ρ ⟨⟨k1, k2, k3⟩, f, c1, ⟨s1, s2, s3⟩, ⟨c2, c3, c4, c5⟩, c6, c7, c8, c9, cP⟩ ih
  have fin : k = 64 ∨ ρ 20 3 ≤ 0 → nil0 n (pk ρ 21) := fun q => by
    by_cases y : 1 ≤ ρ 20 3
    · have := np2_pos hn c6 y
      omega
    · rw [show ρ 20 3 = 0 by omega] at c6
      exact EvW_0 c6
  refine ok_iload_n 2 rfl rfl rfl (ok_bipush 3 rfl rfl (by decide) (by decide) (ok_icmp_ge 4 53 rfl rfl rfl (fun h5 => ?_) (fun h5 => ?_)))
  · refine ok_aload_n 24 rfl rfl rfl (ok_getR 25 rfl rfl fl_X11_48 rfl rfl (ok_getI 26 rfl rfl fl_X11_318 rfl rfl (Or.inl rfl) (ok_iret 27 rfl rfl rfl ?_)))
    have e5 : ρ 22 5 = k := k3
    exact ⟨_, rfl, f, c1, ⟨s1, s2, by omega⟩, c8, rfl, by omega, pk ρ 21, by rw [k3]; exact cP, fin (by omega)⟩
  · refine ok_aload_n 5 rfl rfl rfl (ok_getR 6 rfl rfl fl_X11_41 rfl rfl (ok_getI 7 rfl rfl fl_X11_297 rfl rfl (Or.inl rfl) (ok_if_le 8 53 rfl rfl rfl (fun h15 => ?_) (fun h15 => ?_))))
    · refine ok_aload_n 24 rfl rfl rfl (ok_getR 25 rfl rfl fl_X11_48 rfl rfl (ok_getI 26 rfl rfl fl_X11_318 rfl rfl (Or.inl rfl) (ok_iret 27 rfl rfl rfl ?_)))
      have e5 : ρ 22 5 = k := k3
      exact ⟨_, rfl, f, c1, ⟨s1, s2, by omega⟩, c8, rfl, by omega, pk ρ 21, by rw [k3]; exact cP, fin (by omega)⟩
    · refine ok_aload_n 9 rfl rfl rfl (ok_getR 10 rfl rfl fl_X11_41 rfl rfl (ok_iload_n 11 rfl rfl rfl (ok_callVV (M' := M_Pe_takePart) (as := [_]) 12 rfl rfl ml_X11_325 (t_Pe_takePart (p := 20) (q := 21) (m := ρ 20 3) (Or.inl ⟨rfl, rfl⟩) hr (by rw [c2]; exact hn) c3 rfl ⟨by omega, by omega⟩ (by rw [c2]; exact c6) c1 s1 (by omega)) rfl rfl (Nat.le_of_ble_eq_true rfl) ⟨Nat.le_of_ble_eq_true rfl, Nat.le_of_ble_eq_true rfl⟩ rfl (Nat.le_of_ble_eq_true rfl) (fun τ g => ?_))))
      obtain ⟨g1, g2, ⟨g3, g4, g5⟩, g6, g7, g8, g9⟩ := g
      rw [c2] at g9
      obtain ⟨w1, w2, w3, w4⟩ := stp_ev hn c6 g9
      have t5 : τ 22 5 = k := by rw [g1 22 5 (by simp [rgPe]), k3]
      refine ok_aload_n 13 rfl rfl rfl (ok_getR 14 rfl rfl fl_X11_48 rfl rfl (ok_aload_n 15 rfl rfl rfl (ok_getR 16 rfl rfl fl_X11_41 rfl rfl (ok_getI 17 rfl rfl fl_X11_328 rfl rfl (Or.inl rfl) (ok_aload_n 18 rfl rfl rfl (ok_getR 19 rfl rfl fl_X11_32 rfl rfl (ok_getR 20 rfl rfl fl_X11_227 rfl rfl (ok_callVV (M' := M_Mi_add) (as := [_, _]) 21 rfl rfl ml_X11_331 (t_Mi_add (by omega) w1) rfl rfl (Nat.le_of_ble_eq_true rfl) ⟨Nat.le_of_ble_eq_true rfl, Nat.le_of_ble_eq_true rfl⟩ rfl (Nat.le_of_ble_eq_true rfl) (fun υ u => ?_)))))))))
      obtain ⟨u1, u2, u3, u4⟩ := u
      rw [t5] at u2 u3 u4
      have t6 : υ 22 6 = m := by rw [u1 22 6 (by simp [rgMi]), g1 22 6 (by simp [rgPe]), f 22 6 (by simp [rgKq]), h6]
      refine ok_inc2 22 rfl rfl rfl (by first | omega | (simp [up_if]; omega) | (simp [up_if] at *; omega)) (ok_goto 23 2 rfl rfl rfl ?_)
      have v20 : ∀ k, υ 20 k = τ 20 k := fun k => u1 20 k (by simp [rgMi])
      have v21 : pk υ 21 = pk τ 21 := by funext i j; exact u1 21 _ (by simp [rgMi])
      have v16 : υ 16 3 = τ 16 3 := u1 16 3 (by simp [rgMi])
      have v23 : ∀ q, q ≠ k → υ 23 q = ρ 23 q := fun q y => by rw [u3, if_neg y, g1 23 q (by simp [rgPe])]
      have v23k : υ 23 k = τ 20 5 := by rw [u3, if_pos rfl]
      have v24 : ∀ q, ¬ (k * 8 ≤ q ∧ q < k * 8 + 8) → υ 24 q = ρ 24 q := fun q y => by rw [u4, if_neg y, g1 24 q (by simp [rgPe])]
      have v24k : ∀ i, 0 ≤ i → i < 8 → υ 24 (8 * k + i) = τ 17 i := fun i a b => by rw [u4, if_pos (by omega)]; congr 1; omega
      have vs : sm (fun q => υ 23 q) (k + 1).toNat = m - (ρ 20 3 - τ 20 5) := by
        rw [sm_s _ k1, v23k, sm_cg (g := fun q => ρ 23 q) (fun q a b => v23 q (by omega)), c9]
        omega
      obtain ⟨d1, d2, d3, d4⟩ := c8
      have vM : iMi υ := by
        refine ⟨?_, fun q a b => ?_, fun q a b => ?_, ?_⟩
        · rw [u2, t6, u1 22 4 (by simp [rgMi]), g1 22 4 (by simp [rgPe]), u1 22 3 (by simp [rgMi]), g1 22 3 (by simp [rgPe])]
          omega
        · rw [u2] at b
          by_cases y : q = k
          · rw [y, v23k]; omega
          · rw [v23 q y]; exact d2 q a (by omega)
        · by_cases y : k * 8 ≤ q ∧ q < k * 8 + 8
          · rw [u4, if_pos y]; exact g2 _ (by omega) (by omega)
          · rw [v24 q y]; exact d3 q a b
        · rw [u2, t6, vs]; omega
      refine ih (k + 1) υ ⟨⟨by omega, by omega, u2⟩, ?_, iCh_cg g2 (fun k => u1 17 k (by simp [rgMi])), ⟨iSe_cg g3 v16 (fun k => u1 19 k (by simp [rgMi])), by omega, by omega⟩, ⟨by rw [v20, g1 20 2 (by simp [rgPe])]; exact c2, fun q a b => by rw [u1 21 q (by simp [rgMi])]; exact g6 q a b, by rw [v20]; omega, by rw [v20]; omega⟩, by rw [v21, v20, g7]; exact w3, by rw [v21]; omega, vM, by rw [v20, vs, g7], ?_⟩ (by omega)
      · exact (f.tr (g1.mono (fun c k w => by simp only [rgPe, rgKq] at w ⊢; omega))).tr (u1.mono (fun c k w => by simp only [rgMi, rgKq] at w ⊢; omega))
      · rw [v21, show (k + 1).toNat = k.toNat + 1 by omega]
        have ec : ((k.toNat : Nat) : Int) = k := Int.toNat_of_nonneg k1
        refine ⟨pk ρ 21, Pl_cg (fun q a b => ⟨?_, fun i c d => ?_⟩) (ag_rf _ _) cP, ?_⟩
        · try dsimp only
          exact v23 q (by omega)
        · try dsimp only
          exact v24 _ (by omega)
        · rw [ec]
          (try dsimp only)
          rw [v23k]
          exact stp_cc (fun i c d => v24k i c (by omega)) (ag_rf _ _) g9
/-- a table to take parts off -/
theorem t_Pe_startTable {σ : eS} {p q t : Nat} (hp : pP p q) (ht : tA t) : MtV shA M_Pe_startTable [vr p, vr t] σ (fun σ' => fr (rgP0 p q) σ σ' ∧ σ' p 2 = σ t 1 ∧ σ' p 3 = σ t 3 ∧ σ' p 4 = 0 ∧ ∀ k, 0 ≤ k → k < 64 → σ' q k = σ (t + 4) k) := by
  refine Mt.of okM_Pe_startTable (Nat.le_of_ble_eq_true rfl) (fun hk hg => ?_)
  obtain ⟨n0, n1, n2, n3, n4⟩ := pP_n hp
  have nA := tA_10 ht
  obtain ⟨τ, eτ⟩ : ∃ τ, τ = cp σ (t + 4) 0 q 0 64 := ⟨_, rfl⟩
  have f : fr (fun c _ => c = q) σ τ := by rw [eτ]; exact fr_cp (fun k _ _ => rfl)
  have e : ∀ k, 0 ≤ k → k < 64 → τ q k = σ (t + 4) k := fun k a b => by rw [eτ]; unfold cp; rw [if_pos ⟨rfl, by omega, by omega⟩]; congr 1; omega
  have e1 : τ t 1 = σ t 1 := f t 1 (by omega)
  have e3 : τ t 3 = σ t 3 := f t 3 (by omega)
  refine ok_aload_n 0 rfl rfl rfl (ok_getR 1 rfl rfl fl_X5_32 (sT ht) rfl (ok_iconst 2 rfl rfl (by decide) (ok_aload_n 3 rfl rfl rfl (ok_getR 4 rfl rfl fl_X5_9 (sP hp) rfl (ok_iconst 5 rfl rfl (by decide) (ok_bipush 6 rfl rfl (by decide) (by decide) (ok_copy 7 rfl rfl (wd3 104 rfl rfl) ⟨Nat.le_of_ble_eq_true rfl, Nat.le_of_ble_eq_true rfl⟩ (sC ht) (sQ hp) (by decide) (by decide) (by decide) (by decide) (by decide) ?_)))))))
  rw [← eτ]
  refine ok_aload_n 8 rfl rfl rfl (ok_aload_n 9 rfl rfl rfl (ok_getI 10 rfl rfl fl_X5_41 (sT ht) rfl (Or.inl rfl) (ok_putI 11 rfl rfl fl_X5_15 (sP hp) rfl rfl rfl (ok_aload_n 12 rfl rfl rfl (ok_aload_n 13 rfl rfl rfl (ok_getI 14 rfl rfl fl_X5_42 (sT ht) rfl (Or.inl rfl) (ok_putI 15 rfl rfl fl_X5_19 (sP hp) rfl rfl rfl (ok_aload_n 16 rfl rfl rfl (ok_iconst 17 rfl rfl (by decide) (ok_putI 18 rfl rfl fl_X5_22 (sP hp) rfl rfl rfl (ok_vret 19 rfl rfl rfl ?_)))))))))))
  refine ⟨rfl, fr_up (fr_up (fr_up (f.mono (fun c k w => Or.inr w)) (by simp [rgP0])) (by simp [rgP0])) (by simp [rgP0]), ?_, ?_, ?_, fun k a b => ?_⟩
  · rw [up_nk _ _ _ _ (by decide), up_nk _ _ _ _ (by decide), up_same, e1]
  · rw [up_nk _ _ _ _ (by decide), up_same, up_ne _ _ _ _ (by omega), e3]
  · rw [up_same]
  · rw [up_ne _ _ _ _ (Ne.symm n1), up_ne _ _ _ _ (Ne.symm n1), up_ne _ _ _ _ (Ne.symm n1), e k a b]
/-- the greatest of the sums -/
def grS (row col : Int → Int) (n L : Int) : Prop := (∀ k, 0 ≤ k → k < n → row k ≤ L ∧ col k ≤ L) ∧ (L = 0 ∨ ∃ k, 0 ≤ k ∧ k < n ∧ (L = row k ∨ L = col k))
theorem grS_un {row col row' col' : Int → Int} {n L L' : Int} (hn : 1 ≤ n) (h0 : ∀ k, 0 ≤ k → k < n → 0 ≤ row k ∧ 0 ≤ col k) (e : ∀ k, 0 ≤ k → k < n → row k = row' k ∧ col k = col' k) (h : grS row col n L) (h' : grS row' col' n L') : L = L' := by
  have key : ∀ {row col row' col' : Int → Int} {L L' : Int}, (∀ k, 0 ≤ k → k < n → 0 ≤ row' k ∧ 0 ≤ col' k) → (∀ k, 0 ≤ k → k < n → row k = row' k ∧ col k = col' k) → grS row col n L → grS row' col' n L' → L ≤ L' := fun h0 e h h' => by
    rcases h.2 with q | ⟨k, a, b, c⟩
    · have x := h'.1 0 (by omega) (by omega)
      have y := h0 0 (by omega) (by omega)
      omega
    · have x := h'.1 k a b
      have y := e k a b
      omega
  have h0' : ∀ k, 0 ≤ k → k < n → 0 ≤ row' k ∧ 0 ≤ col' k := fun k a b => by have := h0 k a b; have := e k a b; omega
  have a := key h0' e h h'
  have b := key h0 (fun k a b => ⟨(e k a b).1.symm, (e k a b).2.symm⟩) h' h
  omega
theorem grS_s {row col : Int → Int} {i v x : Int} (hi : 0 ≤ i) (h : v = 0 ∨ ∃ k, 0 ≤ k ∧ k < i ∧ (v = row k ∨ v = col k)) (hx : x = v ∨ x = row i ∨ x = col i) : x = 0 ∨ ∃ k, 0 ≤ k ∧ k < i + 1 ∧ (x = row k ∨ x = col k) := by
  rcases hx with q | q
  · rw [q]
    rcases h with y | ⟨k, a, b, c⟩
    · exact Or.inl y
    · exact Or.inr ⟨k, a, by omega, c⟩
  · exact Or.inr ⟨i, hi, by omega, q⟩
theorem t_Ta_greatestSum {σ : eS} {t : Nat} (ht : tA t) (hT : iT σ t) : MtI shA M_Ta_greatestSum [vr t] σ (fun σ' z => σ' = σ ∧ 0 ≤ z ∧ z ≤ 799999992 ∧ grS (rowT σ t) (colT σ t) (σ t 1) z) := by
  refine Mt.of okM_Ta_greatestSum (Nat.le_of_ble_eq_true rfl) (fun hk hg => ?_)
  have hn := hT.1
  have hn2 := hT.2.1
  refine ok_iconst 0 rfl rfl (by decide) (ok_ist1 1 rfl rfl rfl (ok_iconst 2 rfl rfl (by decide) (ok_ist2 3 rfl rfl rfl ?_)))
  refine lpO2 (fun v i : Int => [some (vr t), some (vi v), some (vi i)]) (fun _ _ => σ) (fun v i => 0 ≤ i ∧ i ≤ σ t 1 ∧ 0 ≤ v ∧ v ≤ 799999992 ∧ grS (rowT σ t) (colT σ t) i v) (fun _ i => (8 - i).toNat) ?_ 0 0 ⟨by omega, by omega, by omega, by omega, fun k a b => by omega, Or.inl rfl⟩
  rintro v i ⟨i1, i2, v1, v2, vm, vx⟩ ih
  refine ok_iload_n 4 rfl rfl rfl (ok_aload_n 5 rfl rfl rfl (ok_getI 6 rfl rfl fl_X9_15 (sT ht) rfl (Or.inl rfl) (ok_icmp_ge 7 36 rfl rfl rfl (fun h9 => ?_) (fun h9 => ?_))))
  · refine ok_iload_n 20 rfl rfl rfl (ok_iret 21 rfl rfl rfl ?_)
    exact ⟨_, rfl, rfl, v1, v2, by rw [show σ t 1 = i by omega]; exact ⟨vm, vx⟩⟩
  · have rb := rowT_bd hT (i := i) ⟨i1, by omega⟩
    have cb := colT_bd hT (i := i) ⟨i1, by omega⟩
    refine ok_iload_n 8 rfl rfl rfl (ok_aload_n 9 rfl rfl rfl (ok_iload_n 10 rfl rfl rfl (ok_callVI (M' := M_Ta_sumOfRow) (as := [_]) 11 rfl rfl ml_X9_52 (s_Ta_sumOfRow ht hT ⟨by omega, by omega⟩) (sT ht) rfl (Nat.le_of_ble_eq_true rfl) ⟨Nat.le_of_ble_eq_true rfl, Nat.le_of_ble_eq_true rfl⟩ rfl (Nat.le_of_ble_eq_true rfl) (fun σ' z hz => ?_))))
    rw [hz.1, hz.2]
    clear hz z σ'
    refine ok_aload_n 12 rfl rfl rfl (ok_iload_n 13 rfl rfl rfl (ok_callVI (M' := M_Ta_sumOfColumn) (as := [_]) 14 rfl rfl ml_X9_62 (s_Ta_sumOfColumn ht hT ⟨by omega, by omega⟩) (sT ht) rfl (Nat.le_of_ble_eq_true rfl) ⟨Nat.le_of_ble_eq_true rfl, Nat.le_of_ble_eq_true rfl⟩ rfl (Nat.le_of_ble_eq_true rfl) (fun σ' z hz => ?_)))
    rw [hz.1, hz.2]
    clear hz z σ'
    refine ok_mmax 15 rfl rfl ml_X9_42 ⟨Nat.le_of_ble_eq_true rfl, Nat.le_of_ble_eq_true rfl⟩ (ok_mmax 16 rfl rfl ml_X9_42 ⟨Nat.le_of_ble_eq_true rfl, Nat.le_of_ble_eq_true rfl⟩ (ok_ist1 17 rfl rfl rfl (ok_inc2 18 rfl rfl rfl (by first | omega | (simp [up_if]; omega) | (simp [up_if] at *; omega)) (ok_goto 19 4 rfl rfl rfl ?_))))
    refine ih _ (i + 1) ⟨by omega, by omega, by omega, by omega, lt_ext (fun k a b => ?_) (by omega), grS_s i1 vx (by omega)⟩ (by omega)
    have := vm k a b
    omega
theorem pk_up {σ : eS} {q : Nat} {x a b z a' b' : Int} (hx : x = a * 8 + b) (hb : 0 ≤ b ∧ b < 8) (hb' : 0 ≤ b' ∧ b' < 8) : up σ q x z q (a' * 8 + b') = if a' = a ∧ b' = b then z else σ q (a' * 8 + b') := by
  rw [up_if]
  by_cases y : a' = a ∧ b' = b
  · rw [if_pos y, if_pos ⟨rfl, by rw [y.1, y.2, hx]⟩]
  · rw [if_neg y, if_neg (fun w => y (by omega))]
theorem bd_up {σ : eS} {q : Nat} {x z : Int} (h : bd64 σ q) (hz : 0 ≤ z ∧ z ≤ 799999992) : bd64 (up σ q x z) q := fun k a b => by
  rw [up_if]
  by_cases y : k = x
  · rw [if_pos ⟨rfl, y⟩]; exact hz
  · rw [if_neg (fun w => y w.2)]; exact h k a b
def shW (σ : eS) (t : Nat) (L : Int) : Int → Int → Int := tg (σ t 1) L (cT σ t) (rowT σ t) (colT σ t) (σ t 1) 0
def QSh (p q t : Nat) (σ σ' : eS) : Prop := fr (rgP0 p q) σ σ' ∧ bd64 σ' q ∧ σ' p 2 = 2 * σ t 1 ∧ 0 ≤ σ' p 3 ∧ σ' p 3 ≤ 799999992 ∧ grS (rowT σ t) (colT σ t) (σ t 1) (σ' p 3) ∧ ag (2 * σ t 1) (pk σ' q) (shW σ t (σ' p 3))
theorem t_Pe_startShop {σ : eS} {p q t : Nat} (hp : pP p q) (ht : tA t) (hT : iT σ t) (hn4 : σ t 1 ≤ 4) : MtV shA M_Pe_startShop [vr p, vr t] σ (fun σ' => QSh p q t σ σ') := by
  refine Mt.of okM_Pe_startShop (Nat.le_of_ble_eq_true rfl) (fun hk hg => ?_)
  obtain ⟨n0, n1, n2, n3, n4⟩ := pP_n hp
  have nA := tA_10 ht
  have m1 := hT.1
  refine ok_aload_n 0 rfl rfl rfl (ok_getI 1 rfl rfl fl_X5_41 (sT ht) rfl (Or.inl rfl) (ok_ist2 2 rfl rfl rfl (ok_aload_n 3 rfl rfl rfl (ok_callVI (M' := M_Ta_greatestSum) (as := []) 4 rfl rfl ml_X5_45 (t_Ta_greatestSum ht hT) (sT ht) rfl (Nat.le_of_ble_eq_true rfl) ⟨Nat.le_of_ble_eq_true rfl, Nat.le_of_ble_eq_true rfl⟩ rfl (Nat.le_of_ble_eq_true rfl) (fun σ' L hL => ?_)))))
  obtain ⟨hs_, hL⟩ := hL
  rw [hs_]; clear hs_ σ'
  refine ok_ist3 5 rfl rfl rfl (ok_aload_n 6 rfl rfl rfl (ok_getR 7 rfl rfl fl_X5_9 (sP hp) rfl (ok_iconst 8 rfl rfl (by decide) (ok_callSV (M' := M_Ja_fill) (as := [_, _]) 9 rfl rfl ml_X5_49 (s_Ja_fill (sQ hp) (by decide)) ⟨Nat.le_of_ble_eq_true rfl, Nat.le_of_ble_eq_true rfl⟩ rfl (Nat.le_of_ble_eq_true rfl) (fun τ f => ?_)))))
  refine ok_iconst 10 rfl rfl (by decide) (ok_ist4 11 rfl rfl rfl ?_)
  obtain ⟨L1, L2, L3⟩ := hL
  refine lpO2 (fun (i : Int) (_ : eS) => [some (vr p), some (vr t), some (vi (σ t 1)), some (vi L), some (vi i), none, none]) (fun _ ρ => ρ) (fun i ρ => 0 ≤ i ∧ i ≤ σ t 1 ∧ fr (fun c _ => c = q) σ ρ ∧ bd64 ρ q ∧ ∀ a b, 0 ≤ a → a < 2 * σ t 1 → 0 ≤ b → b < 2 * σ t 1 → ρ q (a * 8 + b) = tg (σ t 1) L (cT σ t) (rowT σ t) (colT σ t) i 0 a b) (fun i _ => (8 - i).toNat) ?_ 0 τ ⟨by omega, by omega, f.1, fun k a b => by rw [f.2 k a b]; omega, fun a b a1 a2 b1 b2 => by rw [f.2 _ (by omega) (by omega), tg_0 ⟨a1, a2⟩ ⟨b1, b2⟩]⟩
  clear f τ
  rintro i ρ ⟨i1, i2, f, hc, hw⟩ ih
  refine ok_iload 12 rfl rfl rfl (ok_iload_n 13 rfl rfl rfl (ok_icmp_ge 14 143 rfl rfl rfl (fun h24 => ?_) (fun h24 => ?_)))
  · refine ok_aload_n 85 rfl rfl rfl (ok_iconst 86 rfl rfl (by decide) (ok_iload_n 87 rfl rfl rfl (ok_imul 88 rfl rfl (by first | omega | (simp [up_if]; omega) | (simp [up_if] at *; omega)) (ok_putI 89 rfl rfl fl_X5_15 (sP hp) rfl rfl rfl (ok_aload_n 90 rfl rfl rfl (ok_iload_n 91 rfl rfl rfl (ok_putI 92 rfl rfl fl_X5_19 (sP hp) rfl rfl rfl (ok_aload_n 93 rfl rfl rfl (ok_iconst 94 rfl rfl (by decide) (ok_putI 95 rfl rfl fl_X5_22 (sP hp) rfl rfl rfl (ok_vret 96 rfl rfl rfl ?_)))))))))))
    have ei : i = σ t 1 := by omega
    rw [ei] at hw
    have e3 : ∀ a b c : Int, up (up (up ρ p 2 a) p 3 b) p 4 c p 3 = b := fun a b c => by rw [up_nk _ _ _ _ (by decide), up_same]
    have eq : ∀ a b c k : Int, up (up (up ρ p 2 a) p 3 b) p 4 c q k = ρ q k := fun a b c k => by rw [up_ne _ _ _ _ (Ne.symm n1), up_ne _ _ _ _ (Ne.symm n1), up_ne _ _ _ _ (Ne.symm n1)]
    refine ⟨rfl, fr_up (fr_up (fr_up (f.mono (fun c k w => Or.inr w)) (by simp [rgP0])) (by simp [rgP0])) (by simp [rgP0]), fun k a b => by rw [eq]; exact hc k a b, ?_, by rw [e3]; exact L1, by rw [e3]; exact L2, by rw [e3]; exact L3, fun a b a1 a2 b1 b2 => ?_⟩
    · rw [up_nk _ _ _ _ (by decide), up_nk _ _ _ _ (by decide), up_same]
    · rw [e3]
      unfold pk shW
      rw [eq]
      exact hw a b a1 a2 b1 b2
  · refine ok_iconst 15 rfl rfl (by decide) (ok_ist5 16 rfl rfl rfl ?_)
    have il : i < σ t 1 := by omega
    refine lpO2 (fun (j : Int) (_ : eS) => [some (vr p), some (vr t), some (vi (σ t 1)), some (vi L), some (vi i), some (vi j), none]) (fun _ ρ => ρ) (fun j ρ => 0 ≤ j ∧ j ≤ σ t 1 ∧ fr (fun c _ => c = q) σ ρ ∧ bd64 ρ q ∧ ∀ a b, 0 ≤ a → a < 2 * σ t 1 → 0 ≤ b → b < 2 * σ t 1 → ρ q (a * 8 + b) = tg (σ t 1) L (cT σ t) (rowT σ t) (colT σ t) i j a b) (fun j _ => (8 - j).toNat) ?_ 0 ρ ⟨by omega, by omega, f, hc, hw⟩
    clear f hc hw ρ
    rintro j ρ ⟨j1, j2, f, hc, hw⟩ ih2
    refine ok_iload 17 rfl rfl rfl (ok_iload_n 18 rfl rfl rfl (ok_icmp_ge 19 91 rfl rfl rfl (fun h33 => ?_) (fun h33 => ?_)))
    · have x1 := iT_cg hT (f t 1 (by omega)) (f t 2 (by omega)) (fun k => f (t + 4) k (by omega))
      have r1 := rowT_bd hT (i := i) ⟨i1, by omega⟩
      have r2 := colT_bd hT (i := i) ⟨i1, by omega⟩
      have r3 := L3.1 i i1 il
      refine ok_aload_n 53 rfl rfl rfl (ok_getR 54 rfl rfl fl_X5_9 (sP hp) rfl (ok_iload 55 rfl rfl rfl (ok_bipush 56 rfl rfl (by decide) (by decide) (ok_imul 57 rfl rfl (by first | omega | (simp [up_if]; omega) | (simp [up_if] at *; omega)) (ok_iload_n 58 rfl rfl rfl (ok_iadd 59 rfl rfl (by first | omega | (simp [up_if]; omega) | (simp [up_if] at *; omega)) (ok_iload 60 rfl rfl rfl (ok_iadd 61 rfl rfl (by first | omega | (simp [up_if]; omega) | (simp [up_if] at *; omega)) (ok_iload_n 62 rfl rfl rfl (ok_aload_n 63 rfl rfl rfl (ok_iload 64 rfl rfl rfl (ok_callVI (M' := M_Ta_sumOfRow) (as := [_]) 65 rfl rfl ml_X5_55 (s_Ta_sumOfRow ht x1.1 ⟨i1, by omega⟩) (sT ht) rfl (Nat.le_of_ble_eq_true rfl) ⟨Nat.le_of_ble_eq_true rfl, Nat.le_of_ble_eq_true rfl⟩ rfl (Nat.le_of_ble_eq_true rfl) (fun σ' z hz => ?_)))))))))))))
      rw [hz.1, hz.2]
      clear hz z σ'
      rw [x1.2.1]
      refine ok_isub 66 rfl rfl (by first | omega | (simp [up_if]; omega) | (simp [up_if] at *; omega)) (ok_iast 67 rfl rfl (sQ hp) (by first | omega | (simp [up_if]; omega) | (simp [up_if] at *; omega)) ?_)
      have f2 : fr (fun c _ => c = q) σ (up ρ q (i * 8 + σ t 1 + i) (L - rowT σ t i)) := fr_up f rfl
      have x2 := iT_cg hT (f2 t 1 (by omega)) (f2 t 2 (by omega)) (fun k => f2 (t + 4) k (by omega))
      refine ok_aload_n 68 rfl rfl rfl (ok_getR 69 rfl rfl fl_X5_9 (sP hp) rfl (ok_iload_n 70 rfl rfl rfl (ok_iload 71 rfl rfl rfl (ok_iadd 72 rfl rfl (by first | omega | (simp [up_if]; omega) | (simp [up_if] at *; omega)) (ok_bipush 73 rfl rfl (by decide) (by decide) (ok_imul 74 rfl rfl (by first | omega | (simp [up_if]; omega) | (simp [up_if] at *; omega)) (ok_iload 75 rfl rfl rfl (ok_iadd 76 rfl rfl (by first | omega | (simp [up_if]; omega) | (simp [up_if] at *; omega)) (ok_iload_n 77 rfl rfl rfl (ok_aload_n 78 rfl rfl rfl (ok_iload 79 rfl rfl rfl (ok_callVI (M' := M_Ta_sumOfColumn) (as := [_]) 80 rfl rfl ml_X5_59 (s_Ta_sumOfColumn ht x2.1 ⟨i1, by omega⟩) (sT ht) rfl (Nat.le_of_ble_eq_true rfl) ⟨Nat.le_of_ble_eq_true rfl, Nat.le_of_ble_eq_true rfl⟩ rfl (Nat.le_of_ble_eq_true rfl) (fun σ' z hz => ?_)))))))))))))
      rw [hz.1, hz.2]
      clear hz z σ'
      rw [x2.2.2]
      refine ok_isub 81 rfl rfl (by first | omega | (simp [up_if]; omega) | (simp [up_if] at *; omega)) (ok_iast 82 rfl rfl (sQ hp) (by first | omega | (simp [up_if]; omega) | (simp [up_if] at *; omega)) (ok_inc4 83 rfl rfl rfl (by first | omega | (simp [up_if]; omega) | (simp [up_if] at *; omega)) (ok_goto 84 21 rfl rfl rfl ?_)))
      have ej : j = σ t 1 := by omega
      rw [ej] at hw
      refine ok_fg [some (vr p), some (vr t), some (vi (σ t 1)), some (vi L), some (vi (i + 1)), none, none] ⟨rfl, rfl, rfl, rfl, rfl, trivial⟩ (ih (i + 1) _ ⟨by omega, by omega, fr_up f2 rfl, bd_up (bd_up hc ⟨by omega, by omega⟩) ⟨by omega, by omega⟩, fun a b a1 a2 b1 b2 => ?_⟩ (by omega))
      rw [pk_up (a := σ t 1 + i) (b := i) rfl ⟨by omega, by omega⟩ ⟨by omega, by omega⟩, pk_up (a := i) (b := σ t 1 + i) (by omega) ⟨by omega, by omega⟩ ⟨by omega, by omega⟩, hw a b a1 a2 b1 b2]
      exact tg_d ⟨i1, il⟩ ⟨a1, a2⟩ ⟨b1, b2⟩
    · refine ok_aload_n 20 rfl rfl rfl (ok_getR 21 rfl rfl fl_X5_32 (sT ht) rfl (ok_iload 22 rfl rfl rfl (ok_bipush 23 rfl rfl (by decide) (by decide) (ok_imul 24 rfl rfl (by first | omega | (simp [up_if]; omega) | (simp [up_if] at *; omega)) (ok_iload 25 rfl rfl rfl (ok_iadd 26 rfl rfl (by first | omega | (simp [up_if]; omega) | (simp [up_if] at *; omega)) (ok_iald 27 rfl rfl (sC ht) (by first | omega | (simp [up_if]; omega) | (simp [up_if] at *; omega)) (ok_ist6 28 rfl rfl rfl (ok_aload_n 29 rfl rfl rfl (ok_getR 30 rfl rfl fl_X5_9 (sP hp) rfl (ok_iload 31 rfl rfl rfl (ok_bipush 32 rfl rfl (by decide) (by decide) (ok_imul 33 rfl rfl (by first | omega | (simp [up_if]; omega) | (simp [up_if] at *; omega)) (ok_iload 34 rfl rfl rfl (ok_iadd 35 rfl rfl (by first | omega | (simp [up_if]; omega) | (simp [up_if] at *; omega)) (ok_iload 36 rfl rfl rfl (ok_iast 37 rfl rfl (sQ hp) (by first | omega | (simp [up_if]; omega) | (simp [up_if] at *; omega)) (ok_aload_n 38 rfl rfl rfl (ok_getR 39 rfl rfl fl_X5_9 (sP hp) rfl (ok_iload_n 40 rfl rfl rfl (ok_iload 41 rfl rfl rfl (ok_iadd 42 rfl rfl (by first | omega | (simp [up_if]; omega) | (simp [up_if] at *; omega)) (ok_bipush 43 rfl rfl (by decide) (by decide) (ok_imul 44 rfl rfl (by first | omega | (simp [up_if]; omega) | (simp [up_if] at *; omega)) (ok_iload_n 45 rfl rfl rfl (ok_iadd 46 rfl rfl (by first | omega | (simp [up_if]; omega) | (simp [up_if] at *; omega)) (ok_iload 47 rfl rfl rfl (ok_iadd 48 rfl rfl (by first | omega | (simp [up_if]; omega) | (simp [up_if] at *; omega)) (ok_iload 49 rfl rfl rfl (ok_iast 50 rfl rfl (sQ hp) (by first | omega | (simp [up_if]; omega) | (simp [up_if] at *; omega)) (ok_inc5 51 rfl rfl rfl (by first | omega | (simp [up_if]; omega) | (simp [up_if] at *; omega)) (ok_goto 52 30 rfl rfl rfl ?_))))))))))))))))))))))))))))))))
      have cc := hT.2.2.2 (i * 8 + j) (by omega) (by omega)
      have ce : ρ (t + 4) (i * 8 + j) = cT σ t i j := f (t + 4) _ (by omega)
      have cb : 0 ≤ cT σ t i j ∧ cT σ t i j ≤ 799999992 := by unfold cT; omega
      rw [ce]
      refine ok_fg [some (vr p), some (vr t), some (vi (σ t 1)), some (vi L), some (vi i), some (vi (j + 1)), none] ⟨rfl, rfl, rfl, rfl, rfl, rfl, trivial⟩ (ih2 (j + 1) _ ⟨by omega, by omega, fr_up (fr_up f rfl) rfl, bd_up (bd_up hc cb) cb, fun a b a1 a2 b1 b2 => ?_⟩ (by omega))
      rw [pk_up (a := σ t 1 + j) (b := σ t 1 + i) (by omega) ⟨by omega, by omega⟩ ⟨by omega, by omega⟩, pk_up (a := i) (b := j) rfl ⟨by omega, by omega⟩ ⟨by omega, by omega⟩, hw a b a1 a2 b1 b2]
      exact tg_s ⟨i1, il⟩ ⟨j1, by omega⟩
