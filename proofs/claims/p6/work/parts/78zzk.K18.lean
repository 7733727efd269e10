/-! FEWEST PARTS and BOUND of the class, and BOUND of the reference -/
theorem t_Se_leastOf {σ : eS} {c : Nat} (hs : nth shA c = some (1, 3, [])) : MtI shA M_Se_leastOf [vr c] σ (fun σ' z => σ' = σ ∧ (∀ k, 0 ≤ k → k < 3 → z ≤ σ c k) ∧ (z = σ c 0 ∨ z = σ c 1 ∨ z = σ c 2)) := by
  refine Mt.of okM_Se_leastOf (Nat.le_of_ble_eq_true rfl) (fun hk hg => ?_)
  refine ok_aload_n 0 rfl rfl rfl (ok_iconst 1 rfl rfl (by decide) (ok_iald 2 rfl rfl hs (by first | omega | (simp [up_if]; omega) | (simp [up_if] at *; omega)) (ok_ist1 3 rfl rfl rfl (ok_aload_n 4 rfl rfl rfl (ok_ast2 5 rfl rfl rfl (ok_aload_n 6 rfl rfl rfl (ok_alen 7 rfl rfl hs rfl rfl (by decide) (ok_ist3 8 rfl rfl rfl (ok_iconst 9 rfl rfl (by decide) (ok_ist4 10 rfl rfl rfl ?_))))))))))
  refine lpO2 (fun (v i : Int) => [some (vr c), some (vi v), some (vr c), some (vi 3), some (vi i), none]) (fun _ _ => σ) (fun v i => 0 ≤ i ∧ i ≤ 3 ∧ (∀ k, 0 ≤ k → k < i → v ≤ σ c k) ∧ (v = σ c 0 ∨ v = σ c 1 ∨ v = σ c 2)) (fun _ i => (3 - i).toNat) ?_ _ 0 ⟨by omega, by omega, fun k a b => by omega, Or.inl rfl⟩
  rintro v i ⟨i1, i2, i3, i4⟩ ih
  refine ok_iload 11 rfl rfl rfl (ok_iload_n 12 rfl rfl rfl (ok_icmp_ge 13 37 rfl rfl rfl (fun h15 => ?_) (fun h15 => ?_)))
  · refine ok_iload_n 24 rfl rfl rfl (ok_iret 25 rfl rfl rfl ?_)
    exact ⟨_, rfl, rfl, fun k a b => i3 k a (by omega), i4⟩
  · refine ok_aload_n 14 rfl rfl rfl (ok_iload 15 rfl rfl rfl (ok_iald 16 rfl rfl hs (by first | omega | (simp [up_if]; omega) | (simp [up_if] at *; omega)) (ok_ist5 17 rfl rfl rfl (ok_iload_n 18 rfl rfl rfl (ok_iload 19 rfl rfl rfl (ok_mmin 20 rfl rfl ml_X7_100 ⟨Nat.le_of_ble_eq_true rfl, Nat.le_of_ble_eq_true rfl⟩ (ok_ist1 21 rfl rfl rfl (ok_inc4 22 rfl rfl rfl (by first | omega | (simp [up_if]; omega) | (simp [up_if] at *; omega)) (ok_goto 23 12 rfl rfl rfl ?_)))))))))
    refine ok_fg [some (vr c), some (vi _), some (vr c), some (vi 3), some (vi (i + 1)), none] ⟨rfl, rfl, rfl, rfl, rfl, trivial⟩ (ih _ (i + 1) ⟨by omega, by omega, fun k a b => ?_, ?_⟩ (by omega))
    · rcases (by omega : k < i ∨ k = i) with q | q
      · have := i3 k a q; omega
      · rw [q]; omega
    · rcases (by omega : i = 0 ∨ i = 1 ∨ i = 2) with q | q | q <;> subst q <;> omega
theorem t_Se_countAbove {σ : eS} {c : Nat} {b : Int} (hs : nth shA c = some (1, 3, [])) : MtI shA M_Se_countAbove [vr c, vi b] σ (fun σ' z => σ' = σ ∧ z = sm (fun k => if b < σ c k then 1 else 0) 3 ∧ 0 ≤ z ∧ z ≤ 3) := by
  refine Mt.of okM_Se_countAbove (Nat.le_of_ble_eq_true rfl) (fun hk hg => ?_)
  refine ok_iconst 0 rfl rfl (by decide) (ok_ist2 1 rfl rfl rfl (ok_aload_n 2 rfl rfl rfl (ok_ast3 3 rfl rfl rfl (ok_aload_n 4 rfl rfl rfl (ok_alen 5 rfl rfl hs rfl rfl (by decide) (ok_ist4 6 rfl rfl rfl (ok_iconst 7 rfl rfl (by decide) (ok_ist5 8 rfl rfl rfl ?_))))))))
  refine lpO2 (fun (v i : Int) => [some (vr c), some (vi b), some (vi v), some (vr c), some (vi 3), some (vi i), none]) (fun _ _ => σ) (fun v i => 0 ≤ i ∧ i ≤ 3 ∧ v = sm (fun k => if b < σ c k then 1 else 0) i.toNat ∧ 0 ≤ v ∧ v ≤ i) (fun _ i => (3 - i).toNat) ?_ 0 0 ⟨by omega, by omega, rfl, by omega, by omega⟩
  rintro v i ⟨i1, i2, v0, v1, v2⟩ ih
  have es := sm_s (fun k => if b < σ c k then (1 : Int) else 0) i1
  refine ok_iload 9 rfl rfl rfl (ok_iload 10 rfl rfl rfl (ok_icmp_ge 11 39 rfl rfl rfl (fun h15 => ?_) (fun h15 => ?_)))
  · refine ok_iload_n 22 rfl rfl rfl (ok_iret 23 rfl rfl rfl ?_)
    exact ⟨_, rfl, rfl, by rw [v0, show i = 3 by omega]; rfl, v1, by omega⟩
  · refine ok_aload_n 12 rfl rfl rfl (ok_iload 13 rfl rfl rfl (ok_iald 14 rfl rfl hs (by first | omega | (simp [up_if]; omega) | (simp [up_if] at *; omega)) (ok_ist6 15 rfl rfl rfl (ok_iload 16 rfl rfl rfl (ok_iload_n 17 rfl rfl rfl (ok_icmp_le 18 33 rfl rfl rfl (fun h27 => ?_) (fun h27 => ?_)))))))
    · refine ok_inc5 20 rfl rfl rfl (by first | omega | (simp [up_if]; omega) | (simp [up_if] at *; omega)) (ok_goto 21 11 rfl rfl rfl ?_)
      refine ok_fg [some (vr c), some (vi b), some (vi _), some (vr c), some (vi 3), some (vi (i + 1)), none] ⟨rfl, rfl, rfl, rfl, rfl, rfl, trivial⟩ (ih _ (i + 1) ⟨by omega, by omega, ?_, by omega, by omega⟩ (by omega))
      rw [es]
      first | (rw [if_pos (by omega)]; omega) | (rw [if_neg (by omega)]; omega)
    · refine ok_inc2 19 rfl rfl rfl (by first | omega | (simp [up_if]; omega) | (simp [up_if] at *; omega)) (ok_inc5 20 rfl rfl rfl (by first | omega | (simp [up_if]; omega) | (simp [up_if] at *; omega)) (ok_goto 21 11 rfl rfl rfl ?_))
      refine ok_fg [some (vr c), some (vi b), some (vi _), some (vr c), some (vi 3), some (vi (i + 1)), none] ⟨rfl, rfl, rfl, rfl, rfl, rfl, trivial⟩ (ih _ (i + 1) ⟨by omega, by omega, ?_, by omega, by omega⟩ (by omega))
      rw [es]
      first | (rw [if_pos (by omega)]; omega) | (rw [if_neg (by omega)]; omega)
theorem t_Se_addWeight {σ : eS} {w : Int} (hC : iCh σ) (h0 : σ 17 0 < 3) (hw : 0 ≤ w) (hb : ∀ k, 0 ≤ k → k < 3 → (0 ≤ σ 28 k ∧ σ 28 k + w ≤ 799999992) ∧ (0 ≤ σ 29 k ∧ σ 29 k + w ≤ 799999992)) : MtV shA M_Se_addWeight [vr 25, vi w] σ (fun σ' => fr rgAW σ σ' ∧ adE (fun i => σ 17 i) (fun k => σ 28 k) (fun k => σ 29 k) (fun k => σ' 28 k) (fun k => σ' 29 k) w ∧ ∀ k, 0 ≤ k → k < 3 → (0 ≤ σ' 28 k ∧ σ' 28 k ≤ σ 28 k + w) ∧ (0 ≤ σ' 29 k ∧ σ' 29 k ≤ σ 29 k + w)) := by
  refine Mt.of okM_Se_addWeight (Nat.le_of_ble_eq_true rfl) (fun hk hg => ?_)
  have c0 := hC 0 (by decide) (by decide)
  have c1 := hC 1 (by decide) (by decide)
  have b0 := hb (σ 17 0) c0.1 h0
  refine ok_aload_n 0 rfl rfl rfl (ok_getR 1 rfl rfl fl_X7_27 rfl rfl (ok_getR 2 rfl rfl fl_X7_106 rfl rfl (ok_iconst 3 rfl rfl (by decide) (ok_iald 4 rfl rfl rfl (by first | omega | (simp [up_if]; omega) | (simp [up_if] at *; omega)) (ok_ist2 5 rfl rfl rfl (ok_iload_n 6 rfl rfl rfl (ok_iconst 7 rfl rfl (by decide) (ok_icmp_ge 8 55 rfl rfl rfl (fun h12 => ?_) (fun h12 => ?_)))))))))
  · exfalso; omega
  · refine ok_aload_n 9 rfl rfl rfl (ok_getR 10 rfl rfl fl_X7_27 rfl rfl (ok_getR 11 rfl rfl fl_X7_106 rfl rfl (ok_iconst 12 rfl rfl (by decide) (ok_iald 13 rfl rfl rfl (by first | omega | (simp [up_if]; omega) | (simp [up_if] at *; omega)) (ok_iload_n 14 rfl rfl rfl (ok_iconst 15 rfl rfl (by decide) (ok_iadd 16 rfl rfl (by first | omega | (simp [up_if]; omega) | (simp [up_if] at *; omega)) (ok_iconst 17 rfl rfl (by decide) (ok_irem 18 rfl rfl (by first | omega | (simp [up_if]; omega) | (simp [up_if] at *; omega)) (by first | omega | (simp [up_if]; omega) | (simp [up_if] at *; omega)) (ok_icmp_ne 19 45 rfl rfl rfl (fun h29 => ?_) (fun h29 => ?_)))))))))))
    · refine ok_aload_n 29 rfl rfl rfl (ok_getR 30 rfl rfl fl_X7_24 rfl rfl (ok_iload_n 31 rfl rfl rfl (ok_dup2 32 rfl rfl ⟨rfl, rfl⟩ (ok_iald 33 rfl rfl rfl (by first | omega | (simp [up_if]; omega) | (simp [up_if] at *; omega)) (ok_iload_n 34 rfl rfl rfl (ok_iadd 35 rfl rfl (by first | omega | (simp [up_if]; omega) | (simp [up_if] at *; omega)) (ok_iast 36 rfl rfl rfl (by first | omega | (simp [up_if]; omega) | (simp [up_if] at *; omega)) (ok_vret 37 rfl rfl rfl ?_))))))))
      first
        | (refine ⟨rfl, fr_up fr.rf (by simp [rgAW]), Or.inl ⟨by (try dsimp only); omega, fun k a b => ?_, fun k a b => ?_⟩, fun k a b => ?_⟩
           · (try dsimp only); rw [up_if]; by_cases q : k = σ 17 0
             · rw [if_pos ⟨rfl, q⟩, if_pos q, q]
             · rw [if_neg (fun x => q x.2), if_neg q]
           · (try dsimp only); rw [up_if, if_neg (by omega)]
           · have := hb k a b
             rw [up_if, up_if, if_neg (show ¬ ((29 : Nat) = 28 ∧ k = σ 17 0) by omega)]
             by_cases q : k = σ 17 0
             · rw [if_pos ⟨rfl, q⟩, ← q]; omega
             · rw [if_neg (fun x => q x.2)]; omega)
        | (refine ⟨rfl, fr_up fr.rf (by simp [rgAW]), Or.inr ⟨by (try dsimp only); omega, fun k a b => ?_, fun k a b => ?_⟩, fun k a b => ?_⟩
           · (try dsimp only); rw [up_if]; by_cases q : k = σ 17 0
             · rw [if_pos ⟨rfl, q⟩, if_pos q, q]
             · rw [if_neg (fun x => q x.2), if_neg q]
           · (try dsimp only); rw [up_if, if_neg (by omega)]
           · have := hb k a b
             rw [up_if, up_if, if_neg (show ¬ ((28 : Nat) = 29 ∧ k = σ 17 0) by omega)]
             by_cases q : k = σ 17 0
             · rw [if_pos ⟨rfl, q⟩, ← q]; omega
             · rw [if_neg (fun x => q x.2)]; omega)
    · refine ok_aload_n 20 rfl rfl rfl (ok_getR 21 rfl rfl fl_X7_21 rfl rfl (ok_iload_n 22 rfl rfl rfl (ok_dup2 23 rfl rfl ⟨rfl, rfl⟩ (ok_iald 24 rfl rfl rfl (by first | omega | (simp [up_if]; omega) | (simp [up_if] at *; omega)) (ok_iload_n 25 rfl rfl rfl (ok_iadd 26 rfl rfl (by first | omega | (simp [up_if]; omega) | (simp [up_if] at *; omega)) (ok_iast 27 rfl rfl rfl (by first | omega | (simp [up_if]; omega) | (simp [up_if] at *; omega)) (ok_goto 28 55 rfl rfl rfl (ok_vret 37 rfl rfl rfl ?_)))))))))
      first
        | (refine ⟨rfl, fr_up fr.rf (by simp [rgAW]), Or.inl ⟨by (try dsimp only); omega, fun k a b => ?_, fun k a b => ?_⟩, fun k a b => ?_⟩
           · (try dsimp only); rw [up_if]; by_cases q : k = σ 17 0
             · rw [if_pos ⟨rfl, q⟩, if_pos q, q]
             · rw [if_neg (fun x => q x.2), if_neg q]
           · (try dsimp only); rw [up_if, if_neg (by omega)]
           · have := hb k a b
             rw [up_if, up_if, if_neg (show ¬ ((29 : Nat) = 28 ∧ k = σ 17 0) by omega)]
             by_cases q : k = σ 17 0
             · rw [if_pos ⟨rfl, q⟩, ← q]; omega
             · rw [if_neg (fun x => q x.2)]; omega)
        | (refine ⟨rfl, fr_up fr.rf (by simp [rgAW]), Or.inr ⟨by (try dsimp only); omega, fun k a b => ?_, fun k a b => ?_⟩, fun k a b => ?_⟩
           · (try dsimp only); rw [up_if]; by_cases q : k = σ 17 0
             · rw [if_pos ⟨rfl, q⟩, if_pos q, q]
             · rw [if_neg (fun x => q x.2), if_neg q]
           · (try dsimp only); rw [up_if, if_neg (by omega)]
           · have := hb k a b
             rw [up_if, up_if, if_neg (show ¬ ((28 : Nat) = 29 ∧ k = σ 17 0) by omega)]
             by_cases q : k = σ 17 0
             · rw [if_pos ⟨rfl, q⟩, ← q]; omega
             · rw [if_neg (fun x => q x.2)]; omega)
def cFI (n m : Int) (W0 : Int → Int → Int) (t : Nat) (σ ρ : eS) (k : Int) : Prop := (0 ≤ k ∧ k ≤ 64) ∧ fr rgSf σ ρ ∧ iCh ρ ∧ cSe σ ρ k ∧ (ρ 30 2 = n ∧ bd64 ρ 35 ∧ 0 ≤ ρ 30 3 ∧ ρ 30 3 ≤ m) ∧ EvW n (pk ρ 35) (ρ 30 3) ∧ k + np2 n (pk ρ 35) ≤ 64 ∧ (0 ≤ ρ 30 4 ∧ ρ 30 4 ≤ k) ∧ fwI n W0 (pk ρ 35) (ρ 30 4) (fun x => ρ 28 x) (fun x => ρ 29 x) ∧ ∀ x, 0 ≤ x → x < 3 → (0 ≤ ρ 28 x ∧ ρ 28 x ≤ m - ρ 30 3) ∧ (0 ≤ ρ 29 x ∧ ρ 29 x ≤ m - ρ 30 3)
theorem t_Se_countFewest {σ : eS} {t : Nat} {n m : Int} {W0 : Int → Int → Int} (ht : tA t) (hT : iT σ t) (hC : iCh σ) (hS : iSe σ) (hS2 : σ 16 3 + 64 < 2147483647) (en : σ t 1 = n) (hn : 1 ≤ n ∧ n ≤ 3) (em : σ t 3 = m) (hm : 1 ≤ m ∧ m ≤ 799999992) (eW : W0 = cT σ t) (he : EvW n W0 m) : MtI shA M_Se_countFewest [vr 25, vr t] σ (fun σ' z => fr rgSf σ σ' ∧ iCh σ' ∧ cSe σ σ' 64 ∧ fwS n W0 z) := by
  refine Mt.of okM_Se_countFewest (Nat.le_of_ble_eq_true rfl) (fun hk hg => ?_)
  have nA := tA_10 ht
  have hp : pP 30 35 := by unfold pP; omega
  have n8 : 1 ≤ n ∧ n ≤ 8 := ⟨hn.1, by omega⟩
  refine ok_aload_n 0 rfl rfl rfl (ok_getR 1 rfl rfl fl_X7_21 rfl rfl (ok_iconst 2 rfl rfl (by decide) (ok_callSV (M' := M_Ja_fill) (as := [_, _]) 3 rfl rfl ml_X7_77 (s_Ja_fill (c := 28) (N := 3) rfl (by decide)) ⟨Nat.le_of_ble_eq_true rfl, Nat.le_of_ble_eq_true rfl⟩ rfl (Nat.le_of_ble_eq_true rfl) (fun τ1 f1 => ?_))))
  refine ok_aload_n 4 rfl rfl rfl (ok_getR 5 rfl rfl fl_X7_24 rfl rfl (ok_iconst 6 rfl rfl (by decide) (ok_callSV (M' := M_Ja_fill) (as := [_, _]) 7 rfl rfl ml_X7_77 (s_Ja_fill (c := 29) (N := 3) rfl (by decide)) ⟨Nat.le_of_ble_eq_true rfl, Nat.le_of_ble_eq_true rfl⟩ rfl (Nat.le_of_ble_eq_true rfl) (fun τ2 f2 => ?_))))
  refine ok_aload_n 8 rfl rfl rfl (ok_getR 9 rfl rfl fl_X7_13 rfl rfl (ok_iconst 10 rfl rfl (by decide) (ok_aald 11 30 rfl rfl rfl (Or.inr rfl) (by omega) rfl (ok_ast2 12 rfl rfl rfl ?_))))
  have F : fr rgAW σ τ2 := (f1.1.mono (fun c k w => Or.inl w)).tr (f2.1.mono (fun c k w => Or.inr w))
  refine ok_aload_n 13 rfl rfl rfl (ok_aload_n 14 rfl rfl rfl (ok_callVV (M' := M_Pe_startTable) (as := [_]) 15 rfl rfl ml_X7_40 (t_Pe_startTable hp ht) rfl rfl (Nat.le_of_ble_eq_true rfl) ⟨Nat.le_of_ble_eq_true rfl, Nat.le_of_ble_eq_true rfl⟩ rfl (Nat.le_of_ble_eq_true rfl) (fun τ g => ?_)))
  refine ok_iconst 16 rfl rfl (by decide) (ok_ist3 17 rfl rfl rfl ?_)
  obtain ⟨g1, g2, g3, g4, g5⟩ := g
  rw [F t 1 (by simp only [rgAW]; omega), en] at g2
  rw [F t 3 (by simp only [rgAW]; omega), em] at g3
  have g6 : ∀ k, 0 ≤ k → k < 64 → τ 35 k = σ (t + 4) k := fun k a b => by rw [g5 k a b, F (t + 4) k (by simp only [rgAW]; omega)]
  have aW : ag n (pk τ 35) W0 := fun i j a b c d => by rw [eW]; exact g6 _ (by omega) (by omega)
  have z28 : ∀ x, 0 ≤ x → x < 3 → τ 28 x = 0 := fun x a b => by rw [g1 28 x (by simp only [rgP0]; omega), f2.1 28 x (by omega)]; exact f1.2 x a (by omega)
  have z29 : ∀ x, 0 ≤ x → x < 3 → τ 29 x = 0 := fun x a b => by rw [g1 29 x (by simp only [rgP0]; omega)]; exact f2.2 x a (by omega)
  have hE : EvW n (pk τ 35) m := ⟨fun i j a b c d => by rw [aW i j a b c d]; exact he.1 i j a b c d, fun i a b => by rw [← he.2.1 i a b]; exact sm_cg (fun j c d => aW i j a b c (by omega)), fun j a b => by rw [← he.2.2 j a b]; exact sm_cg (fun i c d => aW i j c (by omega) a b)⟩
  have h0 : fwI n W0 (pk τ 35) (τ 30 4) (fun x => τ 28 x) (fun x => τ 29 x) := by
    refine ⟨fun q => ?_, fun q => ?_, fun q => ?_⟩
    · subst q
      have r0 : 0 + pk τ 35 0 0 = m := hE.2.1 0 (by decide) (by decide)
      rw [g4, if_pos (by omega)]; rfl
    · subst q
      rw [g4, aW 0 0 (by decide) (by decide) (by decide) (by decide), aW 0 1 (by decide) (by decide) (by decide) (by decide)]; omega
    · subst q
      unfold eoI
      (try dsimp only)
      rw [z28 0 (by decide) (by decide), z28 1 (by decide) (by decide), z28 2 (by decide) (by decide), z29 0 (by decide) (by decide), z29 1 (by decide) (by decide), z29 2 (by decide) (by decide)]
      have k00 := aW 0 0 (by decide) (by decide) (by decide) (by decide)
      have k01 := aW 0 1 (by decide) (by decide) (by decide) (by decide)
      have k02 := aW 0 2 (by decide) (by decide) (by decide) (by decide)
      have k10 := aW 1 0 (by decide) (by decide) (by decide) (by decide)
      have k11 := aW 1 1 (by decide) (by decide) (by decide) (by decide)
      have k12 := aW 1 2 (by decide) (by decide) (by decide) (by decide)
      have k20 := aW 2 0 (by decide) (by decide) (by decide) (by decide)
      have k21 := aW 2 1 (by decide) (by decide) (by decide) (by decide)
      have k22 := aW 2 2 (by decide) (by decide) (by decide) (by decide)
      exact ⟨by omega, by omega, by omega, by omega, by omega, by omega, by omega, by omega, by omega⟩
  have hb0 : bd64 τ 35 := fun k a b => by have := hT.2.2.2 k a b; rw [g6 k a b]; omega
  have e16 : τ 16 3 = σ 16 3 := by rw [g1 16 3 (by simp only [rgP0]; omega), F 16 3 (by simp only [rgAW]; omega)]
  have e19 : ∀ k, τ 19 k = σ 19 k := fun k => by rw [g1 19 k (by simp only [rgP0]; omega), F 19 k (by simp only [rgAW]; omega)]
  have hC0 : iCh τ := iCh_cg hC (fun k => by rw [g1 17 k (by simp only [rgP0]; omega), F 17 k (by simp only [rgAW]; omega)])
  have hnp := np2_bd ⟨by omega, n8.2⟩ (pk τ 35)
  refine lpO2 (fun (k : Int) (_ : eS) => [some (vr 25), some (vr t), some (vr 30), some (vi k), none]) (fun _ ρ => ρ) (fun k ρ => cFI n m W0 t σ ρ k) (fun k _ => (64 - k).toNat) ?_ 0 τ ⟨⟨by omega, by omega⟩, (F.mono (fun c k w => by simp only [rgAW, rgSf] at w ⊢; omega)).tr (g1.mono (fun c k w => by simp only [rgP0, rgSf] at w ⊢; omega)), hC0, ⟨iSe_cg hS e16 e19, by omega, by omega⟩, ⟨g2, hb0, by omega, by omega⟩, by rw [g3]; exact hE, by omega, ⟨by omega, by omega⟩, h0, fun x a b => by rw [z28 x a b, z29 x a b, g3]; omega⟩
  clear h0 hb0 e16 e19 hC0 hnp hE z28 z29 aW g1 g2 g3 g4 g5 g6 τ F f1 f2 τ1 τ2
  rintro k ρ ⟨⟨k1, k2⟩, f, c1, ⟨s1, s2, s3⟩, ⟨c2, c3, c4, c5⟩, c6, c7, c8, c9, cE⟩ ih
  have fin : k = 64 ∨ ρ 30 3 ≤ 0 → nil0 n (pk ρ 35) := fun q => by
    by_cases y : 1 ≤ ρ 30 3
    · have := np2_pos n8 c6 y
      omega
    · rw [show ρ 30 3 = 0 by omega] at c6
      exact EvW_0 c6
  have rt : ρ t 1 = n := by rw [f t 1 (by simp only [rgSf]; omega), en]
  refine ok_iload_n 18 rfl rfl rfl (ok_bipush 19 rfl rfl (by decide) (by decide) (ok_icmp_ge 20 62 rfl rfl rfl (fun h33 => ?_) (fun h33 => ?_)))
  · refine ok_aload_n 33 rfl rfl rfl (ok_getI 34 rfl rfl fl_X7_89 (sT ht) rfl (Or.inl rfl) (ok_iconst 35 rfl rfl (by decide) (ok_icmp_ge 36 75 rfl rfl rfl (fun h67 => ?_) (fun h67 => ?_))))
    · have n3 : n = 3 := by omega
      have nl := fin (by omega)
      refine ok_aload_n 40 rfl rfl rfl (ok_getR 41 rfl rfl fl_X7_21 rfl rfl (ok_callSI (M' := M_Se_leastOf) (as := [_]) 42 rfl rfl ml_X7_92 (t_Se_leastOf (c := 28) rfl) ⟨Nat.le_of_ble_eq_true rfl, Nat.le_of_ble_eq_true rfl⟩ rfl (Nat.le_of_ble_eq_true rfl) (fun σ' z1 x1 => ?_)))
      obtain ⟨hs_, x1⟩ := x1
      rw [hs_]; clear hs_ σ'
      refine ok_ist3 43 rfl rfl rfl (ok_aload_n 44 rfl rfl rfl (ok_getR 45 rfl rfl fl_X7_24 rfl rfl (ok_callSI (M' := M_Se_leastOf) (as := [_]) 46 rfl rfl ml_X7_92 (t_Se_leastOf (c := 29) rfl) ⟨Nat.le_of_ble_eq_true rfl, Nat.le_of_ble_eq_true rfl⟩ rfl (Nat.le_of_ble_eq_true rfl) (fun σ' z2 x2 => ?_))))
      obtain ⟨hs_, x2⟩ := x2
      rw [hs_]; clear hs_ σ'
      have y1 : 0 ≤ z1 ∧ z1 ≤ 799999992 := by
        have a0 := cE 0 (by decide) (by decide)
        have a1 := cE 1 (by decide) (by decide)
        have a2 := cE 2 (by decide) (by decide)
        have := x1.2
        omega
      have y2 : 0 ≤ z2 ∧ z2 ≤ 799999992 := by
        have a0 := cE 0 (by decide) (by decide)
        have a1 := cE 1 (by decide) (by decide)
        have a2 := cE 2 (by decide) (by decide)
        have := x2.2
        omega
      refine ok_ist4 47 rfl rfl rfl (ok_aload_n 48 rfl rfl rfl (ok_getR 49 rfl rfl fl_X7_21 rfl rfl (ok_iload_n 50 rfl rfl rfl (ok_callSI (M' := M_Se_countAbove) (as := [_, _]) 51 rfl rfl ml_X7_96 (t_Se_countAbove (c := 28) rfl) ⟨Nat.le_of_ble_eq_true rfl, Nat.le_of_ble_eq_true rfl⟩ rfl (Nat.le_of_ble_eq_true rfl) (fun σ' z3 x3 => ?_)))))
      obtain ⟨hs_, x3⟩ := x3
      rw [hs_]; clear hs_ σ'
      refine ok_aload_n 52 rfl rfl rfl (ok_getR 53 rfl rfl fl_X7_24 rfl rfl (ok_iload_n 54 rfl rfl rfl (ok_ineg 55 rfl rfl (by first | omega | (simp [up_if]; omega) | (simp [up_if] at *; omega)) (ok_callSI (M' := M_Se_countAbove) (as := [_, _]) 56 rfl rfl ml_X7_96 (t_Se_countAbove (c := 29) rfl) ⟨Nat.le_of_ble_eq_true rfl, Nat.le_of_ble_eq_true rfl⟩ rfl (Nat.le_of_ble_eq_true rfl) (fun σ' z4 x4 => ?_)))))
      obtain ⟨hs_, x4⟩ := x4
      rw [hs_]; clear hs_ σ'
      refine ok_iadd 57 rfl rfl (by first | omega | (simp [up_if]; omega) | (simp [up_if] at *; omega)) (ok_aload_n 58 rfl rfl rfl (ok_getR 59 rfl rfl fl_X7_21 rfl rfl (ok_iload 60 rfl rfl rfl (ok_ineg 61 rfl rfl (by first | omega | (simp [up_if]; omega) | (simp [up_if] at *; omega)) (ok_callSI (M' := M_Se_countAbove) (as := [_, _]) 62 rfl rfl ml_X7_96 (t_Se_countAbove (c := 28) rfl) ⟨Nat.le_of_ble_eq_true rfl, Nat.le_of_ble_eq_true rfl⟩ rfl (Nat.le_of_ble_eq_true rfl) (fun σ' z5 x5 => ?_))))))
      obtain ⟨hs_, x5⟩ := x5
      rw [hs_]; clear hs_ σ'
      refine ok_aload_n 63 rfl rfl rfl (ok_getR 64 rfl rfl fl_X7_24 rfl rfl (ok_iload 65 rfl rfl rfl (ok_callSI (M' := M_Se_countAbove) (as := [_, _]) 66 rfl rfl ml_X7_96 (t_Se_countAbove (c := 29) rfl) ⟨Nat.le_of_ble_eq_true rfl, Nat.le_of_ble_eq_true rfl⟩ rfl (Nat.le_of_ble_eq_true rfl) (fun σ' z6 x6 => ?_))))
      obtain ⟨hs_, x6⟩ := x6
      rw [hs_]; clear hs_ σ'
      refine ok_iadd 67 rfl rfl (by first | omega | (simp [up_if]; omega) | (simp [up_if] at *; omega)) (ok_mmin 68 rfl rfl ml_X7_100 ⟨Nat.le_of_ble_eq_true rfl, Nat.le_of_ble_eq_true rfl⟩ (ok_iret 69 rfl rfl rfl ?_))
      refine ⟨_, rfl, f, c1, ⟨s1, s2, by omega⟩, Or.inr (Or.inr ⟨n3, ?_⟩)⟩
      have eo := c9.2.2 n3
      have eo0 : eoI W0 (fun _ _ => 0) (fun x => ρ 28 x) (fun x => ρ 29 x) := by
        have q : ∀ i j, 0 ≤ i → i < 3 → 0 ≤ j → j < 3 → pk ρ 35 i j = 0 := fun i j a b c d => by
          have h1 := nl i j a (by omega) c (by omega)
          have h2 := c6.1 i j a (by omega) c (by omega)
          omega
        unfold eoI at eo ⊢
        rw [q 0 0 (by decide) (by decide) (by decide) (by decide), q 0 1 (by decide) (by decide) (by decide) (by decide), q 0 2 (by decide) (by decide) (by decide) (by decide), q 1 0 (by decide) (by decide) (by decide) (by decide), q 1 1 (by decide) (by decide) (by decide) (by decide), q 1 2 (by decide) (by decide) (by decide) (by decide), q 2 0 (by decide) (by decide) (by decide) (by decide), q 2 1 (by decide) (by decide) (by decide) (by decide), q 2 2 (by decide) (by decide) (by decide) (by decide)] at eo
        exact eo
      have fe := fw_end (p := z1) (q := z2) eo0 (fun k a b => ⟨x1.1 k a b, x2.1 k a b⟩) x1.2 x2.2 (fun k a b => ⟨(cE k a b).1.1, (cE k a b).2.1⟩)
      have e1 : cX (fun x => ρ 28 x) (fun x => ρ 29 x) z1 = z3 + z4 := by rw [x3.1, x4.1]; rfl
      have e2 : cX (fun x => ρ 28 x) (fun x => ρ 29 x) (-z2) = z5 + z6 := by rw [x5.1, x6.1]; unfold cX; rw [Int.neg_neg]
      rw [e1, e2] at fe
      exact fe
    · refine ok_aload_n 37 rfl rfl rfl (ok_getI 38 rfl rfl fl_X7_71 rfl rfl (Or.inl rfl) (ok_iret 39 rfl rfl rfl ?_))
      have nl := fin (by omega)
      refine ⟨_, rfl, f, c1, ⟨s1, s2, by omega⟩, ?_⟩
      rcases (by omega : n = 1 ∨ n = 2) with q | q
      · refine Or.inl ⟨q, ?_⟩
        have a1 := c9.1 q
        have a2 := nl 0 0 (by omega) (by omega) (by omega) (by omega)
        rw [if_neg (by omega)] at a1
        omega
      · refine Or.inr (Or.inl ⟨q, ?_⟩)
        have a1 := c9.2.1 q
        have a2 := nl 0 0 (by omega) (by omega) (by omega) (by omega)
        have a3 := nl 0 1 (by omega) (by omega) (by omega) (by omega)
        rw [if_neg (by omega), if_neg (by omega)] at a1
        omega
  · refine ok_aload_n 21 rfl rfl rfl (ok_getI 22 rfl rfl fl_X7_60 rfl rfl (Or.inl rfl) (ok_if_le 23 62 rfl rfl rfl (fun h40 => ?_) (fun h40 => ?_)))
    · refine ok_aload_n 33 rfl rfl rfl (ok_getI 34 rfl rfl fl_X7_89 (sT ht) rfl (Or.inl rfl) (ok_iconst 35 rfl rfl (by decide) (ok_icmp_ge 36 75 rfl rfl rfl (fun h67 => ?_) (fun h67 => ?_))))
      · have n3 : n = 3 := by omega
        have nl := fin (by omega)
        refine ok_aload_n 40 rfl rfl rfl (ok_getR 41 rfl rfl fl_X7_21 rfl rfl (ok_callSI (M' := M_Se_leastOf) (as := [_]) 42 rfl rfl ml_X7_92 (t_Se_leastOf (c := 28) rfl) ⟨Nat.le_of_ble_eq_true rfl, Nat.le_of_ble_eq_true rfl⟩ rfl (Nat.le_of_ble_eq_true rfl) (fun σ' z1 x1 => ?_)))
        obtain ⟨hs_, x1⟩ := x1
        rw [hs_]; clear hs_ σ'
        refine ok_ist3 43 rfl rfl rfl (ok_aload_n 44 rfl rfl rfl (ok_getR 45 rfl rfl fl_X7_24 rfl rfl (ok_callSI (M' := M_Se_leastOf) (as := [_]) 46 rfl rfl ml_X7_92 (t_Se_leastOf (c := 29) rfl) ⟨Nat.le_of_ble_eq_true rfl, Nat.le_of_ble_eq_true rfl⟩ rfl (Nat.le_of_ble_eq_true rfl) (fun σ' z2 x2 => ?_))))
        obtain ⟨hs_, x2⟩ := x2
        rw [hs_]; clear hs_ σ'
        have y1 : 0 ≤ z1 ∧ z1 ≤ 799999992 := by
          have a0 := cE 0 (by decide) (by decide)
          have a1 := cE 1 (by decide) (by decide)
          have a2 := cE 2 (by decide) (by decide)
          have := x1.2
          omega
        have y2 : 0 ≤ z2 ∧ z2 ≤ 799999992 := by
          have a0 := cE 0 (by decide) (by decide)
          have a1 := cE 1 (by decide) (by decide)
          have a2 := cE 2 (by decide) (by decide)
          have := x2.2
          omega
        refine ok_ist4 47 rfl rfl rfl (ok_aload_n 48 rfl rfl rfl (ok_getR 49 rfl rfl fl_X7_21 rfl rfl (ok_iload_n 50 rfl rfl rfl (ok_callSI (M' := M_Se_countAbove) (as := [_, _]) 51 rfl rfl ml_X7_96 (t_Se_countAbove (c := 28) rfl) ⟨Nat.le_of_ble_eq_true rfl, Nat.le_of_ble_eq_true rfl⟩ rfl (Nat.le_of_ble_eq_true rfl) (fun σ' z3 x3 => ?_)))))
        obtain ⟨hs_, x3⟩ := x3
        rw [hs_]; clear hs_ σ'
        refine ok_aload_n 52 rfl rfl rfl (ok_getR 53 rfl rfl fl_X7_24 rfl rfl (ok_iload_n 54 rfl rfl rfl (ok_ineg 55 rfl rfl (by first | omega | (simp [up_if]; omega) | (simp [up_if] at *; omega)) (ok_callSI (M' := M_Se_countAbove) (as := [_, _]) 56 rfl rfl ml_X7_96 (t_Se_countAbove (c := 29) rfl) ⟨Nat.le_of_ble_eq_true rfl, Nat.le_of_ble_eq_true rfl⟩ rfl (Nat.le_of_ble_eq_true rfl) (fun σ' z4 x4 => ?_)))))
        obtain ⟨hs_, x4⟩ := x4
        rw [hs_]; clear hs_ σ'
        refine ok_iadd 57 rfl rfl (by first | omega | (simp [up_if]; omega) | (simp [up_if] at *; omega)) (ok_aload_n 58 rfl rfl rfl (ok_getR 59 rfl rfl fl_X7_21 rfl rfl (ok_iload 60 rfl rfl rfl (ok_ineg 61 rfl rfl (by first | omega | (simp [up_if]; omega) | (simp [up_if] at *; omega)) (ok_callSI (M' := M_Se_countAbove) (as := [_, _]) 62 rfl rfl ml_X7_96 (t_Se_countAbove (c := 28) rfl) ⟨Nat.le_of_ble_eq_true rfl, Nat.le_of_ble_eq_true rfl⟩ rfl (Nat.le_of_ble_eq_true rfl) (fun σ' z5 x5 => ?_))))))
        obtain ⟨hs_, x5⟩ := x5
        rw [hs_]; clear hs_ σ'
        refine ok_aload_n 63 rfl rfl rfl (ok_getR 64 rfl rfl fl_X7_24 rfl rfl (ok_iload 65 rfl rfl rfl (ok_callSI (M' := M_Se_countAbove) (as := [_, _]) 66 rfl rfl ml_X7_96 (t_Se_countAbove (c := 29) rfl) ⟨Nat.le_of_ble_eq_true rfl, Nat.le_of_ble_eq_true rfl⟩ rfl (Nat.le_of_ble_eq_true rfl) (fun σ' z6 x6 => ?_))))
        obtain ⟨hs_, x6⟩ := x6
        rw [hs_]; clear hs_ σ'
        refine ok_iadd 67 rfl rfl (by first | omega | (simp [up_if]; omega) | (simp [up_if] at *; omega)) (ok_mmin 68 rfl rfl ml_X7_100 ⟨Nat.le_of_ble_eq_true rfl, Nat.le_of_ble_eq_true rfl⟩ (ok_iret 69 rfl rfl rfl ?_))
        refine ⟨_, rfl, f, c1, ⟨s1, s2, by omega⟩, Or.inr (Or.inr ⟨n3, ?_⟩)⟩
        have eo := c9.2.2 n3
        have eo0 : eoI W0 (fun _ _ => 0) (fun x => ρ 28 x) (fun x => ρ 29 x) := by
          have q : ∀ i j, 0 ≤ i → i < 3 → 0 ≤ j → j < 3 → pk ρ 35 i j = 0 := fun i j a b c d => by
            have h1 := nl i j a (by omega) c (by omega)
            have h2 := c6.1 i j a (by omega) c (by omega)
            omega
          unfold eoI at eo ⊢
          rw [q 0 0 (by decide) (by decide) (by decide) (by decide), q 0 1 (by decide) (by decide) (by decide) (by decide), q 0 2 (by decide) (by decide) (by decide) (by decide), q 1 0 (by decide) (by decide) (by decide) (by decide), q 1 1 (by decide) (by decide) (by decide) (by decide), q 1 2 (by decide) (by decide) (by decide) (by decide), q 2 0 (by decide) (by decide) (by decide) (by decide), q 2 1 (by decide) (by decide) (by decide) (by decide), q 2 2 (by decide) (by decide) (by decide) (by decide)] at eo
          exact eo
        have fe := fw_end (p := z1) (q := z2) eo0 (fun k a b => ⟨x1.1 k a b, x2.1 k a b⟩) x1.2 x2.2 (fun k a b => ⟨(cE k a b).1.1, (cE k a b).2.1⟩)
        have e1 : cX (fun x => ρ 28 x) (fun x => ρ 29 x) z1 = z3 + z4 := by rw [x3.1, x4.1]; rfl
        have e2 : cX (fun x => ρ 28 x) (fun x => ρ 29 x) (-z2) = z5 + z6 := by rw [x5.1, x6.1]; unfold cX; rw [Int.neg_neg]
        rw [e1, e2] at fe
        exact fe
      · refine ok_aload_n 37 rfl rfl rfl (ok_getI 38 rfl rfl fl_X7_71 rfl rfl (Or.inl rfl) (ok_iret 39 rfl rfl rfl ?_))
        have nl := fin (by omega)
        refine ⟨_, rfl, f, c1, ⟨s1, s2, by omega⟩, ?_⟩
        rcases (by omega : n = 1 ∨ n = 2) with q | q
        · refine Or.inl ⟨q, ?_⟩
          have a1 := c9.1 q
          have a2 := nl 0 0 (by omega) (by omega) (by omega) (by omega)
          rw [if_neg (by omega)] at a1
          omega
        · refine Or.inr (Or.inl ⟨q, ?_⟩)
          have a1 := c9.2.1 q
          have a2 := nl 0 0 (by omega) (by omega) (by omega) (by omega)
          have a3 := nl 0 1 (by omega) (by omega) (by omega) (by omega)
          rw [if_neg (by omega), if_neg (by omega)] at a1
          omega
    · refine ok_aload_n 24 rfl rfl rfl (ok_iconst 25 rfl rfl (by decide) (ok_callVV (M' := M_Pe_takePart) (as := [_]) 26 rfl rfl ml_X7_63 (t_Pe_takePart (p := 30) (q := 35) (m := ρ 30 3) hp ⟨by decide, by decide⟩ (by rw [c2]; exact n8) c3 rfl ⟨by omega, by omega⟩ (by rw [c2]; exact c6) c1 s1 (by omega)) rfl rfl (Nat.le_of_ble_eq_true rfl) ⟨Nat.le_of_ble_eq_true rfl, Nat.le_of_ble_eq_true rfl⟩ rfl (Nat.le_of_ble_eq_true rfl) (fun υ u => ?_)))
      obtain ⟨u1, u2, ⟨u3, u4, u5⟩, u6, u7, u8, u9⟩ := u
      rw [c2] at u9
      obtain ⟨w1, w2, w3, w4⟩ := stp_ev n8 c6 u9
      have hpc := (chS_ps n8 u9.1).1.1 0 (by decide) (by omega)
      have v28 : ∀ x, υ 28 x = ρ 28 x := fun x => u1 28 x (by simp only [rgPe]; omega)
      have v29 : ∀ x, υ 29 x = ρ 29 x := fun x => u1 29 x (by simp only [rgPe]; omega)
      refine ok_aload_n 27 rfl rfl rfl (ok_aload_n 28 rfl rfl rfl (ok_getI 29 rfl rfl fl_X7_83 rfl rfl (Or.inl rfl) (ok_callVV (M' := M_Se_addWeight) (as := [_]) 30 rfl rfl ml_X7_86 (t_Se_addWeight u2 (by (try dsimp only at hpc); omega) (by omega) (fun x a b => by have := cE x a b; rw [v28, v29]; omega)) rfl rfl (Nat.le_of_ble_eq_true rfl) ⟨Nat.le_of_ble_eq_true rfl, Nat.le_of_ble_eq_true rfl⟩ rfl (Nat.le_of_ble_eq_true rfl) (fun ω v => ?_))))
      obtain ⟨v1, v2, v3⟩ := v
      refine ok_inc3 31 rfl rfl rfl (by first | omega | (simp [up_if]; omega) | (simp [up_if] at *; omega)) (ok_goto 32 30 rfl rfl rfl ?_)
      have o30 : ∀ x, ω 30 x = υ 30 x := fun x => v1 30 x (by simp only [rgAW]; omega)
      have o35 : pk ω 35 = pk υ 35 := by funext i j; exact v1 35 _ (by simp only [rgAW]; omega)
      have o16 : ω 16 3 = υ 16 3 := v1 16 3 (by simp only [rgAW]; omega)
      have o19 : ∀ x, ω 19 x = υ 19 x := fun x => v1 19 x (by simp only [rgAW]; omega)
      have o4 : ω 30 4 = ρ 30 4 + 1 := by rw [o30, u8, wr_id ⟨by omega, by omega⟩]
      have o3 : ω 30 3 = ρ 30 3 - υ 30 5 := by rw [o30, u7]
      refine ih (k + 1) ω ⟨⟨by omega, by omega⟩, (f.tr (u1.mono (fun c k w => by simp only [rgPe, rgSf] at w ⊢; omega))).tr (v1.mono (fun c k w => by simp only [rgAW, rgSf] at w ⊢; omega)), iCh_cg u2 (fun k => v1 17 k (by simp [rgAW])), ⟨iSe_cg u3 o16 o19, by omega, by omega⟩, ⟨by rw [o30, u1 30 2 (by simp only [rgPe]; omega), c2], fun x a b => by rw [v1 35 x (by simp only [rgAW]; omega)]; exact u6 x a b, by omega, by omega⟩, by rw [o35, o3]; exact w3, by rw [o35]; omega, ⟨by omega, by omega⟩, ?_, fun x a b => ?_⟩ (by omega)
      · rw [o35, o4]
        refine fwI_s hn c6 c9 u9 (fun _ => ?_)
        have v2' := v2
        simp only [v28, v29] at v2'
        exact v2'
      · have y1 := v3 x a b
        have y2 := cE x a b
        rw [v28, v29] at y1
        omega
theorem gpV_bd {n : Int} {W : Int → Int → Int} (hn : 0 ≤ n ∧ n ≤ 8) : 0 ≤ gpV n W ∧ gpV n W ≤ 16 := by
  have a := sm_bd (f := fun r => ind (newR n W r)) (B := 1) (by decide) (n := n.toNat) (fun k _ _ => ind_bd _)
  have b := sm_bd (f := fun j => ind (lonC n W j)) (B := 1) (by decide) (n := n.toNat) (fun k _ _ => ind_bd _)
  unfold gpV
  omega
def boS (E : Prop) (n : Int) (W : Int → Int → Int) (w z : Int) : Prop := (¬ (E ∧ (w = 0 ∨ (w = 1 ∧ n ≤ 3))) ∧ z = -1) ∨ (E ∧ w = 0 ∧ z = cnV n W - 2 * n + gpV n W + 1) ∨ (E ∧ w = 1 ∧ n ≤ 3 ∧ fwS n W z)
theorem boS_un {E E' : Prop} {n n' w z z' : Int} {W V : Int → Int → Int} (hE : E ↔ E') (e : E → n = n' ∧ ag n W V) (h : boS E n W w z) (g : boS E' n' V w z') : z = z' := by
  rcases h with ⟨a, h⟩ | ⟨a, a1, h⟩ | ⟨a, a1, a2, h⟩
  · rcases g with ⟨b, g⟩ | ⟨b, b1, g⟩ | ⟨b, b1, b2, g⟩
    · omega
    · exact absurd ⟨hE.mpr b, Or.inl b1⟩ a
    · exact absurd ⟨hE.mpr b, Or.inr ⟨b1, by rw [(e (hE.mpr b)).1]; exact b2⟩⟩ a
  · obtain ⟨e1, e2⟩ := e a
    subst e1
    rcases g with ⟨b, g⟩ | ⟨b, b1, g⟩ | ⟨b, b1, b2, g⟩
    · exact absurd ⟨hE.mp a, Or.inl a1⟩ b
    · rw [h, g, cnV_cg e2, gpV_cg e2]
    · omega
  · obtain ⟨e1, e2⟩ := e a
    subst e1
    rcases g with ⟨b, g⟩ | ⟨b, b1, g⟩ | ⟨b, b1, b2, g⟩
    · exact absurd ⟨hE.mp a, Or.inr ⟨a1, a2⟩⟩ b
    · omega
    · exact fwS_un e2 h g
theorem t_Ev_bound {σ : eS} {s w : Int} (h : IA σ) (hS : iSe σ) (hS2 : σ 16 3 + 64 < 2147483647) : MtI shA M_Ev_bound [vr 0, vi s, vi w] σ (fun σ' z => QA σ σ' ∧ boS (evA σ s) (σ (s.toNat + 2) 1) (cT σ (s.toNat + 2)) w z) := by
  refine Mt.of okM_Ev_bound (Nat.le_of_ble_eq_true rfl) (fun hk hg => ?_)
  refine ok_aload_n 0 rfl rfl rfl (ok_iload_n 1 rfl rfl rfl (ok_callVR (M' := M_Ev_evenSlot) (as := [_]) 2 rfl rfl ml_X11_163 (s_Ev_evenSlot) rfl rfl (Nat.le_of_ble_eq_true rfl) ⟨Nat.le_of_ble_eq_true rfl, Nat.le_of_ble_eq_true rfl⟩ rfl (Nat.le_of_ble_eq_true rfl) (fun σ' z hz => ?_)))
  obtain ⟨hs_, hz⟩ := hz
  rw [hs_]; clear hs_ σ'
  rcases hz with ⟨q, q0⟩ | ⟨q1, q2, q, q3⟩
  · subst q
    refine ok_ast3 3 rfl rfl rfl (ok_aload_n 4 rfl rfl rfl (ok_ifnonnullN 5 rfl rfl (ok_iconst 6 rfl rfl (by decide) (ok_iret 7 rfl rfl rfl ?_))))
    exact ⟨_, rfl, QA_rf h, Or.inl ⟨fun c => q0 c.1, rfl⟩⟩
  · subst q
    have ht := sl_tA ⟨q1, q2⟩
    have nA := tA_10 ht
    obtain ⟨hT, hM⟩ := h.2.1 _ ht
    have hb := mT_bd hT hM q3
    have m1 := hT.1
    have m2 := hT.2.1
    obtain ⟨v1, v2⟩ : evT σ (s.toNat + 2) ∧ σ (s.toNat + 2) 3 = rowT σ (s.toNat + 2) 0 := by
      rcases hM with q | q
      · exact absurd q.1 q3
      · exact q
    have hev := evT_ev hT v1
    rw [← v2] at hev
    have v3 := v1.1
    have v4 := v1.2.1
    have hE : evA σ s := ⟨q1, q2, q3⟩
    have cb := cnV_bd (W := cT σ (s.toNat + 2)) ⟨m1, m2⟩
    refine ok_ast3 3 rfl rfl rfl (ok_aload_n 4 rfl rfl rfl (ok_ifnonnull 5 12 rfl rfl rfl (ok_iload_n 8 rfl rfl rfl (ok_if_ne 9 43 rfl rfl rfl (fun h13 => ?_) (fun h13 => ?_)))))
    · refine ok_iload_n 27 rfl rfl rfl (ok_iconst 28 rfl rfl (by decide) (ok_icmp_ne 29 67 rfl rfl rfl (fun h45 => ?_) (fun h45 => ?_)))
      · refine ok_iconst 39 rfl rfl (by decide) (ok_iret 40 rfl rfl rfl ?_)
        first
          | exact ⟨_, rfl, QA_rf h, Or.inl ⟨fun c => by have := c.2; omega, rfl⟩⟩
          | (obtain ⟨f1, f2, f3, f4⟩ := f
             exact ⟨_, rfl, QA_B h (f1.mono (fun c k w => by simp only [rgSf] at w; omega)) f2 (fun _ _ => ⟨f3.1, f3.2.1, by have := f3.2.2; omega⟩), Or.inr (Or.inr ⟨hE, by omega, by omega, f4⟩)⟩)
      · refine ok_aload_n 30 rfl rfl rfl (ok_getI 31 rfl rfl fl_X11_103 (sT ht) rfl (Or.inl rfl) (ok_iconst 32 rfl rfl (by decide) (ok_icmp_gt 33 67 rfl rfl rfl (fun h53 => ?_) (fun h53 => ?_))))
        · refine ok_iconst 39 rfl rfl (by decide) (ok_iret 40 rfl rfl rfl ?_)
          first
            | exact ⟨_, rfl, QA_rf h, Or.inl ⟨fun c => by have := c.2; omega, rfl⟩⟩
            | (obtain ⟨f1, f2, f3, f4⟩ := f
               exact ⟨_, rfl, QA_B h (f1.mono (fun c k w => by simp only [rgSf] at w; omega)) f2 (fun _ _ => ⟨f3.1, f3.2.1, by have := f3.2.2; omega⟩), Or.inr (Or.inr ⟨hE, by omega, by omega, f4⟩)⟩)
        · refine ok_aload_n 34 rfl rfl rfl (ok_getR 35 rfl rfl fl_X11_55 rfl rfl (ok_aload_n 36 rfl rfl rfl (ok_callVI (M' := M_Se_countFewest) (as := [_]) 37 rfl rfl ml_X11_205 (t_Se_countFewest ht hT h.2.2.1 hS hS2 rfl ⟨by omega, by omega⟩ rfl ⟨by omega, by omega⟩ rfl hev) rfl rfl (Nat.le_of_ble_eq_true rfl) ⟨Nat.le_of_ble_eq_true rfl, Nat.le_of_ble_eq_true rfl⟩ rfl (Nat.le_of_ble_eq_true rfl) (fun τ z4 f => ?_))))
          refine ok_goto 38 68 rfl rfl rfl (ok_iret 40 rfl rfl rfl ?_)
          first
            | exact ⟨_, rfl, QA_rf h, Or.inl ⟨fun c => by have := c.2; omega, rfl⟩⟩
            | (obtain ⟨f1, f2, f3, f4⟩ := f
               exact ⟨_, rfl, QA_B h (f1.mono (fun c k w => by simp only [rgSf] at w; omega)) f2 (fun _ _ => ⟨f3.1, f3.2.1, by have := f3.2.2; omega⟩), Or.inr (Or.inr ⟨hE, by omega, by omega, f4⟩)⟩)
    · refine ok_aload_n 10 rfl rfl rfl (ok_callVI (M' := M_Ta_countAbove0) (as := []) 11 rfl rfl ml_X11_112 (t_Ta_countAbove0 ht hT) (sT ht) rfl (Nat.le_of_ble_eq_true rfl) ⟨Nat.le_of_ble_eq_true rfl, Nat.le_of_ble_eq_true rfl⟩ rfl (Nat.le_of_ble_eq_true rfl) (fun σ' z1 x1 => ?_))
      obtain ⟨hs_, x1⟩ := x1
      rw [hs_]; clear hs_ σ'
      refine ok_iconst 12 rfl rfl (by decide) (ok_aload_n 13 rfl rfl rfl (ok_getI 14 rfl rfl fl_X11_103 (sT ht) rfl (Or.inl rfl) (ok_imul 15 rfl rfl (by first | omega | (simp [up_if]; omega) | (simp [up_if] at *; omega)) (ok_isub 16 rfl rfl (by first | omega | (simp [up_if]; omega) | (simp [up_if] at *; omega)) (ok_aload_n 17 rfl rfl rfl (ok_iconst 18 rfl rfl (by decide) (ok_callVL (M' := M_Ta_joinedBy) (as := [_]) 19 rfl rfl ml_X11_119 (t_Ta_joinedBy ht hT) (sT ht) rfl (Nat.le_of_ble_eq_true rfl) ⟨Nat.le_of_ble_eq_true rfl, Nat.le_of_ble_eq_true rfl⟩ rfl (Nat.le_of_ble_eq_true rfl) (fun σ' z2 x2 => ?_))))))))
      obtain ⟨hs_, x2⟩ := x2
      rw [hs_]; clear hs_ σ'
      refine ok_aload_n 20 rfl rfl rfl (ok_getI 21 rfl rfl fl_X11_103 (sT ht) rfl (Or.inl rfl) (ok_callSI (M' := M_Jo_countGroups) (as := [_, _]) 22 rfl rfl ml_X11_123 (t_Jo_countGroups ⟨m1, m2⟩ x2) ⟨Nat.le_of_ble_eq_true rfl, Nat.le_of_ble_eq_true rfl⟩ rfl (Nat.le_of_ble_eq_true rfl) (fun σ' z3 x3 => ?_)))
      obtain ⟨hs_, x3⟩ := x3
      rw [hs_]; clear hs_ σ'
      refine ok_iadd 23 rfl rfl (by first | omega | (simp [up_if]; omega) | (simp [up_if] at *; omega)) (ok_iconst 24 rfl rfl (by decide) (ok_iadd 25 rfl rfl (by first | omega | (simp [up_if]; omega) | (simp [up_if] at *; omega)) (ok_iret 26 rfl rfl rfl ?_)))
      exact ⟨_, rfl, QA_rf h, Or.inr (Or.inl ⟨hE, by omega, by rw [x1, x3.1]⟩)⟩
theorem t_Mo_bound {σ : eS} {s w : Int} (hB : iB1 σ) : MtI shB M_Mo_bound [vr 0, vi s, vi w] σ (fun σ' z => fr (fun c _ => c = 8) σ σ' ∧ boS (evB σ s) (σ 1 s) (cB σ s) w z) := by
  refine Mt.of okM_Mo_bound (Nat.le_of_ble_eq_true rfl) (fun hk hg => ?_)
  refine ok_aload_n 0 rfl rfl rfl (ok_iload_n 1 rfl rfl rfl (ok_callVI (M' := M_Mo_isEven) (as := [_]) 2 rfl rfl ml_X12_202 (s_Mo_isEven hB) rfl rfl (Nat.le_of_ble_eq_true rfl) ⟨Nat.le_of_ble_eq_true rfl, Nat.le_of_ble_eq_true rfl⟩ rfl (Nat.le_of_ble_eq_true rfl) (fun σ' z1 a1 => ?_)))
  obtain ⟨hs_, a1⟩ := a1
  rw [hs_]; clear hs_ σ'
  refine ok_if_eq 3 33 rfl rfl rfl (fun h5 => ?_) (fun h5 => ?_)
  · refine ok_iconst 19 rfl rfl (by decide) (ok_iret 20 rfl rfl rfl ?_)
    exact ⟨_, rfl, fr.rf, Or.inl ⟨fun c => no1 a1 h5 c.1, rfl⟩⟩
  · refine ok_iload_n 4 rfl rfl rfl (ok_i2l 5 rfl rfl (ok_lconst (w := 0) 6 rfl rfl rfl (by decide) (ok_lconst (w := 1) 7 rfl rfl rfl (by decide) (ok_callSI (M' := M_Mo_isIn) (as := [_, _, _]) 8 rfl rfl ml_X12_99 (s_Mo_isIn_r) ⟨Nat.le_of_ble_eq_true rfl, Nat.le_of_ble_eq_true rfl⟩ rfl (Nat.le_of_ble_eq_true rfl) (fun σ' z2 a2 => ?_)))))
    obtain ⟨hs_, a2⟩ := a2
    rw [hs_]; clear hs_ σ'
    refine ok_if_eq 9 33 rfl rfl rfl (fun h15 => ?_) (fun h15 => ?_)
    · refine ok_iconst 19 rfl rfl (by decide) (ok_iret 20 rfl rfl rfl ?_)
      exact ⟨_, rfl, fr.rf, Or.inl ⟨fun c => no1 a2 h15 (by have := c.2; omega), rfl⟩⟩
    · obtain ⟨u1, u2, u3⟩ := (yes1 a1 h5).1
      refine ok_iload_n 10 rfl rfl rfl (ok_iconst 11 rfl rfl (by decide) (ok_icmp_ne 12 35 rfl rfl rfl (fun h20 => ?_) (fun h20 => ?_)))
      · have hE := yes1 a1 h5
        obtain ⟨ht, -⟩ := id hE
        obtain ⟨t1, t2, t3⟩ := id ht
        have tn := hB.1 s t1 t2
        have hw := yes1 a2 h15
        have cb := cnt_bd σ s ⟨by omega, by omega⟩
        have ec := cntB_cn hB ⟨t1, t2⟩
        refine ok_iload_n 21 rfl rfl rfl (ok_if_ne 22 64 rfl rfl rfl (fun h36 => ?_) (fun h36 => ?_))
        · refine ok_aload_n 40 rfl rfl rfl (ok_iload_n 41 rfl rfl rfl (ok_callVI (M' := M_Mo_fewest) (as := [_]) 42 rfl rfl ml_X12_311 (t_Mo_fewest hB ht (by omega)) rfl rfl (Nat.le_of_ble_eq_true rfl) ⟨Nat.le_of_ble_eq_true rfl, Nat.le_of_ble_eq_true rfl⟩ rfl (Nat.le_of_ble_eq_true rfl) (fun σ' z hz => ?_)))
          refine ok_iret 43 rfl rfl rfl ?_
          first | exact ⟨_, rfl, hz.1, Or.inr (Or.inl ⟨hE, by omega, by rw [ec, hz.2]⟩)⟩ | (rw [hz.1]; exact ⟨_, rfl, fr.rf, Or.inr (Or.inr ⟨hE, by omega, by omega, hz.2⟩)⟩)
        · refine ok_aload_n 23 rfl rfl rfl (ok_iload_n 24 rfl rfl rfl (ok_callVI (M' := M_Mo_aboveNought) (as := [_]) 25 rfl rfl ml_X12_205 (s_Mo_aboveNought hB ⟨t1, t2⟩) rfl rfl (Nat.le_of_ble_eq_true rfl) ⟨Nat.le_of_ble_eq_true rfl, Nat.le_of_ble_eq_true rfl⟩ rfl (Nat.le_of_ble_eq_true rfl) (fun σ' z hz => ?_)))
          rw [hz.1, hz.2]
          clear hz z σ'
          refine ok_iconst 26 rfl rfl (by decide) (ok_aload_n 27 rfl rfl rfl (ok_getR 28 rfl rfl fl_X12_7 rfl rfl (ok_iload_n 29 rfl rfl rfl (ok_iald 30 rfl rfl rfl (by first | omega | (simp [up_if]; omega) | (simp [up_if] at *; omega)) (ok_imul 31 rfl rfl (by first | omega | (simp [up_if]; omega) | (simp [up_if] at *; omega)) (ok_isub 32 rfl rfl (by first | omega | (simp [up_if]; omega) | (simp [up_if] at *; omega)) (ok_aload_n 33 rfl rfl rfl (ok_iload_n 34 rfl rfl rfl (ok_callVI (M' := M_Mo_groupsOf) (as := [_]) 35 rfl rfl ml_X12_208 (t_Mo_groupsOf hB ⟨t1, t2⟩) rfl rfl (Nat.le_of_ble_eq_true rfl) ⟨Nat.le_of_ble_eq_true rfl, Nat.le_of_ble_eq_true rfl⟩ rfl (Nat.le_of_ble_eq_true rfl) (fun σ' z hz => ?_))))))))))
          have hz1 := gpV_bd (W := cB σ s) (n := σ 1 s) ⟨by omega, by omega⟩
          rw [← hz.2] at hz1
          refine ok_iadd 36 rfl rfl (by first | omega | (simp [up_if]; omega) | (simp [up_if] at *; omega)) (ok_iconst 37 rfl rfl (by decide) (ok_iadd 38 rfl rfl (by first | omega | (simp [up_if]; omega) | (simp [up_if] at *; omega)) (ok_goto 39 69 rfl rfl rfl (ok_iret 43 rfl rfl rfl ?_))))
          first | exact ⟨_, rfl, hz.1, Or.inr (Or.inl ⟨hE, by omega, by rw [ec, hz.2]⟩)⟩ | (rw [hz.1]; exact ⟨_, rfl, fr.rf, Or.inr (Or.inr ⟨hE, by omega, by omega, hz.2⟩)⟩)
      · refine ok_aload_n 13 rfl rfl rfl (ok_getR 14 rfl rfl fl_X12_7 rfl rfl (ok_iload_n 15 rfl rfl rfl (ok_iald 16 rfl rfl rfl (by first | omega | (simp [up_if]; omega) | (simp [up_if] at *; omega)) (ok_iconst 17 rfl rfl (by decide) (ok_icmp_le 18 35 rfl rfl rfl (fun h30 => ?_) (fun h30 => ?_))))))
        · have hE := yes1 a1 h5
          obtain ⟨ht, -⟩ := id hE
          obtain ⟨t1, t2, t3⟩ := id ht
          have tn := hB.1 s t1 t2
          have hw := yes1 a2 h15
          have cb := cnt_bd σ s ⟨by omega, by omega⟩
          have ec := cntB_cn hB ⟨t1, t2⟩
          refine ok_iload_n 21 rfl rfl rfl (ok_if_ne 22 64 rfl rfl rfl (fun h36 => ?_) (fun h36 => ?_))
          · refine ok_aload_n 40 rfl rfl rfl (ok_iload_n 41 rfl rfl rfl (ok_callVI (M' := M_Mo_fewest) (as := [_]) 42 rfl rfl ml_X12_311 (t_Mo_fewest hB ht (by omega)) rfl rfl (Nat.le_of_ble_eq_true rfl) ⟨Nat.le_of_ble_eq_true rfl, Nat.le_of_ble_eq_true rfl⟩ rfl (Nat.le_of_ble_eq_true rfl) (fun σ' z hz => ?_)))
            refine ok_iret 43 rfl rfl rfl ?_
            first | exact ⟨_, rfl, hz.1, Or.inr (Or.inl ⟨hE, by omega, by rw [ec, hz.2]⟩)⟩ | (rw [hz.1]; exact ⟨_, rfl, fr.rf, Or.inr (Or.inr ⟨hE, by omega, by omega, hz.2⟩)⟩)
          · refine ok_aload_n 23 rfl rfl rfl (ok_iload_n 24 rfl rfl rfl (ok_callVI (M' := M_Mo_aboveNought) (as := [_]) 25 rfl rfl ml_X12_205 (s_Mo_aboveNought hB ⟨t1, t2⟩) rfl rfl (Nat.le_of_ble_eq_true rfl) ⟨Nat.le_of_ble_eq_true rfl, Nat.le_of_ble_eq_true rfl⟩ rfl (Nat.le_of_ble_eq_true rfl) (fun σ' z hz => ?_)))
            rw [hz.1, hz.2]
            clear hz z σ'
            refine ok_iconst 26 rfl rfl (by decide) (ok_aload_n 27 rfl rfl rfl (ok_getR 28 rfl rfl fl_X12_7 rfl rfl (ok_iload_n 29 rfl rfl rfl (ok_iald 30 rfl rfl rfl (by first | omega | (simp [up_if]; omega) | (simp [up_if] at *; omega)) (ok_imul 31 rfl rfl (by first | omega | (simp [up_if]; omega) | (simp [up_if] at *; omega)) (ok_isub 32 rfl rfl (by first | omega | (simp [up_if]; omega) | (simp [up_if] at *; omega)) (ok_aload_n 33 rfl rfl rfl (ok_iload_n 34 rfl rfl rfl (ok_callVI (M' := M_Mo_groupsOf) (as := [_]) 35 rfl rfl ml_X12_208 (t_Mo_groupsOf hB ⟨t1, t2⟩) rfl rfl (Nat.le_of_ble_eq_true rfl) ⟨Nat.le_of_ble_eq_true rfl, Nat.le_of_ble_eq_true rfl⟩ rfl (Nat.le_of_ble_eq_true rfl) (fun σ' z hz => ?_))))))))))
            have hz1 := gpV_bd (W := cB σ s) (n := σ 1 s) ⟨by omega, by omega⟩
            rw [← hz.2] at hz1
            refine ok_iadd 36 rfl rfl (by first | omega | (simp [up_if]; omega) | (simp [up_if] at *; omega)) (ok_iconst 37 rfl rfl (by decide) (ok_iadd 38 rfl rfl (by first | omega | (simp [up_if]; omega) | (simp [up_if] at *; omega)) (ok_goto 39 69 rfl rfl rfl (ok_iret 43 rfl rfl rfl ?_))))
            first | exact ⟨_, rfl, hz.1, Or.inr (Or.inl ⟨hE, by omega, by rw [ec, hz.2]⟩)⟩ | (rw [hz.1]; exact ⟨_, rfl, fr.rf, Or.inr (Or.inr ⟨hE, by omega, by omega, hz.2⟩)⟩)
        · refine ok_iconst 19 rfl rfl (by decide) (ok_iret 20 rfl rfl rfl ?_)
          exact ⟨_, rfl, fr.rf, Or.inl ⟨fun c => by have := c.2; omega, rfl⟩⟩
