section
theorem ok_inegW {sh : eSh} {M : eM} {pc pc' : Nat} {ls : List (Option eV)} {st : List eV} {σ : eS} {Q : eS → Option eV → Prop} (i : Nat) {a : Int} (hd : nth (eTab M) i = some (pc, .ineg, pc')) (hn : pc + 1 = pc') (k : Ok sh M pc' ls (vi (wr (-a)) :: st) σ Q) : Ok sh M pc ls (vi a :: st) σ Q := by
  intro l p e s m args below meth c D dA ad H locs la C hH hL hS
  obtain ⟨ha, hs⟩ := hS
  exact lv_ineg C.2.1 C.2.2.1 (C.1.dec hd hn) (Ok.go k C hH hL ⟨rg_wr _, hs⟩ hn (by show Value.int (Int32.ofInt (wr (-a))) :: _ = _; rw [of_wr, Int32.ofInt_neg]))
theorem lv_at5 {j : Int} (h : 0 ≤ j ∧ j < 5) : ([30, 31, 32, 33, 34] : List Nat)[j.toNat]? = some (j.toNat + 30) := by
  rcases (by omega : j = 0 ∨ j = 1 ∨ j = 2 ∨ j = 3 ∨ j = 4) with q | q | q | q | q <;> subst q <;> rfl
theorem lv_pP {j : Int} (h : 0 ≤ j ∧ j < 5) : pP (j.toNat + 30) (j.toNat + 35) := by unfold pP; omega
abbrev rgNS (p : Nat) : Nat → Int → Prop := fun c _ => c = p ∨ c = p + 5 ∨ (16 ≤ c ∧ c ≤ 19) ∨ c = 27
theorem s_Se_isNewStep {σ : eS} {l r : Int} (hl : 0 ≤ l ∧ l ≤ 2) (hr : 0 ≤ r ∧ r ≤ 3) (hC : iCh σ) (hP : iPe σ (l.toNat + 30) (l.toNat + 35)) : MtI shA M_Se_isNewStep [vr 25, vi l, vi r] σ (fun σ' z => fr (rgNS ((l + 1).toNat + 30)) σ σ' ∧ iCh σ' ∧ iPe σ' ((l + 1).toNat + 30) ((l + 1).toNat + 35) ∧ (z = 0 ∨ z = 1) ∧ mkS 1 σ σ') := by
  refine Mt.of okM_Se_isNewStep (Nat.le_of_ble_eq_true rfl) (fun hk hg => ?_)
  have hp := lv_pP (j := l) ⟨by omega, by omega⟩
  have hp' := lv_pP (j := l + 1) ⟨by omega, by omega⟩
  obtain ⟨P, eP⟩ : ∃ P, P = (l + 1).toNat + 30 := ⟨_, rfl⟩
  have eQ : (l + 1).toNat + 35 = P + 5 := by omega
  rw [eQ] at hp' ⊢
  rw [← eP] at hp' ⊢
  have tail : ∀ (τ : eS) (v : Int), fr (rgNS P) σ τ → iCh τ → iPe τ P (P + 5) → mkS 1 σ τ → Ok shA M_Se_isNewStep 40 [some (vr 25), some (vi l), some (vi r), some (vr P), some (vi v), none, none] [] τ (fun σ' x => ∃ z, x = some (vi z) ∧ fr (rgNS P) σ σ' ∧ iCh σ' ∧ iPe σ' P (P + 5) ∧ (z = 0 ∨ z = 1) ∧ mkS 1 σ σ') := by
    intro τ v f c h hk0
    refine ok_iload_n 24 rfl rfl rfl (ok_iconst 25 rfl rfl (by decide) (ok_imul 26 rfl rfl (by first | omega | (simp [up_if]; omega) | (simp [up_if] at *; omega)) (ok_ist5 27 rfl rfl rfl (ok_aload_n 28 rfl rfl rfl (ok_getR 29 rfl rfl fl_X7_17 rfl rfl (ok_iload 30 rfl rfl rfl (ok_iload_n 31 rfl rfl rfl (ok_iadd 32 rfl rfl (by first | omega | (simp [up_if]; omega) | (simp [up_if] at *; omega)) (ok_iload 33 rfl rfl rfl (ok_iast 34 rfl rfl rfl (by first | omega | (simp [up_if]; omega) | (simp [up_if] at *; omega)) (ok_iconst 35 rfl rfl (by decide) (ok_ist6 36 rfl rfl rfl ?_))))))))))))
    have f2 : fr (rgNS P) σ (up τ 27 (l * 4 + r) v) := fr_up f (by simp [rgNS])
    have c2 : iCh (up τ 27 (l * 4 + r) v) := iCh_cg c (fun k => up_ne _ _ _ _ (by decide))
    have m2 : mkS 1 σ (up τ 27 (l * 4 + r) v) := (hk0.tr (mkS_cg (N := 0) (by decide) (up_ne _ _ _ _ (by decide)) (fun k => up_ne _ _ _ _ (by decide))) (by decide) (by decide)).mono (by decide)
    have h2 : iPe (up τ 27 (l * 4 + r) v) P (P + 5) := iPe_cg h (up_ne _ _ _ _ (by omega)) (fun k => up_ne _ _ _ _ (by omega))
    refine lpO (fun i : Int => [some (vr 25), some (vi l), some (vi r), some (vr P), some (vi v), some (vi (l * 4)), some (vi i)]) (fun _ => up τ 27 (l * 4 + r) v) (fun i => 0 ≤ i ∧ i ≤ 3) (fun i => (4 - i).toNat) ?_ 0 ⟨by omega, by omega⟩
    rintro i ⟨i1, i2⟩ ih
    refine ok_iload 37 rfl rfl rfl (ok_iload_n 38 rfl rfl rfl (ok_icmp_ge 39 88 rfl rfl rfl (fun h62 => ?_) (fun h62 => ?_)))
    · refine ok_iconst 52 rfl rfl (by decide) (ok_zret 53 rfl rfl rfl (by first | omega | (simp [up_if]; omega) | (simp [up_if] at *; omega)) ?_)
      exact ⟨_, rfl, f2, c2, h2, Or.inr rfl, m2⟩
    · refine ok_aload_n 40 rfl rfl rfl (ok_getR 41 rfl rfl fl_X7_17 rfl rfl (ok_iload 42 rfl rfl rfl (ok_iload 43 rfl rfl rfl (ok_iadd 44 rfl rfl (by first | omega | (simp [up_if]; omega) | (simp [up_if] at *; omega)) (ok_iald 45 rfl rfl rfl (by first | omega | (simp [up_if]; omega) | (simp [up_if] at *; omega)) (ok_iload 46 rfl rfl rfl (ok_icmp_ne 47 82 rfl rfl rfl (fun h77 => ?_) (fun h77 => ?_))))))))
      · refine ok_inc6 50 rfl rfl rfl (by first | omega | (simp [up_if]; omega) | (simp [up_if] at *; omega)) (ok_goto 51 59 rfl rfl rfl ?_)
        exact ih (i + 1) ⟨by omega, by omega⟩ (by omega)
      · refine ok_iconst 48 rfl rfl (by decide) (ok_zret 49 rfl rfl rfl (by first | omega | (simp [up_if]; omega) | (simp [up_if] at *; omega)) ?_)
        exact ⟨_, rfl, f2, c2, h2, Or.inl rfl, m2⟩
  refine ok_aload_n 0 rfl rfl rfl (ok_getR 1 rfl rfl fl_X7_13 rfl rfl (ok_iload_n 2 rfl rfl rfl (ok_iconst 3 rfl rfl (by decide) (ok_iadd 4 rfl rfl (by first | omega | (simp [up_if]; omega) | (simp [up_if] at *; omega)) (ok_aald 5 P rfl rfl rfl (Or.inr rfl) (by omega) (by rw [eP]; exact lv_at5 (by omega)) (ok_ast3 6 rfl rfl rfl (ok_aload_n 7 rfl rfl rfl (ok_aload_n 8 rfl rfl rfl (ok_getR 9 rfl rfl fl_X7_13 rfl rfl (ok_iload_n 10 rfl rfl rfl (ok_aald 11 (l.toNat + 30) rfl rfl rfl (Or.inr rfl) (by omega) (lv_at5 (by omega)) (ok_callVV (M' := M_Pe_startLike) (as := [_]) 12 rfl rfl ml_X7_56 (s_Pe_startLike hp' hp (by omega) (by omega) hP) (sP hp') rfl (Nat.le_of_ble_eq_true rfl) ⟨Nat.le_of_ble_eq_true rfl, Nat.le_of_ble_eq_true rfl⟩ rfl (Nat.le_of_ble_eq_true rfl) (fun τ f => ?_)))))))))))))
  obtain ⟨f1, f2, f3, f4⟩ := f
  have g1 : fr (rgNS P) σ τ := f1.mono (fun c k w => by simp only [rgP0, rgNS] at w ⊢; omega)
  have g2 : iCh τ := iCh_cg hC (fun k => f1 17 k (by simp only [rgP0]; omega))
  have g3 : mkS 0 σ τ := mkS_fr (by decide) f1 (by simp only [rgP0]; omega) (fun k => by simp only [rgP0]; omega)
  refine ok_iconst 13 rfl rfl (by decide) (ok_ist4 14 rfl rfl rfl (ok_aload_n 15 rfl rfl rfl (ok_getI 16 rfl rfl fl_X7_60 (sP hp') rfl (Or.inl rfl) (ok_if_le 17 40 rfl rfl rfl (fun h26 => ?_) (fun h26 => ?_)))))
  · exact tail τ (-1) g1 g2 f2 (g3.mono (by decide))
  · refine ok_aload_n 18 rfl rfl rfl (ok_iload_n 19 rfl rfl rfl (ok_callVV (M' := M_Pe_takePart) (as := [_]) 20 rfl rfl ml_X7_63 (s_Pe_takePart hp' f2 g2) (sP hp') rfl (Nat.le_of_ble_eq_true rfl) ⟨Nat.le_of_ble_eq_true rfl, Nat.le_of_ble_eq_true rfl⟩ rfl (Nat.le_of_ble_eq_true rfl) (fun υ u => ?_)))
    refine ok_aload_n 21 rfl rfl rfl (ok_callVI (M' := M_Pe_choiceNumber) (as := []) 22 rfl rfl ml_X7_67 (s_Pe_choiceNumber hp' u.2.1) (sP hp') rfl (Nat.le_of_ble_eq_true rfl) ⟨Nat.le_of_ble_eq_true rfl, Nat.le_of_ble_eq_true rfl⟩ rfl (Nat.le_of_ble_eq_true rfl) (fun σ' v hv => ?_))
    obtain ⟨hs_, hv⟩ := hv
    rw [hs_]; clear hs_ σ'
    refine ok_ist4 23 rfl rfl rfl ?_
    exact tail υ v (g1.tr (u.1.mono (fun c k w => by simp only [rgPe, rgNS] at w ⊢; omega))) u.2.2.1 u.2.1 ((g3.tr u.2.2.2.2.2.2 (by decide) (by decide)).mono (by decide))
abbrev rgFin (t : Nat) : Nat → Int → Prop := fun c k => c = 34 ∨ c = 39 ∨ (16 ≤ c ∧ c ≤ 19) ∨ (c = t ∧ (k = 7 ∨ k = 8))
theorem s_Se_finish {σ : eS} {t : Nat} {w : Int} (ht : tA t) (hC : iCh σ) (hP : iPe σ 33 38) : MtV shA M_Se_finish [vr 25, vr t, vi w] σ (fun σ' => fr (rgFin t) σ σ' ∧ iCh σ' ∧ mkS 256 σ σ') := by
  refine Mt.of okM_Se_finish (Nat.le_of_ble_eq_true rfl) (fun hk hg => ?_)
  have nA := tA_10 ht
  have hp : pP 34 39 := by unfold pP; omega
  have hp3 : pP 33 38 := by unfold pP; omega
  refine ok_aload_n 0 rfl rfl rfl (ok_getR 1 rfl rfl fl_X7_13 rfl rfl (ok_iconst 2 rfl rfl (by decide) (ok_aald 3 34 rfl rfl rfl (Or.inr rfl) (by omega) rfl (ok_ast3 4 rfl rfl rfl (ok_iconst 5 rfl rfl (by decide) (ok_ist4 6 rfl rfl rfl ?_))))))
  refine lpO2 (fun (i : Int) (_ : eS) => [some (vr 25), some (vr t), some (vi w), some (vr 34), some (vi i), none]) (fun _ ρ => ρ) (fun i ρ => 0 ≤ i ∧ i ≤ 4 ∧ fr (rgFin t) σ ρ ∧ iCh ρ ∧ mkS (64 * i) σ ρ) (fun i _ => (4 - i).toNat) ?_ 0 σ ⟨by omega, by omega, fr.rf, hC, mkS_cg (by decide) rfl (fun _ => rfl)⟩
  rintro i ρ ⟨i1, i2, f, c, hk0⟩ ih
  refine ok_iload 7 rfl rfl rfl (ok_iconst 8 rfl rfl (by decide) (ok_icmp_ge 9 108 rfl rfl rfl (fun h13 => ?_) (fun h13 => ?_)))
  · refine ok_vret 55 rfl rfl rfl ?_
    exact ⟨rfl, f, c, hk0.mono (by omega)⟩
  · refine ok_aload_n 10 rfl rfl rfl (ok_aload_n 11 rfl rfl rfl (ok_getR 12 rfl rfl fl_X7_13 rfl rfl (ok_iconst 13 rfl rfl (by decide) (ok_aald 14 33 rfl rfl rfl (Or.inr rfl) (by omega) rfl (ok_callVV (M' := M_Pe_startLike) (as := [_]) 15 rfl rfl ml_X7_56 (s_Pe_startLike hp hp3 (by decide) (by decide) (iPe_cg hP (f 33 2 (by simp only [rgFin]; omega)) (fun k => f 38 k (by simp only [rgFin]; omega)))) rfl rfl (Nat.le_of_ble_eq_true rfl) ⟨Nat.le_of_ble_eq_true rfl, Nat.le_of_ble_eq_true rfl⟩ rfl (Nat.le_of_ble_eq_true rfl) (fun τ g => ?_))))))
    refine ok_iconst 16 rfl rfl (by decide) (ok_ist5 17 rfl rfl rfl ?_)
    obtain ⟨g1, g2, g3, g4⟩ := g
    refine lpO2 (fun (j : Int) (_ : eS) => [some (vr 25), some (vr t), some (vi w), some (vr 34), some (vi i), some (vi j)]) (fun _ ρ => ρ) (fun j ρ => 0 ≤ j ∧ j ≤ 64 ∧ fr (rgFin t) σ ρ ∧ iCh ρ ∧ iPe ρ 34 39 ∧ mkS (64 * i + j) σ ρ) (fun j _ => (64 - j).toNat) ?_ 0 τ ⟨by omega, by omega, f.tr (g1.mono (fun c k w => by simp only [rgP0, rgFin] at w ⊢; omega)), iCh_cg c (fun k => g1 17 k (by simp [rgP0])), g2, hk0.tr (mkS_fr (by decide) g1 (by simp [rgP0]) (fun k => by simp [rgP0])) (by omega) (by decide)⟩
    clear g1 g2 g3 g4 hk0 τ f c ρ
    rintro j ρ ⟨j1, j2, f, c, h, hk0⟩ ih2
    refine ok_iload 18 rfl rfl rfl (ok_bipush 19 rfl rfl (by decide) (by decide) (ok_icmp_ge 20 66 rfl rfl rfl (fun h33 => ?_) (fun h33 => ?_)))
    · have t2 : ∀ ρ' : eS, fr (rgFin t) σ ρ' → iCh ρ' → mkS (64 * (i + 1)) σ ρ' → Ok shA M_Se_finish 102 [some (vr 25), some (vr t), some (vi w), some (vr 34), some (vi i), some (vi j)] [] ρ' (fun σ' v => v = none ∧ fr (rgFin t) σ σ' ∧ iCh σ' ∧ mkS 256 σ σ') := by
        intro ρ' f' c' k'
        refine ok_inc4 53 rfl rfl rfl (by first | omega | (simp [up_if]; omega) | (simp [up_if] at *; omega)) (ok_goto 54 10 rfl rfl rfl ?_)
        exact ok_fg [some (vr 25), some (vr t), some (vi w), some (vr 34), some (vi (i + 1)), none] ⟨rfl, rfl, rfl, rfl, rfl, trivial⟩ (ih (i + 1) ρ' ⟨by omega, by omega, f', c', k'⟩ (by omega))
      refine ok_aload_n 34 rfl rfl rfl (ok_getI 35 rfl rfl fl_X7_60 rfl rfl (Or.inl rfl) (ok_if_ne 36 102 rfl rfl rfl (fun h70 => ?_) (fun h70 => ?_)))
      · exact t2 ρ f c (hk0.mono (by omega))
      · refine ok_aload_n 37 rfl rfl rfl (ok_getI 38 rfl rfl fl_X7_71 rfl rfl (Or.inl rfl) (ok_aload_n 39 rfl rfl rfl (ok_getI 40 rfl rfl fl_X7_34 (sT ht) rfl (Or.inl rfl) (ok_icmp_ge 41 102 rfl rfl rfl (fun h81 => ?_) (fun h81 => ?_)))))
        · exact t2 ρ f c (hk0.mono (by omega))
        · refine ok_aload_n 42 rfl rfl rfl (ok_aload_n 43 rfl rfl rfl (ok_getI 44 rfl rfl fl_X7_71 rfl rfl (Or.inl rfl) (ok_putI 45 rfl rfl fl_X7_34 (sT ht) rfl rfl rfl (ok_aload_n 46 rfl rfl rfl (ok_iload_n 47 rfl rfl rfl (ok_iconst 48 rfl rfl (by decide) (ok_imulW 49 rfl rfl (ok_iload 50 rfl rfl rfl (ok_iaddW 51 rfl rfl (ok_putI 52 rfl rfl fl_X7_74 (sT ht) rfl rfl rfl ?_))))))))))
          exact t2 _ (fr_up (fr_up f (by simp [rgFin])) (by simp [rgFin])) (iCh_cg c (fun k => by rw [up_ne _ _ _ _ (by omega), up_ne _ _ _ _ (by omega)])) ((hk0.tr (mkS_cg (N := 0) (by decide) (by rw [up_ne _ _ _ _ (by omega), up_ne _ _ _ _ (by omega)]) (fun k => by rw [up_ne _ _ _ _ (by omega), up_ne _ _ _ _ (by omega)])) (by omega) (by decide)).mono (by omega))
    · refine ok_aload_n 21 rfl rfl rfl (ok_getI 22 rfl rfl fl_X7_60 rfl rfl (Or.inl rfl) (ok_if_le 23 66 rfl rfl rfl (fun h40 => ?_) (fun h40 => ?_)))
      · have t2 : ∀ ρ' : eS, fr (rgFin t) σ ρ' → iCh ρ' → mkS (64 * (i + 1)) σ ρ' → Ok shA M_Se_finish 102 [some (vr 25), some (vr t), some (vi w), some (vr 34), some (vi i), some (vi j)] [] ρ' (fun σ' v => v = none ∧ fr (rgFin t) σ σ' ∧ iCh σ' ∧ mkS 256 σ σ') := by
          intro ρ' f' c' k'
          refine ok_inc4 53 rfl rfl rfl (by first | omega | (simp [up_if]; omega) | (simp [up_if] at *; omega)) (ok_goto 54 10 rfl rfl rfl ?_)
          exact ok_fg [some (vr 25), some (vr t), some (vi w), some (vr 34), some (vi (i + 1)), none] ⟨rfl, rfl, rfl, rfl, rfl, trivial⟩ (ih (i + 1) ρ' ⟨by omega, by omega, f', c', k'⟩ (by omega))
        refine ok_aload_n 34 rfl rfl rfl (ok_getI 35 rfl rfl fl_X7_60 rfl rfl (Or.inl rfl) (ok_if_ne 36 102 rfl rfl rfl (fun h70 => ?_) (fun h70 => ?_)))
        · exact t2 ρ f c (hk0.mono (by omega))
        · refine ok_aload_n 37 rfl rfl rfl (ok_getI 38 rfl rfl fl_X7_71 rfl rfl (Or.inl rfl) (ok_aload_n 39 rfl rfl rfl (ok_getI 40 rfl rfl fl_X7_34 (sT ht) rfl (Or.inl rfl) (ok_icmp_ge 41 102 rfl rfl rfl (fun h81 => ?_) (fun h81 => ?_)))))
          · exact t2 ρ f c (hk0.mono (by omega))
          · refine ok_aload_n 42 rfl rfl rfl (ok_aload_n 43 rfl rfl rfl (ok_getI 44 rfl rfl fl_X7_71 rfl rfl (Or.inl rfl) (ok_putI 45 rfl rfl fl_X7_34 (sT ht) rfl rfl rfl (ok_aload_n 46 rfl rfl rfl (ok_iload_n 47 rfl rfl rfl (ok_iconst 48 rfl rfl (by decide) (ok_imulW 49 rfl rfl (ok_iload 50 rfl rfl rfl (ok_iaddW 51 rfl rfl (ok_putI 52 rfl rfl fl_X7_74 (sT ht) rfl rfl rfl ?_))))))))))
            exact t2 _ (fr_up (fr_up f (by simp [rgFin])) (by simp [rgFin])) (iCh_cg c (fun k => by rw [up_ne _ _ _ _ (by omega), up_ne _ _ _ _ (by omega)])) ((hk0.tr (mkS_cg (N := 0) (by decide) (by rw [up_ne _ _ _ _ (by omega), up_ne _ _ _ _ (by omega)]) (fun k => by rw [up_ne _ _ _ _ (by omega), up_ne _ _ _ _ (by omega)])) (by omega) (by decide)).mono (by omega))
      · refine ok_aload_n 24 rfl rfl rfl (ok_getI 25 rfl rfl fl_X7_71 rfl rfl (Or.inl rfl) (ok_aload_n 26 rfl rfl rfl (ok_getI 27 rfl rfl fl_X7_34 (sT ht) rfl (Or.inl rfl) (ok_icmp_ge 28 66 rfl rfl rfl (fun h51 => ?_) (fun h51 => ?_)))))
        · have t2 : ∀ ρ' : eS, fr (rgFin t) σ ρ' → iCh ρ' → mkS (64 * (i + 1)) σ ρ' → Ok shA M_Se_finish 102 [some (vr 25), some (vr t), some (vi w), some (vr 34), some (vi i), some (vi j)] [] ρ' (fun σ' v => v = none ∧ fr (rgFin t) σ σ' ∧ iCh σ' ∧ mkS 256 σ σ') := by
            intro ρ' f' c' k'
            refine ok_inc4 53 rfl rfl rfl (by first | omega | (simp [up_if]; omega) | (simp [up_if] at *; omega)) (ok_goto 54 10 rfl rfl rfl ?_)
            exact ok_fg [some (vr 25), some (vr t), some (vi w), some (vr 34), some (vi (i + 1)), none] ⟨rfl, rfl, rfl, rfl, rfl, trivial⟩ (ih (i + 1) ρ' ⟨by omega, by omega, f', c', k'⟩ (by omega))
          refine ok_aload_n 34 rfl rfl rfl (ok_getI 35 rfl rfl fl_X7_60 rfl rfl (Or.inl rfl) (ok_if_ne 36 102 rfl rfl rfl (fun h70 => ?_) (fun h70 => ?_)))
          · exact t2 ρ f c (hk0.mono (by omega))
          · refine ok_aload_n 37 rfl rfl rfl (ok_getI 38 rfl rfl fl_X7_71 rfl rfl (Or.inl rfl) (ok_aload_n 39 rfl rfl rfl (ok_getI 40 rfl rfl fl_X7_34 (sT ht) rfl (Or.inl rfl) (ok_icmp_ge 41 102 rfl rfl rfl (fun h81 => ?_) (fun h81 => ?_)))))
            · exact t2 ρ f c (hk0.mono (by omega))
            · refine ok_aload_n 42 rfl rfl rfl (ok_aload_n 43 rfl rfl rfl (ok_getI 44 rfl rfl fl_X7_71 rfl rfl (Or.inl rfl) (ok_putI 45 rfl rfl fl_X7_34 (sT ht) rfl rfl rfl (ok_aload_n 46 rfl rfl rfl (ok_iload_n 47 rfl rfl rfl (ok_iconst 48 rfl rfl (by decide) (ok_imulW 49 rfl rfl (ok_iload 50 rfl rfl rfl (ok_iaddW 51 rfl rfl (ok_putI 52 rfl rfl fl_X7_74 (sT ht) rfl rfl rfl ?_))))))))))
              exact t2 _ (fr_up (fr_up f (by simp [rgFin])) (by simp [rgFin])) (iCh_cg c (fun k => by rw [up_ne _ _ _ _ (by omega), up_ne _ _ _ _ (by omega)])) ((hk0.tr (mkS_cg (N := 0) (by decide) (by rw [up_ne _ _ _ _ (by omega), up_ne _ _ _ _ (by omega)]) (fun k => by rw [up_ne _ _ _ _ (by omega), up_ne _ _ _ _ (by omega)])) (by omega) (by decide)).mono (by omega))
        · refine ok_aload_n 29 rfl rfl rfl (ok_iload 30 rfl rfl rfl (ok_callVV (M' := M_Pe_takePart) (as := [_]) 31 rfl rfl ml_X7_63 (s_Pe_takePart hp h c) rfl rfl (Nat.le_of_ble_eq_true rfl) ⟨Nat.le_of_ble_eq_true rfl, Nat.le_of_ble_eq_true rfl⟩ rfl (Nat.le_of_ble_eq_true rfl) (fun τ u => ?_)))
          refine ok_inc5 32 rfl rfl rfl (by first | omega | (simp [up_if]; omega) | (simp [up_if] at *; omega)) (ok_goto 33 29 rfl rfl rfl ?_)
          exact ih2 (j + 1) τ ⟨by omega, by omega, f.tr (u.1.mono (fun c k w => by simp only [rgPe, rgFin] at w ⊢; omega)), u.2.2.1, u.2.1, (hk0.tr u.2.2.2.2.2.2 (by omega) (by decide)).mono (by omega)⟩ (by omega)
abbrev rgSe (t : Nat) : Nat → Int → Prop := fun c k => (30 ≤ c ∧ c ≤ 39) ∨ (16 ≤ c ∧ c ≤ 19) ∨ (27 ≤ c ∧ c ≤ 29) ∨ (c = t ∧ (k = 6 ∨ k = 7 ∨ k = 8))
theorem s_Se_seek {σ : eS} {t : Nat} (ht : tA t) (hT : iT σ t) (hC : iCh σ) : MtV shA M_Se_seek [vr 25, vr t] σ (fun σ' => fr (rgSe t) σ σ' ∧ iCh σ' ∧ mkS 16468 σ σ') := by
  refine Mt.of okM_Se_seek (Nat.le_of_ble_eq_true rfl) (fun hk hg => ?_)
  have nA := tA_10 ht
  have hp : pP 30 35 := by unfold pP; omega
  have ns : ∀ (p : Nat) (ρ τ : eS), 30 ≤ p → p ≤ 34 → fr (rgNS p) ρ τ → fr (rgSe t) ρ τ := fun p ρ τ a b f => f.mono (fun c k w => by simp only [rgNS, rgSe] at w ⊢; omega)
  have T1 : iT (up σ t 7 65) t := (iT_cg hT (up_nk _ _ _ _ (by decide)) (up_nk _ _ _ _ (by decide)) (fun k => up_ne _ _ _ _ (by omega))).1
  have F1 : fr (rgSe t) σ (up σ t 7 65) := fr_up fr.rf (by simp [rgSe])
  have C1 : iCh (up σ t 7 65) := iCh_cg hC (fun k => up_ne _ _ _ _ (by omega))
  have K1 : mkS 0 σ (up σ t 7 65) := mkS_cg (by decide) (up_ne _ _ _ _ (by omega)) (fun k => up_ne _ _ _ _ (by omega))
  refine ok_aload_n 0 rfl rfl rfl (ok_bipush 1 rfl rfl (by decide) (by decide) (ok_putI 2 rfl rfl fl_X7_34 (sT ht) rfl rfl rfl (ok_aload_n 3 rfl rfl rfl (ok_getR 4 rfl rfl fl_X7_13 rfl rfl (ok_iconst 5 rfl rfl (by decide) (ok_aald 6 30 rfl rfl rfl (Or.inr rfl) (by omega) rfl (ok_aload_n 7 rfl rfl rfl (ok_callVV (M' := M_Pe_startTable) (as := [_]) 8 rfl rfl ml_X7_40 (s_Pe_startTable hp ht T1) rfl rfl (Nat.le_of_ble_eq_true rfl) ⟨Nat.le_of_ble_eq_true rfl, Nat.le_of_ble_eq_true rfl⟩ rfl (Nat.le_of_ble_eq_true rfl) (fun τ g => ?_)))))))))
  refine ok_iconst 9 rfl rfl (by decide) (ok_ist2 10 rfl rfl rfl ?_)
  obtain ⟨g1, g2, g3, g4⟩ := g
  refine lpO2 (fun (i : Int) (_ : eS) => [some (vr 25), some (vr t), some (vi i), none, none]) (fun _ ρ => ρ) (fun i ρ => 0 ≤ i ∧ i ≤ 4 ∧ fr (rgSe t) σ ρ ∧ iCh ρ ∧ iPe ρ 30 35 ∧ mkS (4117 * i) σ ρ) (fun i _ => (4 - i).toNat) ?_ 0 τ ⟨by omega, by omega, F1.tr (g1.mono (fun c k w => by simp only [rgP0, rgSe] at w ⊢; omega)), iCh_cg C1 (fun k => g1 17 k (by simp [rgP0])), g2, K1.tr (mkS_fr (N := 0) (by decide) g1 (by simp [rgP0]) (fun k => by simp [rgP0])) (by decide) (by decide)⟩
  clear g1 g2 g3 g4 τ T1 F1 C1 K1
  rintro i ρ ⟨i1, i2, f, c, h, hk0⟩ ih
  refine ok_iload_n 11 rfl rfl rfl (ok_iconst 12 rfl rfl (by decide) (ok_icmp_ge 13 106 rfl rfl rfl (fun h20 => ?_) (fun h20 => ?_)))
  · refine ok_aload_n 59 rfl rfl rfl (ok_iconst 60 rfl rfl (by decide) (ok_putZ 61 rfl rfl fl_X7_52 (sT ht) rfl rfl rfl (by first | omega | (simp [up_if]; omega) | (simp [up_if] at *; omega)) (ok_vret 62 rfl rfl rfl ?_)))
    exact ⟨rfl, fr_up f (by simp [rgSe]), iCh_cg c (fun k => up_ne _ _ _ _ (by omega)), (hk0.tr (mkS_cg (N := 0) (by decide) (up_ne _ _ _ _ (by omega)) (fun k => up_ne _ _ _ _ (by omega))) (by omega) (by decide)).mono (by omega)⟩
  · refine ok_aload_n 14 rfl rfl rfl (ok_iconst 15 rfl rfl (by decide) (ok_iload_n 16 rfl rfl rfl (ok_callVI (M' := M_Se_isNewStep) (as := [_, _]) 17 rfl rfl ml_X7_44 (s_Se_isNewStep (l := 0) (by omega) ⟨by omega, by omega⟩ c h) rfl rfl (Nat.le_of_ble_eq_true rfl) ⟨Nat.le_of_ble_eq_true rfl, Nat.le_of_ble_eq_true rfl⟩ rfl (Nat.le_of_ble_eq_true rfl) (fun τ z g => ?_))))
    obtain ⟨g1, g2, g3, g4, g5⟩ := g
    have hk1 : mkS (4117 * i + 1) σ τ := hk0.tr g5 (by omega) (by decide)
    have f' := f.tr (ns _ _ _ (by omega) (by omega) g1)
    have h' : iPe τ 30 35 := iPe_cg h (g1 30 2 (by simp only [rgNS]; omega)) (fun k => g1 35 k (by simp only [rgNS]; omega))
    have k' : iPe τ 31 36 := g3
    clear f c h g1 g3 hk0 g5
    refine ok_if_ne 18 35 rfl rfl rfl (fun h29 => ?_) (fun h29 => ?_)
    · refine ok_iconst 20 rfl rfl (by decide) (ok_ist3 21 rfl rfl rfl ?_)
      refine lpO2 (fun (j : Int) (_ : eS) => [some (vr 25), some (vr t), some (vi i), some (vi j), none]) (fun _ ρ => ρ) (fun j ρ => 0 ≤ j ∧ j ≤ 4 ∧ fr (rgSe t) σ ρ ∧ iCh ρ ∧ iPe ρ 30 35 ∧ iPe ρ 31 36 ∧ mkS (4117 * i + 1 + 1029 * j) σ ρ) (fun j _ => (4 - j).toNat) ?_ 0 τ ⟨by omega, by omega, f', g2, h', k', hk1.mono (by omega)⟩
      clear g2 g4 h29 z f' h' k' hk1 τ ρ
      rintro j ρ ⟨j1, j2, f, c, h, k, hk1⟩ ih2
      refine ok_iload_n 22 rfl rfl rfl (ok_iconst 23 rfl rfl (by decide) (ok_icmp_ge 24 100 rfl rfl rfl (fun h39 => ?_) (fun h39 => ?_)))
      · refine ok_inc2 57 rfl rfl rfl (by first | omega | (simp [up_if]; omega) | (simp [up_if] at *; omega)) (ok_goto 58 18 rfl rfl rfl ?_)
        exact ok_fg [some (vr 25), some (vr t), some (vi (i + 1)), none, none] ⟨rfl, rfl, rfl, trivial⟩ (ih (i + 1) ρ ⟨by omega, by omega, f, c, h, hk1.mono (by omega)⟩ (by omega))
      · refine ok_aload_n 25 rfl rfl rfl (ok_iconst 26 rfl rfl (by decide) (ok_iload_n 27 rfl rfl rfl (ok_callVI (M' := M_Se_isNewStep) (as := [_, _]) 28 rfl rfl ml_X7_44 (s_Se_isNewStep (l := 1) (by omega) ⟨by omega, by omega⟩ c k) rfl rfl (Nat.le_of_ble_eq_true rfl) ⟨Nat.le_of_ble_eq_true rfl, Nat.le_of_ble_eq_true rfl⟩ rfl (Nat.le_of_ble_eq_true rfl) (fun τ z g => ?_))))
        obtain ⟨g1, g2, g3, g4, g5⟩ := g
        have hk2 : mkS (4117 * i + 1 + 1029 * j + 1) σ τ := hk1.tr g5 (by omega) (by decide)
        have f' := f.tr (ns _ _ _ (by omega) (by omega) g1)
        have h' : iPe τ 30 35 := iPe_cg h (g1 30 2 (by simp only [rgNS]; omega)) (fun k => g1 35 k (by simp only [rgNS]; omega))
        have k' : iPe τ 31 36 := iPe_cg k (g1 31 2 (by simp only [rgNS]; omega)) (fun k => g1 36 k (by simp only [rgNS]; omega))
        have l' : iPe τ 32 37 := g3
        clear f c h k g1 g3 hk1 g5
        refine ok_if_ne 29 54 rfl rfl rfl (fun h48 => ?_) (fun h48 => ?_)
        · refine ok_iconst 31 rfl rfl (by decide) (ok_ist4 32 rfl rfl rfl ?_)
          refine lpO2 (fun (m : Int) (_ : eS) => [some (vr 25), some (vr t), some (vi i), some (vi j), some (vi m)]) (fun _ ρ => ρ) (fun m ρ => 0 ≤ m ∧ m ≤ 4 ∧ fr (rgSe t) σ ρ ∧ iCh ρ ∧ iPe ρ 30 35 ∧ iPe ρ 31 36 ∧ iPe ρ 32 37 ∧ mkS (4117 * i + 1 + 1029 * j + 1 + 257 * m) σ ρ) (fun m _ => (4 - m).toNat) ?_ 0 τ ⟨by omega, by omega, f', g2, h', k', l', hk2.mono (by omega)⟩
          clear g2 g4 h48 z f' h' k' l' hk2 τ ρ
          rintro m ρ ⟨m1, m2, f, c, h, k, l, hk2⟩ ih3
          refine ok_iload 33 rfl rfl rfl (ok_iconst 34 rfl rfl (by decide) (ok_icmp_ge 35 94 rfl rfl rfl (fun h60 => ?_) (fun h60 => ?_)))
          · refine ok_inc3 55 rfl rfl rfl (by first | omega | (simp [up_if]; omega) | (simp [up_if] at *; omega)) (ok_goto 56 37 rfl rfl rfl ?_)
            exact ok_fg [some (vr 25), some (vr t), some (vi i), some (vi (j + 1)), none] ⟨rfl, rfl, rfl, rfl, trivial⟩ (ih2 (j + 1) ρ ⟨by omega, by omega, f, c, h, k, hk2.mono (by omega)⟩ (by omega))
          · refine ok_aload_n 36 rfl rfl rfl (ok_iconst 37 rfl rfl (by decide) (ok_iload 38 rfl rfl rfl (ok_callVI (M' := M_Se_isNewStep) (as := [_, _]) 39 rfl rfl ml_X7_44 (s_Se_isNewStep (l := 2) (by omega) ⟨by omega, by omega⟩ c l) rfl rfl (Nat.le_of_ble_eq_true rfl) ⟨Nat.le_of_ble_eq_true rfl, Nat.le_of_ble_eq_true rfl⟩ rfl (Nat.le_of_ble_eq_true rfl) (fun τ z g => ?_))))
            obtain ⟨g1, g2, g3, g4, g5⟩ := g
            have hk3 : mkS (4117 * i + 1 + 1029 * j + 1 + 257 * m + 1) σ τ := hk2.tr g5 (by omega) (by decide)
            have f' := f.tr (ns _ _ _ (by omega) (by omega) g1)
            have h' : iPe τ 30 35 := iPe_cg h (g1 30 2 (by simp only [rgNS]; omega)) (fun k => g1 35 k (by simp only [rgNS]; omega))
            have k' : iPe τ 31 36 := iPe_cg k (g1 31 2 (by simp only [rgNS]; omega)) (fun k => g1 36 k (by simp only [rgNS]; omega))
            have l' : iPe τ 32 37 := iPe_cg l (g1 32 2 (by simp only [rgNS]; omega)) (fun k => g1 37 k (by simp only [rgNS]; omega))
            have m' : iPe τ 33 38 := g3
            clear f c h k l g1 g3 hk2 g5
            refine ok_if_eq 40 88 rfl rfl rfl (fun h70 => ?_) (fun h70 => ?_)
            · refine ok_inc4 53 rfl rfl rfl (by first | omega | (simp [up_if]; omega) | (simp [up_if] at *; omega)) (ok_goto 54 57 rfl rfl rfl ?_)
              exact ih3 (m + 1) τ ⟨by omega, by omega, f', g2, h', k', l', hk3.mono (by omega)⟩ (by omega)
            · refine ok_aload_n 41 rfl rfl rfl (ok_aload_n 42 rfl rfl rfl (ok_iload_n 43 rfl rfl rfl (ok_iconst 44 rfl rfl (by decide) (ok_imul 45 rfl rfl (by first | omega | (simp [up_if]; omega) | (simp [up_if] at *; omega)) (ok_iload_n 46 rfl rfl rfl (ok_iadd 47 rfl rfl (by first | omega | (simp [up_if]; omega) | (simp [up_if] at *; omega)) (ok_iconst 48 rfl rfl (by decide) (ok_imul 49 rfl rfl (by first | omega | (simp [up_if]; omega) | (simp [up_if] at *; omega)) (ok_iload 50 rfl rfl rfl (ok_iadd 51 rfl rfl (by first | omega | (simp [up_if]; omega) | (simp [up_if] at *; omega)) (ok_callVV (M' := M_Se_finish) (as := [_, _]) 52 rfl rfl ml_X7_48 (s_Se_finish ht g2 m') rfl rfl (Nat.le_of_ble_eq_true rfl) ⟨Nat.le_of_ble_eq_true rfl, Nat.le_of_ble_eq_true rfl⟩ rfl (Nat.le_of_ble_eq_true rfl) (fun υ u => ?_))))))))))))
              refine ok_inc4 53 rfl rfl rfl (by first | omega | (simp [up_if]; omega) | (simp [up_if] at *; omega)) (ok_goto 54 57 rfl rfl rfl ?_)
              exact ih3 (m + 1) υ ⟨by omega, by omega, f'.tr (u.1.mono (fun c k w => by simp only [rgFin, rgSe] at w ⊢; omega)), u.2.1, iPe_cg h' (u.1 30 2 (by simp only [rgFin]; omega)) (fun k => u.1 35 k (by simp only [rgFin]; omega)), iPe_cg k' (u.1 31 2 (by simp only [rgFin]; omega)) (fun k => u.1 36 k (by simp only [rgFin]; omega)), iPe_cg l' (u.1 32 2 (by simp only [rgFin]; omega)) (fun k => u.1 37 k (by simp only [rgFin]; omega)), (hk3.tr u.2.2 (by omega) (by decide)).mono (by omega)⟩ (by omega)
        · refine ok_goto 30 94 rfl rfl rfl (ok_inc3 55 rfl rfl rfl (by first | omega | (simp [up_if]; omega) | (simp [up_if] at *; omega)) (ok_goto 56 37 rfl rfl rfl ?_))
          exact ih2 (j + 1) τ ⟨by omega, by omega, f', g2, h', k', hk2.mono (by omega)⟩ (by omega)
    · refine ok_goto 19 100 rfl rfl rfl (ok_inc2 57 rfl rfl rfl (by first | omega | (simp [up_if]; omega) | (simp [up_if] at *; omega)) (ok_goto 58 18 rfl rfl rfl ?_))
      exact ih (i + 1) τ ⟨by omega, by omega, f', g2, h', hk1.mono (by omega)⟩ (by omega)
theorem s_Se_leastOf {σ : eS} {c : Nat} (hs : nth shA c = some (1, 3, [])) : MtI shA M_Se_leastOf [vr c] σ (fun σ' _ => σ' = σ ∧ True) := by
  refine Mt.of okM_Se_leastOf (Nat.le_of_ble_eq_true rfl) (fun hk hg => ?_)
  refine ok_aload_n 0 rfl rfl rfl (ok_iconst 1 rfl rfl (by decide) (ok_iald 2 rfl rfl hs (by first | omega | (simp [up_if]; omega) | (simp [up_if] at *; omega)) (ok_ist1 3 rfl rfl rfl (ok_aload_n 4 rfl rfl rfl (ok_ast2 5 rfl rfl rfl (ok_aload_n 6 rfl rfl rfl (ok_alen 7 rfl rfl hs rfl rfl (by decide) (ok_ist3 8 rfl rfl rfl (ok_iconst 9 rfl rfl (by decide) (ok_ist4 10 rfl rfl rfl ?_))))))))))
  refine lpO2 (fun (v i : Int) => [some (vr c), some (vi v), some (vr c), some (vi 3), some (vi i), none]) (fun _ _ => σ) (fun _ i => 0 ≤ i ∧ i ≤ 3) (fun _ i => (3 - i).toNat) ?_ _ 0 ⟨by omega, by omega⟩
  rintro v i ⟨i1, i2⟩ ih
  refine ok_iload 11 rfl rfl rfl (ok_iload_n 12 rfl rfl rfl (ok_icmp_ge 13 37 rfl rfl rfl (fun h15 => ?_) (fun h15 => ?_)))
  · refine ok_iload_n 24 rfl rfl rfl (ok_iret 25 rfl rfl rfl ?_)
    exact ⟨_, rfl, rfl, trivial⟩
  · refine ok_aload_n 14 rfl rfl rfl (ok_iload 15 rfl rfl rfl (ok_iald 16 rfl rfl hs (by first | omega | (simp [up_if]; omega) | (simp [up_if] at *; omega)) (ok_ist5 17 rfl rfl rfl (ok_iload_n 18 rfl rfl rfl (ok_iload 19 rfl rfl rfl (ok_mmin 20 rfl rfl ml_X7_100 ⟨Nat.le_of_ble_eq_true rfl, Nat.le_of_ble_eq_true rfl⟩ (ok_ist1 21 rfl rfl rfl (ok_inc4 22 rfl rfl rfl (by first | omega | (simp [up_if]; omega) | (simp [up_if] at *; omega)) (ok_goto 23 12 rfl rfl rfl ?_)))))))))
    exact ok_fg [some (vr c), some (vi _), some (vr c), some (vi 3), some (vi (i + 1)), none] ⟨rfl, rfl, rfl, rfl, rfl, trivial⟩ (ih _ (i + 1) ⟨by omega, by omega⟩ (by omega))
theorem s_Se_countAbove {σ : eS} {c : Nat} {b : Int} (hs : nth shA c = some (1, 3, [])) : MtI shA M_Se_countAbove [vr c, vi b] σ (fun σ' _ => σ' = σ ∧ True) := by
  refine Mt.of okM_Se_countAbove (Nat.le_of_ble_eq_true rfl) (fun hk hg => ?_)
  refine ok_iconst 0 rfl rfl (by decide) (ok_ist2 1 rfl rfl rfl (ok_aload_n 2 rfl rfl rfl (ok_ast3 3 rfl rfl rfl (ok_aload_n 4 rfl rfl rfl (ok_alen 5 rfl rfl hs rfl rfl (by decide) (ok_ist4 6 rfl rfl rfl (ok_iconst 7 rfl rfl (by decide) (ok_ist5 8 rfl rfl rfl ?_))))))))
  refine lpO2 (fun (v i : Int) => [some (vr c), some (vi b), some (vi v), some (vr c), some (vi 3), some (vi i), none]) (fun _ _ => σ) (fun v i => 0 ≤ i ∧ i ≤ 3 ∧ 0 ≤ v ∧ v ≤ i) (fun _ i => (3 - i).toNat) ?_ 0 0 ⟨by omega, by omega, by omega, by omega⟩
  rintro v i ⟨i1, i2, v1, v2⟩ ih
  refine ok_iload 9 rfl rfl rfl (ok_iload 10 rfl rfl rfl (ok_icmp_ge 11 39 rfl rfl rfl (fun h15 => ?_) (fun h15 => ?_)))
  · refine ok_iload_n 22 rfl rfl rfl (ok_iret 23 rfl rfl rfl ?_)
    exact ⟨_, rfl, rfl, trivial⟩
  · refine ok_aload_n 12 rfl rfl rfl (ok_iload 13 rfl rfl rfl (ok_iald 14 rfl rfl hs (by first | omega | (simp [up_if]; omega) | (simp [up_if] at *; omega)) (ok_ist6 15 rfl rfl rfl (ok_iload 16 rfl rfl rfl (ok_iload_n 17 rfl rfl rfl (ok_icmp_le 18 33 rfl rfl rfl (fun h27 => ?_) (fun h27 => ?_)))))))
    · refine ok_inc5 20 rfl rfl rfl (by first | omega | (simp [up_if]; omega) | (simp [up_if] at *; omega)) (ok_goto 21 11 rfl rfl rfl ?_)
      exact ok_fg [some (vr c), some (vi b), some (vi _), some (vr c), some (vi 3), some (vi (i + 1)), none] ⟨rfl, rfl, rfl, rfl, rfl, rfl, trivial⟩ (ih _ (i + 1) ⟨by omega, by omega, by omega, by omega⟩ (by omega))
    · refine ok_inc2 19 rfl rfl rfl (by first | omega | (simp [up_if]; omega) | (simp [up_if] at *; omega)) (ok_inc5 20 rfl rfl rfl (by first | omega | (simp [up_if]; omega) | (simp [up_if] at *; omega)) (ok_goto 21 11 rfl rfl rfl ?_))
      exact ok_fg [some (vr c), some (vi b), some (vi _), some (vr c), some (vi 3), some (vi (i + 1)), none] ⟨rfl, rfl, rfl, rfl, rfl, rfl, trivial⟩ (ih _ (i + 1) ⟨by omega, by omega, by omega, by omega⟩ (by omega))
abbrev rgAW : Nat → Int → Prop := fun c _ => c = 28 ∨ c = 29
theorem s_Se_addWeight {σ : eS} {w : Int} (hC : iCh σ) : MtV shA M_Se_addWeight [vr 25, vi w] σ (fun σ' => fr rgAW σ σ') := by
  refine Mt.of okM_Se_addWeight (Nat.le_of_ble_eq_true rfl) (fun hk hg => ?_)
  have c0 := hC 0 (by decide) (by decide)
  refine ok_aload_n 0 rfl rfl rfl (ok_getR 1 rfl rfl fl_X7_27 rfl rfl (ok_getR 2 rfl rfl fl_X7_106 rfl rfl (ok_iconst 3 rfl rfl (by decide) (ok_iald 4 rfl rfl rfl (by first | omega | (simp [up_if]; omega) | (simp [up_if] at *; omega)) (ok_ist2 5 rfl rfl rfl (ok_iload_n 6 rfl rfl rfl (ok_iconst 7 rfl rfl (by decide) (ok_icmp_ge 8 55 rfl rfl rfl (fun h12 => ?_) (fun h12 => ?_)))))))))
  · refine ok_vret 37 rfl rfl rfl ?_
    first | exact ⟨rfl, fr.rf⟩ | exact ⟨rfl, fr_up fr.rf (by simp [rgAW])⟩
  · refine ok_aload_n 9 rfl rfl rfl (ok_getR 10 rfl rfl fl_X7_27 rfl rfl (ok_getR 11 rfl rfl fl_X7_106 rfl rfl (ok_iconst 12 rfl rfl (by decide) (ok_iald 13 rfl rfl rfl (by first | omega | (simp [up_if]; omega) | (simp [up_if] at *; omega)) (ok_iload_n 14 rfl rfl rfl (ok_iconst 15 rfl rfl (by decide) (ok_iadd 16 rfl rfl (by first | omega | (simp [up_if]; omega) | (simp [up_if] at *; omega)) (ok_iconst 17 rfl rfl (by decide) (ok_irem 18 rfl rfl (by first | omega | (simp [up_if]; omega) | (simp [up_if] at *; omega)) (by first | omega | (simp [up_if]; omega) | (simp [up_if] at *; omega)) (ok_icmp_ne 19 45 rfl rfl rfl (fun h29 => ?_) (fun h29 => ?_)))))))))))
    · refine ok_aload_n 29 rfl rfl rfl (ok_getR 30 rfl rfl fl_X7_24 rfl rfl (ok_iload_n 31 rfl rfl rfl (ok_dup2 32 rfl rfl ⟨rfl, rfl⟩ (ok_iald 33 rfl rfl rfl (by first | omega | (simp [up_if]; omega) | (simp [up_if] at *; omega)) (ok_iload_n 34 rfl rfl rfl (ok_iaddW 35 rfl rfl (ok_iast 36 rfl rfl rfl (by first | omega | (simp [up_if]; omega) | (simp [up_if] at *; omega)) (ok_vret 37 rfl rfl rfl ?_))))))))
      first | exact ⟨rfl, fr.rf⟩ | exact ⟨rfl, fr_up fr.rf (by simp [rgAW])⟩
    · refine ok_aload_n 20 rfl rfl rfl (ok_getR 21 rfl rfl fl_X7_21 rfl rfl (ok_iload_n 22 rfl rfl rfl (ok_dup2 23 rfl rfl ⟨rfl, rfl⟩ (ok_iald 24 rfl rfl rfl (by first | omega | (simp [up_if]; omega) | (simp [up_if] at *; omega)) (ok_iload_n 25 rfl rfl rfl (ok_iaddW 26 rfl rfl (ok_iast 27 rfl rfl rfl (by first | omega | (simp [up_if]; omega) | (simp [up_if] at *; omega)) (ok_goto 28 55 rfl rfl rfl (ok_vret 37 rfl rfl rfl ?_)))))))))
      first | exact ⟨rfl, fr.rf⟩ | exact ⟨rfl, fr_up fr.rf (by simp [rgAW])⟩
abbrev rgSf : Nat → Int → Prop := fun c _ => (30 ≤ c ∧ c ≤ 39) ∨ (16 ≤ c ∧ c ≤ 19) ∨ (27 ≤ c ∧ c ≤ 29)
theorem s_Se_countFewest {σ : eS} {t : Nat} (ht : tA t) (hT : iT σ t) (hC : iCh σ) : MtI shA M_Se_countFewest [vr 25, vr t] σ (fun σ' _ => fr (rgSf) σ σ' ∧ iCh σ' ∧ mkS 64 σ σ') := by
  refine Mt.of okM_Se_countFewest (Nat.le_of_ble_eq_true rfl) (fun hk hg => ?_)
  have nA := tA_10 ht
  have hp : pP 30 35 := by unfold pP; omega
  refine ok_aload_n 0 rfl rfl rfl (ok_getR 1 rfl rfl fl_X7_21 rfl rfl (ok_iconst 2 rfl rfl (by decide) (ok_callSV (M' := M_Ja_fill) (as := [_, _]) 3 rfl rfl ml_X7_77 (s_Ja_fill (c := 28) (N := 3) rfl (by decide)) ⟨Nat.le_of_ble_eq_true rfl, Nat.le_of_ble_eq_true rfl⟩ rfl (Nat.le_of_ble_eq_true rfl) (fun τ1 f1 => ?_))))
  refine ok_aload_n 4 rfl rfl rfl (ok_getR 5 rfl rfl fl_X7_24 rfl rfl (ok_iconst 6 rfl rfl (by decide) (ok_callSV (M' := M_Ja_fill) (as := [_, _]) 7 rfl rfl ml_X7_77 (s_Ja_fill (c := 29) (N := 3) rfl (by decide)) ⟨Nat.le_of_ble_eq_true rfl, Nat.le_of_ble_eq_true rfl⟩ rfl (Nat.le_of_ble_eq_true rfl) (fun τ2 f2 => ?_))))
  refine ok_aload_n 8 rfl rfl rfl (ok_getR 9 rfl rfl fl_X7_13 rfl rfl (ok_iconst 10 rfl rfl (by decide) (ok_aald 11 30 rfl rfl rfl (Or.inr rfl) (by omega) rfl (ok_ast2 12 rfl rfl rfl ?_))))
  have F : fr rgAW σ τ2 := (f1.1.mono (fun c k w => Or.inl w)).tr (f2.1.mono (fun c k w => Or.inr w))
  have T : iT τ2 t := (iT_cg hT (F t 1 (by simp only [rgAW]; omega)) (F t 2 (by simp only [rgAW]; omega)) (fun k => F (t + 4) k (by simp only [rgAW]; omega))).1
  refine ok_aload_n 13 rfl rfl rfl (ok_aload_n 14 rfl rfl rfl (ok_callVV (M' := M_Pe_startTable) (as := [_]) 15 rfl rfl ml_X7_40 (s_Pe_startTable hp ht T) rfl rfl (Nat.le_of_ble_eq_true rfl) ⟨Nat.le_of_ble_eq_true rfl, Nat.le_of_ble_eq_true rfl⟩ rfl (Nat.le_of_ble_eq_true rfl) (fun τ g => ?_)))
  refine ok_iconst 16 rfl rfl (by decide) (ok_ist3 17 rfl rfl rfl ?_)
  obtain ⟨g1, g2, g3, g4⟩ := g
  refine lpO2 (fun (k : Int) (_ : eS) => [some (vr 25), some (vr t), some (vr 30), some (vi k), none]) (fun _ ρ => ρ) (fun k ρ => 0 ≤ k ∧ k ≤ 64 ∧ fr (rgSf) σ ρ ∧ iCh ρ ∧ iPe ρ 30 35 ∧ mkS k σ ρ) (fun k _ => (64 - k).toNat) ?_ 0 τ ⟨by omega, by omega, (F.mono (fun c k w => by simp only [rgAW, rgSf] at w ⊢; omega)).tr (g1.mono (fun c k w => by simp only [rgP0, rgSf] at w ⊢; omega)), iCh_cg hC (fun k => by rw [g1 17 k (by simp [rgP0]), F 17 k (by simp [rgAW])]), g2, mkS_cg (by decide) (by rw [g1 16 3 (by simp [rgP0]), F 16 3 (by simp [rgAW])]) (fun k => by rw [g1 19 k (by simp [rgP0]), F 19 k (by simp [rgAW])])⟩
  clear g1 g2 g3 g4 τ T F f1 f2 τ1 τ2
  rintro k ρ ⟨k1, k2, f, c, h, hk0⟩ ih
  refine ok_iload_n 18 rfl rfl rfl (ok_bipush 19 rfl rfl (by decide) (by decide) (ok_icmp_ge 20 62 rfl rfl rfl (fun h33 => ?_) (fun h33 => ?_)))
  · refine ok_aload_n 33 rfl rfl rfl (ok_getI 34 rfl rfl fl_X7_89 (sT ht) rfl (Or.inl rfl) (ok_iconst 35 rfl rfl (by decide) (ok_icmp_ge 36 75 rfl rfl rfl (fun h67 => ?_) (fun h67 => ?_))))
    · refine ok_aload_n 40 rfl rfl rfl (ok_getR 41 rfl rfl fl_X7_21 rfl rfl (ok_callSI (M' := M_Se_leastOf) (as := [_]) 42 rfl rfl ml_X7_92 (s_Se_leastOf (c := 28) rfl) ⟨Nat.le_of_ble_eq_true rfl, Nat.le_of_ble_eq_true rfl⟩ rfl (Nat.le_of_ble_eq_true rfl) (fun σ' z1 x1 => ?_)))
      obtain ⟨hs_, x1⟩ := x1
      rw [hs_]; clear hs_ σ'
      refine ok_ist3 43 rfl rfl rfl (ok_aload_n 44 rfl rfl rfl (ok_getR 45 rfl rfl fl_X7_24 rfl rfl (ok_callSI (M' := M_Se_leastOf) (as := [_]) 46 rfl rfl ml_X7_92 (s_Se_leastOf (c := 29) rfl) ⟨Nat.le_of_ble_eq_true rfl, Nat.le_of_ble_eq_true rfl⟩ rfl (Nat.le_of_ble_eq_true rfl) (fun σ' z2 x2 => ?_))))
      obtain ⟨hs_, x2⟩ := x2
      rw [hs_]; clear hs_ σ'
      refine ok_ist4 47 rfl rfl rfl (ok_aload_n 48 rfl rfl rfl (ok_getR 49 rfl rfl fl_X7_21 rfl rfl (ok_iload_n 50 rfl rfl rfl (ok_callSI (M' := M_Se_countAbove) (as := [_, _]) 51 rfl rfl ml_X7_96 (s_Se_countAbove (c := 28) rfl) ⟨Nat.le_of_ble_eq_true rfl, Nat.le_of_ble_eq_true rfl⟩ rfl (Nat.le_of_ble_eq_true rfl) (fun σ' z3 x3 => ?_)))))
      obtain ⟨hs_, x3⟩ := x3
      rw [hs_]; clear hs_ σ'
      refine ok_aload_n 52 rfl rfl rfl (ok_getR 53 rfl rfl fl_X7_24 rfl rfl (ok_iload_n 54 rfl rfl rfl (ok_inegW 55 rfl rfl (ok_callSI (M' := M_Se_countAbove) (as := [_, _]) 56 rfl rfl ml_X7_96 (s_Se_countAbove (c := 29) rfl) ⟨Nat.le_of_ble_eq_true rfl, Nat.le_of_ble_eq_true rfl⟩ rfl (Nat.le_of_ble_eq_true rfl) (fun σ' z4 x4 => ?_)))))
      obtain ⟨hs_, x4⟩ := x4
      rw [hs_]; clear hs_ σ'
      refine ok_iaddW 57 rfl rfl (ok_aload_n 58 rfl rfl rfl (ok_getR 59 rfl rfl fl_X7_21 rfl rfl (ok_iload 60 rfl rfl rfl (ok_inegW 61 rfl rfl (ok_callSI (M' := M_Se_countAbove) (as := [_, _]) 62 rfl rfl ml_X7_96 (s_Se_countAbove (c := 28) rfl) ⟨Nat.le_of_ble_eq_true rfl, Nat.le_of_ble_eq_true rfl⟩ rfl (Nat.le_of_ble_eq_true rfl) (fun σ' z5 x5 => ?_))))))
      obtain ⟨hs_, x5⟩ := x5
      rw [hs_]; clear hs_ σ'
      refine ok_aload_n 63 rfl rfl rfl (ok_getR 64 rfl rfl fl_X7_24 rfl rfl (ok_iload 65 rfl rfl rfl (ok_callSI (M' := M_Se_countAbove) (as := [_, _]) 66 rfl rfl ml_X7_96 (s_Se_countAbove (c := 29) rfl) ⟨Nat.le_of_ble_eq_true rfl, Nat.le_of_ble_eq_true rfl⟩ rfl (Nat.le_of_ble_eq_true rfl) (fun σ' z6 x6 => ?_))))
      obtain ⟨hs_, x6⟩ := x6
      rw [hs_]; clear hs_ σ'
      refine ok_iaddW 67 rfl rfl (ok_mmin 68 rfl rfl ml_X7_100 ⟨Nat.le_of_ble_eq_true rfl, Nat.le_of_ble_eq_true rfl⟩ (ok_iret 69 rfl rfl rfl ?_))
      exact ⟨_, rfl, f, c, hk0.mono (by omega)⟩
    · refine ok_aload_n 37 rfl rfl rfl (ok_getI 38 rfl rfl fl_X7_71 rfl rfl (Or.inl rfl) (ok_iret 39 rfl rfl rfl ?_))
      exact ⟨_, rfl, f, c, hk0.mono (by omega)⟩
  · refine ok_aload_n 21 rfl rfl rfl (ok_getI 22 rfl rfl fl_X7_60 rfl rfl (Or.inl rfl) (ok_if_le 23 62 rfl rfl rfl (fun h40 => ?_) (fun h40 => ?_)))
    · refine ok_aload_n 33 rfl rfl rfl (ok_getI 34 rfl rfl fl_X7_89 (sT ht) rfl (Or.inl rfl) (ok_iconst 35 rfl rfl (by decide) (ok_icmp_ge 36 75 rfl rfl rfl (fun h67 => ?_) (fun h67 => ?_))))
      · refine ok_aload_n 40 rfl rfl rfl (ok_getR 41 rfl rfl fl_X7_21 rfl rfl (ok_callSI (M' := M_Se_leastOf) (as := [_]) 42 rfl rfl ml_X7_92 (s_Se_leastOf (c := 28) rfl) ⟨Nat.le_of_ble_eq_true rfl, Nat.le_of_ble_eq_true rfl⟩ rfl (Nat.le_of_ble_eq_true rfl) (fun σ' z1 x1 => ?_)))
        obtain ⟨hs_, x1⟩ := x1
        rw [hs_]; clear hs_ σ'
        refine ok_ist3 43 rfl rfl rfl (ok_aload_n 44 rfl rfl rfl (ok_getR 45 rfl rfl fl_X7_24 rfl rfl (ok_callSI (M' := M_Se_leastOf) (as := [_]) 46 rfl rfl ml_X7_92 (s_Se_leastOf (c := 29) rfl) ⟨Nat.le_of_ble_eq_true rfl, Nat.le_of_ble_eq_true rfl⟩ rfl (Nat.le_of_ble_eq_true rfl) (fun σ' z2 x2 => ?_))))
        obtain ⟨hs_, x2⟩ := x2
        rw [hs_]; clear hs_ σ'
        refine ok_ist4 47 rfl rfl rfl (ok_aload_n 48 rfl rfl rfl (ok_getR 49 rfl rfl fl_X7_21 rfl rfl (ok_iload_n 50 rfl rfl rfl (ok_callSI (M' := M_Se_countAbove) (as := [_, _]) 51 rfl rfl ml_X7_96 (s_Se_countAbove (c := 28) rfl) ⟨Nat.le_of_ble_eq_true rfl, Nat.le_of_ble_eq_true rfl⟩ rfl (Nat.le_of_ble_eq_true rfl) (fun σ' z3 x3 => ?_)))))
        obtain ⟨hs_, x3⟩ := x3
        rw [hs_]; clear hs_ σ'
        refine ok_aload_n 52 rfl rfl rfl (ok_getR 53 rfl rfl fl_X7_24 rfl rfl (ok_iload_n 54 rfl rfl rfl (ok_inegW 55 rfl rfl (ok_callSI (M' := M_Se_countAbove) (as := [_, _]) 56 rfl rfl ml_X7_96 (s_Se_countAbove (c := 29) rfl) ⟨Nat.le_of_ble_eq_true rfl, Nat.le_of_ble_eq_true rfl⟩ rfl (Nat.le_of_ble_eq_true rfl) (fun σ' z4 x4 => ?_)))))
        obtain ⟨hs_, x4⟩ := x4
        rw [hs_]; clear hs_ σ'
        refine ok_iaddW 57 rfl rfl (ok_aload_n 58 rfl rfl rfl (ok_getR 59 rfl rfl fl_X7_21 rfl rfl (ok_iload 60 rfl rfl rfl (ok_inegW 61 rfl rfl (ok_callSI (M' := M_Se_countAbove) (as := [_, _]) 62 rfl rfl ml_X7_96 (s_Se_countAbove (c := 28) rfl) ⟨Nat.le_of_ble_eq_true rfl, Nat.le_of_ble_eq_true rfl⟩ rfl (Nat.le_of_ble_eq_true rfl) (fun σ' z5 x5 => ?_))))))
        obtain ⟨hs_, x5⟩ := x5
        rw [hs_]; clear hs_ σ'
        refine ok_aload_n 63 rfl rfl rfl (ok_getR 64 rfl rfl fl_X7_24 rfl rfl (ok_iload 65 rfl rfl rfl (ok_callSI (M' := M_Se_countAbove) (as := [_, _]) 66 rfl rfl ml_X7_96 (s_Se_countAbove (c := 29) rfl) ⟨Nat.le_of_ble_eq_true rfl, Nat.le_of_ble_eq_true rfl⟩ rfl (Nat.le_of_ble_eq_true rfl) (fun σ' z6 x6 => ?_))))
        obtain ⟨hs_, x6⟩ := x6
        rw [hs_]; clear hs_ σ'
        refine ok_iaddW 67 rfl rfl (ok_mmin 68 rfl rfl ml_X7_100 ⟨Nat.le_of_ble_eq_true rfl, Nat.le_of_ble_eq_true rfl⟩ (ok_iret 69 rfl rfl rfl ?_))
        exact ⟨_, rfl, f, c, hk0.mono (by omega)⟩
      · refine ok_aload_n 37 rfl rfl rfl (ok_getI 38 rfl rfl fl_X7_71 rfl rfl (Or.inl rfl) (ok_iret 39 rfl rfl rfl ?_))
        exact ⟨_, rfl, f, c, hk0.mono (by omega)⟩
    · refine ok_aload_n 24 rfl rfl rfl (ok_iconst 25 rfl rfl (by decide) (ok_callVV (M' := M_Pe_takePart) (as := [_]) 26 rfl rfl ml_X7_63 (s_Pe_takePart hp h c) rfl rfl (Nat.le_of_ble_eq_true rfl) ⟨Nat.le_of_ble_eq_true rfl, Nat.le_of_ble_eq_true rfl⟩ rfl (Nat.le_of_ble_eq_true rfl) (fun υ u => ?_)))
      refine ok_aload_n 27 rfl rfl rfl (ok_aload_n 28 rfl rfl rfl (ok_getI 29 rfl rfl fl_X7_83 rfl rfl (Or.inl rfl) (ok_callVV (M' := M_Se_addWeight) (as := [_]) 30 rfl rfl ml_X7_86 (s_Se_addWeight u.2.2.1) rfl rfl (Nat.le_of_ble_eq_true rfl) ⟨Nat.le_of_ble_eq_true rfl, Nat.le_of_ble_eq_true rfl⟩ rfl (Nat.le_of_ble_eq_true rfl) (fun ω v => ?_))))
      refine ok_inc3 31 rfl rfl rfl (by first | omega | (simp [up_if]; omega) | (simp [up_if] at *; omega)) (ok_goto 32 30 rfl rfl rfl ?_)
      exact ih (k + 1) ω ⟨by omega, by omega, (f.tr (u.1.mono (fun c k w => by simp only [rgPe, rgSf] at w ⊢; omega))).tr (v.mono (fun c k w => by simp only [rgAW, rgSf] at w ⊢; omega)), iCh_cg u.2.2.1 (fun k => v 17 k (by simp [rgAW])), iPe_cg u.2.1 (v 30 2 (by simp [rgAW])) (fun k => v 35 k (by simp [rgAW])), ((hk0.tr u.2.2.2.2.2.2 (by omega) (by decide)).tr (mkS_fr (N := 0) (by decide) v (by simp [rgAW]) (fun k => by simp [rgAW])) (by omega) (by decide)).mono (by omega)⟩ (by omega)
theorem QA_S {σ τ : eS} (h : IA σ) (f : fr (fun c k => (2 ≤ c ∧ c ≤ 5 ∧ 6 ≤ k) ∨ (16 ≤ c ∧ c ≤ 19) ∨ (25 ≤ c ∧ c ≤ 45)) σ τ) (c : iCh τ) (hk : mkS 20000 σ τ) : QAk σ τ := by
  have e3 := f 10 3 (by omega)
  refine ⟨⟨?_, iTs_cg h.2.1 (fun c k a b d => f c k (by omega)), c, iMi_cg h.2.2.2.1 (fun c k a b => f c k (by omega)), iSh_cg h.2.2.2.2.1 (fun k => f _ k (by omega)), iSu_cg h.2.2.2.2.2 (fun k => f _ k (by omega))⟩, ⟨fun k => f _ k (by omega), fun k => f _ k (by omega)⟩, fun c k a b d => f c k (by omega), fun c k a b => f c k (by omega), fun c k a b => f c k (by omega), hk⟩
  unfold tL
  rw [e3]
  exact h.1
theorem QA_B {σ τ : eS} (h : IA σ) (f : fr (fun c k => (16 ≤ c ∧ c ≤ 19) ∨ (25 ≤ c ∧ c ≤ 45)) σ τ) (c : iCh τ) (hk : mkS 20000 σ τ) : QA σ τ := by
  have e3 := f 10 3 (by omega)
  refine ⟨⟨?_, iTs_cg h.2.1 (fun c k a b d => f c k (by omega)), c, iMi_cg h.2.2.2.1 (fun c k a b => f c k (by omega)), iSh_cg h.2.2.2.2.1 (fun k => f _ k (by omega)), iSu_cg h.2.2.2.2.2 (fun k => f _ k (by omega))⟩, ⟨fun k => f _ k (by omega), fun k => f _ k (by omega)⟩, fun c k a b d => f c k (by omega), fun c k a b => f c k (by omega), fun c k a b => f c k (by omega), hk⟩
  unfold tL
  rw [e3]
  exact h.1
theorem QA_R {σ τ : eS} (h : IA σ) (f : fr (fun c k => (2 ≤ c ∧ c ≤ 5 ∧ 4 ≤ k ∧ k ≤ 5) ∨ (16 ≤ c ∧ c ≤ 19) ∨ (25 ≤ c ∧ c ≤ 45)) σ τ) (c : iCh τ) (hk : mkS 20000 σ τ) : QAr σ τ := by
  have e3 := f 10 3 (by omega)
  refine ⟨⟨?_, iTs_cg h.2.1 (fun c k a b d => f c k (by omega)), c, iMi_cg h.2.2.2.1 (fun c k a b => f c k (by omega)), iSh_cg h.2.2.2.2.1 (fun k => f _ k (by omega)), iSu_cg h.2.2.2.2.2 (fun k => f _ k (by omega))⟩, ⟨fun k => f _ k (by omega), fun k => f _ k (by omega)⟩, fun c k a b d => f c k (by omega), fun c k a b => f c k (by omega), fun c k a b => f c k (by omega), hk⟩
  unfold tL
  rw [e3]
  exact h.1
theorem s_Ev_sought {σ : eS} {s w : Int} (h : IA σ) : MtI shA M_Ev_sought [vr 0, vi s, vi w] σ (fun σ' _ => QAk σ σ') := by
  refine Mt.of okM_Ev_sought (Nat.le_of_ble_eq_true rfl) (fun hk hg => ?_)
  refine ok_aload_n 0 rfl rfl rfl (ok_iload_n 1 rfl rfl rfl (ok_callVR (M' := M_Ev_evenSlot) (as := [_]) 2 rfl rfl ml_X11_163 (s_Ev_evenSlot) rfl rfl (Nat.le_of_ble_eq_true rfl) ⟨Nat.le_of_ble_eq_true rfl, Nat.le_of_ble_eq_true rfl⟩ rfl (Nat.le_of_ble_eq_true rfl) (fun σ' z hz => ?_)))
  obtain ⟨hs_, hz⟩ := hz
  rw [hs_]; clear hs_ σ'
  rcases hz with ⟨q, q0⟩ | ⟨q1, q2, q, q3⟩
  · subst q
    refine ok_ast3 3 rfl rfl rfl (ok_aload_n 4 rfl rfl rfl (ok_ifnullN 5 27 rfl rfl rfl (ok_iconst 15 rfl rfl (by decide) (ok_iret 16 rfl rfl rfl ?_))))
    exact ⟨_, rfl, (QA_rf h).k⟩
  · subst q
    have ht := sl_tA ⟨q1, q2⟩
    have nA := tA_10 ht
    have hT := (h.2.1 _ ht).1
    have tail : 0 ≤ w → w ≤ 4 → ∀ τ : eS, QAk σ τ → Ok shA M_Ev_sought 44 [some (vr 0), some (vi s), some (vi w), some (vr (s.toNat + 2))] [] τ (fun σ' v => ∃ z, v = some (vi z) ∧ QAk σ σ') := by
      intro w1 w2 τ hq
      refine ok_iload_n 24 rfl rfl rfl (ok_if_ne 25 55 rfl rfl rfl (fun h45 => ?_) (fun h45 => ?_))
      · refine ok_aload_n 29 rfl rfl rfl (ok_getI 30 rfl rfl fl_X11_257 (sT ht) rfl (Or.inl rfl) (ok_iconst 31 rfl rfl (by decide) (ok_iconst 32 rfl rfl (by decide) (ok_iload_n 33 rfl rfl rfl (ok_isub 34 rfl rfl (by first | omega | (simp [up_if]; omega) | (simp [up_if] at *; omega)) (ok_imul 35 rfl rfl (by first | omega | (simp [up_if]; omega) | (simp [up_if] at *; omega)) (ok_ishr 36 rfl rfl (ok_iconst 37 rfl rfl (by decide) (ok_iand 38 rfl rfl (ok_iret 39 rfl rfl rfl ?_))))))))))
        exact ⟨_, rfl, hq⟩
      · refine ok_aload_n 26 rfl rfl rfl (ok_getI 27 rfl rfl fl_X11_254 (sT ht) rfl (Or.inl rfl) (ok_goto 28 67 rfl rfl rfl (ok_iret 39 rfl rfl rfl ?_)))
        exact ⟨_, rfl, hq⟩
    refine ok_ast3 3 rfl rfl rfl (ok_aload_n 4 rfl rfl rfl (ok_ifnull 5 rfl rfl (ok_aload_n 6 rfl rfl rfl (ok_getI 7 rfl rfl fl_X11_103 (sT ht) rfl (Or.inl rfl) (ok_iconst 8 rfl rfl (by decide) (ok_icmp_gt 9 27 rfl rfl rfl (fun h15 => ?_) (fun h15 => ?_)))))))
    · refine ok_iconst 15 rfl rfl (by decide) (ok_iret 16 rfl rfl rfl ?_)
      exact ⟨_, rfl, (QA_rf h).k⟩
    · refine ok_iload_n 10 rfl rfl rfl (ok_if_lt 11 27 rfl rfl rfl (fun h19 => ?_) (fun h19 => ?_))
      · refine ok_iconst 15 rfl rfl (by decide) (ok_iret 16 rfl rfl rfl ?_)
        exact ⟨_, rfl, (QA_rf h).k⟩
      · refine ok_iload_n 12 rfl rfl rfl (ok_iconst 13 rfl rfl (by decide) (ok_icmp_le 14 29 rfl rfl rfl (fun h24 => ?_) (fun h24 => ?_)))
        · refine ok_aload_n 17 rfl rfl rfl (ok_getI 18 rfl rfl fl_X11_247 (sT ht) rfl (Or.inr rfl) (ok_if_ne 19 44 rfl rfl rfl (fun h33 => ?_) (fun h33 => ?_)))
          · exact tail (by omega) (by omega) σ ((QA_rf h).k)
          · refine ok_aload_n 20 rfl rfl rfl (ok_getR 21 rfl rfl fl_X11_55 rfl rfl (ok_aload_n 22 rfl rfl rfl (ok_callVV (M' := M_Se_seek) (as := [_]) 23 rfl rfl ml_X11_251 (s_Se_seek ht hT h.2.2.1) rfl rfl (Nat.le_of_ble_eq_true rfl) ⟨Nat.le_of_ble_eq_true rfl, Nat.le_of_ble_eq_true rfl⟩ rfl (Nat.le_of_ble_eq_true rfl) (fun τ f => ?_))))
            exact tail (by omega) (by omega) τ (QA_S h (f.1.mono (fun c k w => by simp only [rgSe] at w; omega)) f.2.1 (f.2.2.mono (by decide)))
        · refine ok_iconst 15 rfl rfl (by decide) (ok_iret 16 rfl rfl rfl ?_)
          exact ⟨_, rfl, (QA_rf h).k⟩
theorem s_Ev_bound {σ : eS} {s w : Int} (h : IA σ) : MtI shA M_Ev_bound [vr 0, vi s, vi w] σ (fun σ' _ => QA σ σ') := by
  refine Mt.of okM_Ev_bound (Nat.le_of_ble_eq_true rfl) (fun hk hg => ?_)
  refine ok_aload_n 0 rfl rfl rfl (ok_iload_n 1 rfl rfl rfl (ok_callVR (M' := M_Ev_evenSlot) (as := [_]) 2 rfl rfl ml_X11_163 (s_Ev_evenSlot) rfl rfl (Nat.le_of_ble_eq_true rfl) ⟨Nat.le_of_ble_eq_true rfl, Nat.le_of_ble_eq_true rfl⟩ rfl (Nat.le_of_ble_eq_true rfl) (fun σ' z hz => ?_)))
  obtain ⟨hs_, hz⟩ := hz
  rw [hs_]; clear hs_ σ'
  rcases hz with ⟨q, q0⟩ | ⟨q1, q2, q, q3⟩
  · subst q
    refine ok_ast3 3 rfl rfl rfl (ok_aload_n 4 rfl rfl rfl (ok_ifnonnullN 5 rfl rfl (ok_iconst 6 rfl rfl (by decide) (ok_iret 7 rfl rfl rfl ?_))))
    exact ⟨_, rfl, QA_rf h⟩
  · subst q
    have ht := sl_tA ⟨q1, q2⟩
    have nA := tA_10 ht
    have hT := (h.2.1 _ ht).1
    have m1 := hT.1
    have m2 := hT.2.1
    refine ok_ast3 3 rfl rfl rfl (ok_aload_n 4 rfl rfl rfl (ok_ifnonnull 5 12 rfl rfl rfl (ok_iload_n 8 rfl rfl rfl (ok_if_ne 9 43 rfl rfl rfl (fun h13 => ?_) (fun h13 => ?_)))))
    · refine ok_iload_n 27 rfl rfl rfl (ok_iconst 28 rfl rfl (by decide) (ok_icmp_ne 29 67 rfl rfl rfl (fun h45 => ?_) (fun h45 => ?_)))
      · refine ok_iconst 39 rfl rfl (by decide) (ok_iret 40 rfl rfl rfl ?_)
        first | exact ⟨_, rfl, QA_rf h⟩ | exact ⟨_, rfl, QA_B h (f.1.mono (fun c k w => by simp only [rgSf] at w; omega)) f.2.1 (f.2.2.mono (by decide))⟩
      · refine ok_aload_n 30 rfl rfl rfl (ok_getI 31 rfl rfl fl_X11_103 (sT ht) rfl (Or.inl rfl) (ok_iconst 32 rfl rfl (by decide) (ok_icmp_gt 33 67 rfl rfl rfl (fun h53 => ?_) (fun h53 => ?_))))
        · refine ok_iconst 39 rfl rfl (by decide) (ok_iret 40 rfl rfl rfl ?_)
          first | exact ⟨_, rfl, QA_rf h⟩ | exact ⟨_, rfl, QA_B h (f.1.mono (fun c k w => by simp only [rgSf] at w; omega)) f.2.1 (f.2.2.mono (by decide))⟩
        · refine ok_aload_n 34 rfl rfl rfl (ok_getR 35 rfl rfl fl_X11_55 rfl rfl (ok_aload_n 36 rfl rfl rfl (ok_callVI (M' := M_Se_countFewest) (as := [_]) 37 rfl rfl ml_X11_205 (s_Se_countFewest ht hT h.2.2.1) rfl rfl (Nat.le_of_ble_eq_true rfl) ⟨Nat.le_of_ble_eq_true rfl, Nat.le_of_ble_eq_true rfl⟩ rfl (Nat.le_of_ble_eq_true rfl) (fun τ z4 f => ?_))))
          refine ok_goto 38 68 rfl rfl rfl (ok_iret 40 rfl rfl rfl ?_)
          first | exact ⟨_, rfl, QA_rf h⟩ | exact ⟨_, rfl, QA_B h (f.1.mono (fun c k w => by simp only [rgSf] at w; omega)) f.2.1 (f.2.2.mono (by decide))⟩
    · refine ok_aload_n 10 rfl rfl rfl (ok_callVI (M' := M_Ta_countAbove0) (as := []) 11 rfl rfl ml_X11_112 (s_Ta_countAbove0 ht hT) (sT ht) rfl (Nat.le_of_ble_eq_true rfl) ⟨Nat.le_of_ble_eq_true rfl, Nat.le_of_ble_eq_true rfl⟩ rfl (Nat.le_of_ble_eq_true rfl) (fun σ' z1 x1 => ?_))
      obtain ⟨hs_, x1⟩ := x1
      rw [hs_]; clear hs_ σ'
      refine ok_iconst 12 rfl rfl (by decide) (ok_aload_n 13 rfl rfl rfl (ok_getI 14 rfl rfl fl_X11_103 (sT ht) rfl (Or.inl rfl) (ok_imul 15 rfl rfl (by first | omega | (simp [up_if]; omega) | (simp [up_if] at *; omega)) (ok_isubW 16 rfl rfl (ok_aload_n 17 rfl rfl rfl (ok_iconst 18 rfl rfl (by decide) (ok_callVL (M' := M_Ta_joinedBy) (as := [_]) 19 rfl rfl ml_X11_119 (s_Ta_joinedBy ht hT) (sT ht) rfl (Nat.le_of_ble_eq_true rfl) ⟨Nat.le_of_ble_eq_true rfl, Nat.le_of_ble_eq_true rfl⟩ rfl (Nat.le_of_ble_eq_true rfl) (fun σ' z2 x2 => ?_))))))))
      obtain ⟨hs_, x2⟩ := x2
      rw [hs_]; clear hs_ σ'
      refine ok_aload_n 20 rfl rfl rfl (ok_getI 21 rfl rfl fl_X11_103 (sT ht) rfl (Or.inl rfl) (ok_callSI (M' := M_Jo_countGroups) (as := [_, _]) 22 rfl rfl ml_X11_123 (s_Jo_countGroups hT.2.1) ⟨Nat.le_of_ble_eq_true rfl, Nat.le_of_ble_eq_true rfl⟩ rfl (Nat.le_of_ble_eq_true rfl) (fun σ' z3 x3 => ?_)))
      obtain ⟨hs_, x3⟩ := x3
      rw [hs_]; clear hs_ σ'
      refine ok_iaddW 23 rfl rfl (ok_iconst 24 rfl rfl (by decide) (ok_iaddW 25 rfl rfl (ok_iret 26 rfl rfl rfl ?_)))
      first | exact ⟨_, rfl, QA_rf h⟩ | exact ⟨_, rfl, QA_B h (f.1.mono (fun c k w => by simp only [rgSf] at w; omega)) f.2.1 (f.2.2.mono (by decide))⟩
end
section
/-! rounding -/
abbrev rgRo : Nat → Int → Prop := fun c _ => 41 ≤ c ∧ c ≤ 45
abbrev rgRd (t : Nat) : Nat → Int → Prop := fun c k => (41 ≤ c ∧ c ≤ 45) ∨ (c = t ∧ (k = 4 ∨ k = 5))
end
section
/-! THE TEXT OF A TABLE, read by one function of its bytes: fault, place, rows, width, and the fractions in least terms -/
def blA (B : Int → Int) (L i : Int) : Prop := i < L ∧ (B i = 32 ∨ B i = 10)
def dgA (B : Int → Int) (L i : Int) : Prop := i < L ∧ 48 ≤ B i ∧ B i ≤ 57
def skn (B : Int → Int) (L : Int) : Nat → Int → Int
  | 0, p => p
  | n + 1, p => if p < L ∧ (B p = 32 ∨ B p = 10) then skn B L n (p + 1) else p
def sk (B : Int → Int) (L p : Int) : Int := skn B L (L - p).toNat p
def den (B : Int → Int) (L : Int) : Nat → Int → Int
  | 0, p => p
  | n + 1, p => if p < L ∧ 48 ≤ B p ∧ B p ≤ 57 then den B L n (p + 1) else p
def de (B : Int → Int) (L p : Int) : Int := den B L (L - p).toNat p
def vaN (B : Int → Int) (p : Int) : Nat → Int
  | 0 => 0
  | n + 1 => 10 * vaN B p n + (B (p + n) - 48)
def vaD (B : Int → Int) (p q : Int) : Int := vaN B p (q - p).toNat
theorem skn_sp (B : Int → Int) (L : Int) : ∀ (n : Nat) (p : Int), (L - p).toNat ≤ n → p ≤ skn B L n p ∧ (p ≤ L → skn B L n p ≤ L) ∧ (∀ i, p ≤ i → i < skn B L n p → blA B L i) ∧ ¬ blA B L (skn B L n p)
  | 0, p, h => ⟨Int.le_refl _, fun q => q, fun i a b => by simp only [skn] at b; omega, fun q => by have := q.1; simp only [skn] at this; omega⟩
  | n + 1, p, h => by
    by_cases c : p < L ∧ (B p = 32 ∨ B p = 10)
    · have e : skn B L (n + 1) p = skn B L n (p + 1) := by rw [skn, if_pos c]
      obtain ⟨h1, h2, h3, h4⟩ := skn_sp B L n (p + 1) (by omega)
      rw [e]
      refine ⟨by omega, fun q => h2 (by omega), fun i a b => ?_, h4⟩
      rcases (by omega : i = p ∨ p + 1 ≤ i) with q | q
      · rw [q]; exact c
      · exact h3 i q b
    · have e : skn B L (n + 1) p = p := by rw [skn, if_neg c]
      rw [e]
      exact ⟨Int.le_refl _, fun q => q, fun i a b => by omega, c⟩
theorem den_sp (B : Int → Int) (L : Int) : ∀ (n : Nat) (p : Int), (L - p).toNat ≤ n → p ≤ den B L n p ∧ (p ≤ L → den B L n p ≤ L) ∧ (∀ i, p ≤ i → i < den B L n p → dgA B L i) ∧ ¬ dgA B L (den B L n p)
  | 0, p, h => ⟨Int.le_refl _, fun q => q, fun i a b => by simp only [den] at b; omega, fun q => by have := q.1; simp only [den] at this; omega⟩
  | n + 1, p, h => by
    by_cases c : p < L ∧ 48 ≤ B p ∧ B p ≤ 57
    · have e : den B L (n + 1) p = den B L n (p + 1) := by rw [den, if_pos c]
      obtain ⟨h1, h2, h3, h4⟩ := den_sp B L n (p + 1) (by omega)
      rw [e]
      refine ⟨by omega, fun q => h2 (by omega), fun i a b => ?_, h4⟩
      rcases (by omega : i = p ∨ p + 1 ≤ i) with q | q
      · rw [q]; exact c
      · exact h3 i q b
    · have e : den B L (n + 1) p = p := by rw [den, if_neg c]
      rw [e]
      exact ⟨Int.le_refl _, fun q => q, fun i a b => by omega, c⟩
theorem sk_sp (B : Int → Int) (L p : Int) : p ≤ sk B L p ∧ (p ≤ L → sk B L p ≤ L) ∧ (∀ i, p ≤ i → i < sk B L p → blA B L i) ∧ ¬ blA B L (sk B L p) := skn_sp B L _ p (Nat.le_refl _)
theorem de_sp (B : Int → Int) (L p : Int) : p ≤ de B L p ∧ (p ≤ L → de B L p ≤ L) ∧ (∀ i, p ≤ i → i < de B L p → dgA B L i) ∧ ¬ dgA B L (de B L p) := den_sp B L _ p (Nat.le_refl _)
/-- it is the only such place -/
theorem sk_un {B : Int → Int} {L p q : Int} (h1 : p ≤ q) (h2 : ∀ i, p ≤ i → i < q → blA B L i) (h3 : ¬ blA B L q) : sk B L p = q := by
  obtain ⟨a, _, c, d⟩ := sk_sp B L p
  rcases (by omega : sk B L p < q ∨ sk B L p = q ∨ q < sk B L p) with w | w | w
  · exact absurd (h2 _ a w) d
  · exact w
  · exact absurd (c q h1 w) h3
theorem de_un {B : Int → Int} {L p q : Int} (h1 : p ≤ q) (h2 : ∀ i, p ≤ i → i < q → dgA B L i) (h3 : ¬ dgA B L q) : de B L p = q := by
  obtain ⟨a, _, c, d⟩ := de_sp B L p
  rcases (by omega : de B L p < q ∨ de B L p = q ∨ q < de B L p) with w | w | w
  · exact absurd (h2 _ a w) d
  · exact w
  · exact absurd (c q h1 w) h3
theorem sk_mid {B : Int → Int} {L p r : Int} (h1 : p ≤ r) (h2 : ∀ i, p ≤ i → i < r → blA B L i) : sk B L p = sk B L r := by
  obtain ⟨a, _, c, d⟩ := sk_sp B L r
  refine sk_un (by omega) (fun i x y => ?_) d
  rcases (by omega : i < r ∨ r ≤ i) with w | w
  · exact h2 i x w
  · exact c i w y
theorem sk_id {B : Int → Int} {L p : Int} : sk B L (sk B L p) = sk B L p := (sk_mid (sk_sp B L p).1 (sk_sp B L p).2.2.1).symm
/-- fault, place, rows, width, above, under -/
abbrev oA : Type := Int × Int × Int × Int × (Int → Int) × (Int → Int)
def uf (f : Int → Int) (k v : Int) : Int → Int := fun j => if j = k then v else f j
def prB (B : Int → Int) (L : Int) (rec : Int → Int → Int → Int → (Int → Int) → (Int → Int) → oA) (p r k w : Int) (ab un : Int → Int) : oA :=
  if ¬ sk B L p < L then (if 0 < k then (1, L, r, w, ab, un) else if r ≠ w then (5, L, r, w, ab, un) else (0, -1, r, w, ab, un))
  else if B (sk B L p) = 59 then (if r = 8 then (3, sk B L p, r, w, ab, un) else if 0 < r ∧ k ≠ w then (4, sk B L p, r, w, ab, un) else rec (sk B L p + 1) (r + 1) 0 (if r = 0 then k else w) ab un)
  else if ¬ (48 ≤ B (sk B L p) ∧ B (sk B L p) ≤ 57) then (1, sk B L p, r, w, ab, un)
  else if 6 < de B L (sk B L p) - sk B L p then (1, sk B L p, r, w, ab, un)
  else if r = 8 ∨ k = 8 then (3, sk B L p, r, w, ab, un)
  else if 0 < r ∧ k = w then (4, sk B L p, r, w, ab, un)
  else if sk B L (de B L (sk B L p)) < L ∧ B (sk B L (de B L (sk B L p))) = 47 then
    (if ¬ (sk B L (sk B L (de B L (sk B L p)) + 1) < L ∧ 48 ≤ B (sk B L (sk B L (de B L (sk B L p)) + 1)) ∧ B (sk B L (sk B L (de B L (sk B L p)) + 1)) ≤ 57) ∨ 6 < de B L (sk B L (sk B L (de B L (sk B L p)) + 1)) - sk B L (sk B L (de B L (sk B L p)) + 1) then (1, sk B L (sk B L (de B L (sk B L p)) + 1), r, w, ab, un)
    else if vaD B (sk B L (sk B L (de B L (sk B L p)) + 1)) (de B L (sk B L (sk B L (de B L (sk B L p)) + 1))) = 0 then (2, sk B L (sk B L (de B L (sk B L p)) + 1), r, w, ab, un)
    else rec (de B L (sk B L (sk B L (de B L (sk B L p)) + 1))) r (k + 1) w (uf ab (r * 8 + k) (vaD B (sk B L p) (de B L (sk B L p)) / (Int.gcd (vaD B (sk B L (sk B L (de B L (sk B L p)) + 1)) (de B L (sk B L (sk B L (de B L (sk B L p)) + 1)))) (vaD B (sk B L p) (de B L (sk B L p))) : Int))) (uf un (r * 8 + k) (vaD B (sk B L (sk B L (de B L (sk B L p)) + 1)) (de B L (sk B L (sk B L (de B L (sk B L p)) + 1))) / (Int.gcd (vaD B (sk B L (sk B L (de B L (sk B L p)) + 1)) (de B L (sk B L (sk B L (de B L (sk B L p)) + 1)))) (vaD B (sk B L p) (de B L (sk B L p))) : Int))))
  else rec (sk B L (de B L (sk B L p))) r (k + 1) w (uf ab (r * 8 + k) (vaD B (sk B L p) (de B L (sk B L p)) / (Int.gcd 1 (vaD B (sk B L p) (de B L (sk B L p))) : Int))) (uf un (r * 8 + k) (1 / (Int.gcd 1 (vaD B (sk B L p) (de B L (sk B L p))) : Int)))
def prs (B : Int → Int) (L : Int) : Nat → Int → Int → Int → Int → (Int → Int) → (Int → Int) → oA
  | 0 => fun _ r _ w ab un => (0, -1, r, w, ab, un)
  | n + 1 => prB B L (prs B L n)
def PR (B : Int → Int) (L p r k w : Int) (ab un : Int → Int) : oA := prs B L ((L - p).toNat + 1) p r k w ab un
theorem de_gt {B : Int → Int} {L q : Int} (h : dgA B L q) : q < de B L q := by
  have := (de_sp B L q).1
  have := (de_sp B L q).2.2.2
  rcases (by omega : q < de B L q ∨ de B L q = q) with w | w
  · exact w
  · rw [w] at this; exact absurd h this
theorem prB_cg {B : Int → Int} {L p r k w : Int} {ab un : Int → Int} {f g : Int → Int → Int → Int → (Int → Int) → (Int → Int) → oA} (h : ∀ p' r' k' w' ab' un', p < p' → p < L → f p' r' k' w' ab' un' = g p' r' k' w' ab' un') : prB B L f p r k w ab un = prB B L g p r k w ab un := by
  have s1 := (sk_sp B L p).1
  unfold prB
  by_cases c1 : sk B L p < L
  · have pl : p < L := by omega
    rw [if_neg (not_not_intro c1), if_neg (not_not_intro c1)]
    by_cases c2 : B (sk B L p) = 59
    · rw [if_pos c2, if_pos c2]
      by_cases c3 : r = 8
      · rw [if_pos c3, if_pos c3]
      · rw [if_neg c3, if_neg c3]
        by_cases c4 : 0 < r ∧ k ≠ w
        · rw [if_pos c4, if_pos c4]
        · rw [if_neg c4, if_neg c4]
          exact h _ _ _ _ _ _ (by omega) pl
    · rw [if_neg c2, if_neg c2]
      by_cases c3 : 48 ≤ B (sk B L p) ∧ B (sk B L p) ≤ 57
      · rw [if_neg (not_not_intro c3), if_neg (not_not_intro c3)]
        have d1 := de_gt (B := B) (L := L) (q := sk B L p) ⟨c1, c3⟩
        have d2 := (sk_sp B L (de B L (sk B L p))).1
        by_cases c4 : 6 < de B L (sk B L p) - sk B L p
        · rw [if_pos c4, if_pos c4]
        · rw [if_neg c4, if_neg c4]
          by_cases c5 : r = 8 ∨ k = 8
          · rw [if_pos c5, if_pos c5]
          · rw [if_neg c5, if_neg c5]
            by_cases c6 : 0 < r ∧ k = w
            · rw [if_pos c6, if_pos c6]
            · rw [if_neg c6, if_neg c6]
              by_cases c7 : sk B L (de B L (sk B L p)) < L ∧ B (sk B L (de B L (sk B L p))) = 47
              · rw [if_pos c7, if_pos c7]
                have d3 := (sk_sp B L (sk B L (de B L (sk B L p)) + 1)).1
                have d4 := (de_sp B L (sk B L (sk B L (de B L (sk B L p)) + 1))).1
                split
                · rfl
                · split
                  · rfl
                  · exact h _ _ _ _ _ _ (by omega) pl
              · rw [if_neg c7, if_neg c7]
                exact h _ _ _ _ _ _ (by omega) pl
      · rw [if_pos c3, if_pos c3]
  · rw [if_pos c1, if_pos c1]
theorem prs_fu (B : Int → Int) (L : Int) : ∀ (n m : Nat) (p r k w : Int) (ab un : Int → Int), (L - p).toNat < n → (L - p).toNat < m → prs B L n p r k w ab un = prs B L m p r k w ab un
  | 0, m, p, r, k, w, ab, un, h1, h2 => by omega
  | n + 1, 0, p, r, k, w, ab, un, h1, h2 => by omega
  | n + 1, m + 1, p, r, k, w, ab, un, h1, h2 => prB_cg (fun p' r' k' w' ab' un' a b => prs_fu B L n m p' r' k' w' ab' un' (by omega) (by omega))
/-- one step of the reading -/
theorem PR_eq (B : Int → Int) (L p r k w : Int) (ab un : Int → Int) : PR B L p r k w ab un = prB B L (PR B L) p r k w ab un :=
  prB_cg (fun p' r' k' w' ab' un' a b => prs_fu B L _ _ p' r' k' w' ab' un' (by omega) (by omega))
/-- blanks ahead count for nothing -/
theorem PR_sk {B : Int → Int} {L p p' r k w : Int} {ab un : Int → Int} (h : sk B L p = sk B L p') : PR B L p r k w ab un = PR B L p' r k w ab un := by
  rw [PR_eq, PR_eq B L p']
  unfold prB
  rw [h]
section PRL
variable {B : Int → Int} {L p q r k w : Int} {ab un : Int → Int}
theorem PR_end (hq : sk B L p = q) (h : ¬ q < L) : PR B L p r k w ab un = (if 0 < k then (1, L, r, w, ab, un) else if r ≠ w then (5, L, r, w, ab, un) else (0, -1, r, w, ab, un)) := by
  rw [PR_eq B L p r k w ab un]
  unfold prB
  rw [hq, if_pos h]
theorem PR_59 (hq : sk B L p = q) (h : q < L) (hb : B q = 59) : PR B L p r k w ab un = (if r = 8 then (3, q, r, w, ab, un) else if 0 < r ∧ k ≠ w then (4, q, r, w, ab, un) else PR B L (q + 1) (r + 1) 0 (if r = 0 then k else w) ab un) := by
  rw [PR_eq B L p r k w ab un]
  unfold prB
  rw [hq, if_neg (not_not_intro h), if_pos hb]
theorem PR_bad (hq : sk B L p = q) (h : q < L) (hb : B q ≠ 59) (hd : ¬ (48 ≤ B q ∧ B q ≤ 57)) : PR B L p r k w ab un = (1, q, r, w, ab, un) := by
  rw [PR_eq B L p r k w ab un]
  unfold prB
  rw [hq, if_neg (not_not_intro h), if_neg hb, if_pos hd]
theorem PR_dig {e : Int} (hq : sk B L p = q) (h : q < L) (hd : 48 ≤ B q ∧ B q ≤ 57) (he : de B L q = e) : PR B L p r k w ab un = (if 6 < e - q then (1, q, r, w, ab, un) else if r = 8 ∨ k = 8 then (3, q, r, w, ab, un) else if 0 < r ∧ k = w then (4, q, r, w, ab, un) else
    if sk B L e < L ∧ B (sk B L e) = 47 then
    (if ¬ (sk B L (sk B L e + 1) < L ∧ 48 ≤ B (sk B L (sk B L e + 1)) ∧ B (sk B L (sk B L e + 1)) ≤ 57) ∨ 6 < de B L (sk B L (sk B L e + 1)) - sk B L (sk B L e + 1) then (1, sk B L (sk B L e + 1), r, w, ab, un)
    else if vaD B (sk B L (sk B L e + 1)) (de B L (sk B L (sk B L e + 1))) = 0 then (2, sk B L (sk B L e + 1), r, w, ab, un)
    else PR B L (de B L (sk B L (sk B L e + 1))) r (k + 1) w (uf ab (r * 8 + k) (vaD B q e / (Int.gcd (vaD B (sk B L (sk B L e + 1)) (de B L (sk B L (sk B L e + 1)))) (vaD B q e) : Int))) (uf un (r * 8 + k) (vaD B (sk B L (sk B L e + 1)) (de B L (sk B L (sk B L e + 1))) / (Int.gcd (vaD B (sk B L (sk B L e + 1)) (de B L (sk B L (sk B L e + 1)))) (vaD B q e) : Int))))
    else PR B L (sk B L e) r (k + 1) w (uf ab (r * 8 + k) (vaD B q e / (Int.gcd 1 (vaD B q e) : Int))) (uf un (r * 8 + k) (1 / (Int.gcd 1 (vaD B q e) : Int)))) := by
  rw [PR_eq B L p r k w ab un]
  unfold prB
  rw [hq, if_neg (not_not_intro h), if_neg (by omega : ¬ B q = 59), if_neg (not_not_intro hd), he]
end PRL
theorem vaN_bd {B : Int → Int} {p : Int} : ∀ {n : Nat}, (∀ i, p ≤ i → i < p + n → 48 ≤ B i ∧ B i ≤ 57) → n ≤ 6 → 0 ≤ vaN B p n ∧ vaN B p n ≤ p10 n
  | 0, _, _ => by simp [vaN, p10]
  | n + 1, h, hn => by
    have h1 := vaN_bd (n := n) (fun i a b => h i a (by omega)) (by omega)
    have h2 := h (p + n) (by omega) (by omega)
    have h3 := p10_s (d := (n : Int)) (x := vaN B p n) (c := B (p + n) - 48) (by omega) (by omega) h1.2 (by omega)
    rw [vaN]
    refine ⟨by omega, ?_⟩
    rw [show ((n + 1 : Nat) : Int) = (n : Int) + 1 by omega]
    omega
theorem vaD_bd {B : Int → Int} {L p : Int} (h : de B L p - p ≤ 6) : 0 ≤ vaD B p (de B L p) ∧ vaD B p (de B L p) ≤ 999999 := by
  obtain ⟨h1, _, h3, _⟩ := de_sp B L p
  have := vaN_bd (B := B) (p := p) (n := (de B L p - p).toNat) (fun i a b => (h3 i a (by omega)).2) (by omega)
  have := p10_le ((de B L p - p).toNat : Int)
  unfold vaD
  omega
theorem vaN_s {B : Int → Int} {p i : Int} (h : 0 ≤ i) : vaN B p (i + 1).toNat = 10 * vaN B p i.toNat + (B (p + i) - 48) := by
  rw [show (i + 1).toNat = i.toNat + 1 by omega, vaN, show ((i.toNat : Nat) : Int) = i by omega]
end
section
theorem fr1 {σ τ : eS} {c0 : Nat} {k0 : Int} (f : fr (fun c k => c = c0 ∧ k = k0) σ τ) : τ = up σ c0 k0 (τ c0 k0) := by
  funext c k
  rw [up_if]
  split
  · next h => rw [h.1, h.2]
  · next h => exact f c k h
theorem t_Tp_skipBlanks {σ : eS} (h : tP σ) : MtV shA M_Tp_skipBlanks [vr 10] σ (fun σ' => σ' = up σ 10 6 (sk (σ 11) (σ 10 3) (σ 10 6))) := by
  refine Mt.of okM_Tp_skipBlanks (Nat.le_of_ble_eq_true rfl) (fun hk hg => ?_)
  obtain ⟨h1, h2, h3, h4⟩ := h
  refine ok_iconst 0 rfl rfl (by decide) (ok_ist1 1 rfl rfl rfl ?_)
  refine lpO2 (fun (i : Int) (_ : eS) => [some (vr 10), some (vi i)]) (fun _ ρ => ρ) (fun i ρ => 0 ≤ i ∧ i ≤ 600 ∧ fr (fun c k => c = 10 ∧ k = 6) σ ρ ∧ ρ 10 6 = σ 10 6 + i ∧ ρ 10 6 ≤ σ 10 3 ∧ ∀ j, σ 10 6 ≤ j → j < ρ 10 6 → blA (σ 11) (σ 10 3) j) (fun i _ => (600 - i).toNat) ?_ 0 σ ⟨by omega, by omega, fr.rf, by omega, by omega, fun j a b => by omega⟩
  rintro i ρ ⟨i1, i2, f, a1, a2, a3⟩ ih
  have e3 : ρ 10 3 = σ 10 3 := f 10 3 (by omega)
  have e11 : ∀ k, ρ 11 k = σ 11 k := fun k => f 11 k (by omega)
  have fin : ¬ blA (σ 11) (σ 10 3) (ρ 10 6) → ρ = up σ 10 6 (sk (σ 11) (σ 10 3) (σ 10 6)) := fun hb => by
    rw [fr1 f, sk_un (q := ρ 10 6) (by omega) a3 hb]
  refine ok_iload_n 2 rfl rfl rfl (ok_sipush 3 rfl rfl (by decide) (by decide) (ok_icmp_ge 4 36 rfl rfl rfl (fun h6 => ?_) (fun h6 => ?_)))
  · refine ok_vret 18 rfl rfl rfl ?_
    exact ⟨rfl, fin (fun hb => by have := hb.1; omega)⟩
  · refine ok_aload_n 5 rfl rfl rfl (ok_aload_n 6 rfl rfl rfl (ok_getI 7 rfl rfl fl_X10_31 rfl rfl (Or.inl rfl) (ok_callVI (M' := M_Tp_isBlank) (as := [_]) 8 rfl rfl ml_X10_58 (s_Tp_isBlank ⟨by omega, by omega⟩ (by omega)) rfl rfl (Nat.le_of_ble_eq_true rfl) ⟨Nat.le_of_ble_eq_true rfl, Nat.le_of_ble_eq_true rfl⟩ rfl (Nat.le_of_ble_eq_true rfl) (fun σ' z hz => ?_))))
    obtain ⟨hs_, hz⟩ := hz
    rw [hs_]; clear hs_ σ'
    refine ok_if_eq 9 36 rfl rfl rfl (fun h17 => ?_) (fun h17 => ?_)
    · refine ok_vret 18 rfl rfl rfl ?_
      refine ⟨rfl, fin (fun hb => ?_)⟩
      have := e11 (ρ 10 6)
      unfold blA at hb
      omega
    · refine ok_aload_n 10 rfl rfl rfl (ok_dup 11 rfl rfl rfl (ok_getI 12 rfl rfl fl_X10_31 rfl rfl (Or.inl rfl) (ok_iconst 13 rfl rfl (by decide) (ok_iadd 14 rfl rfl (by first | omega | (simp [up_if]; omega) | (simp [up_if] at *; omega)) (ok_putI 15 rfl rfl fl_X10_31 rfl rfl rfl rfl (ok_inc1 16 rfl rfl rfl (by first | omega | (simp [up_if]; omega) | (simp [up_if] at *; omega)) (ok_goto 17 2 rfl rfl rfl ?_)))))))
      refine ih (i + 1) _ ⟨by omega, by omega, fr_up f ⟨rfl, rfl⟩, by rw [up_same]; omega, by rw [up_same]; omega, fun j a b => ?_⟩ (by omega)
      rw [up_same] at b
      rcases (by omega : j < ρ 10 6 ∨ j = ρ 10 6) with q | q
      · exact a3 j a q
      · rw [q]
        have := e11 (ρ 10 6)
        unfold blA
        omega
theorem t_Tp_countDigits {σ : eS} (h : tP σ) : MtI shA M_Tp_countDigits [vr 10] σ (fun σ' z => σ' = σ ∧ z = de (σ 11) (σ 10 3) (σ 10 6) - σ 10 6) := by
  refine Mt.of okM_Tp_countDigits (Nat.le_of_ble_eq_true rfl) (fun hk hg => ?_)
  obtain ⟨h1, h2, h3, h4⟩ := h
  refine ok_iconst 0 rfl rfl (by decide) (ok_ist1 1 rfl rfl rfl (ok_aload_n 2 rfl rfl rfl (ok_getI 3 rfl rfl fl_X10_31 rfl rfl (Or.inl rfl) (ok_ist2 4 rfl rfl rfl ?_))))
  refine lpO2 (fun (n k : Int) => [some (vr 10), some (vi n), some (vi k)]) (fun _ _ => σ) (fun n k => σ 10 6 ≤ k ∧ k ≤ σ 10 3 ∧ n = k - σ 10 6 ∧ ∀ j, σ 10 6 ≤ j → j < k → dgA (σ 11) (σ 10 3) j) (fun _ k => (600 - k).toNat) ?_ 0 (σ 10 6) ⟨by omega, by omega, by omega, fun j a b => by omega⟩
  rintro n k ⟨k1, k2, en, a3⟩ ih
  have fin : ¬ dgA (σ 11) (σ 10 3) k → n = de (σ 11) (σ 10 3) (σ 10 6) - σ 10 6 := fun hb => by rw [de_un (q := k) k1 a3 hb]; exact en
  refine ok_iload_n 5 rfl rfl rfl (ok_aload_n 6 rfl rfl rfl (ok_getI 7 rfl rfl fl_X10_21 rfl rfl (Or.inl rfl) (ok_icmp_ge 8 32 rfl rfl rfl (fun h12 => ?_) (fun h12 => ?_))))
  · refine ok_iload_n 16 rfl rfl rfl (ok_iret 17 rfl rfl rfl ?_)
    exact ⟨_, rfl, rfl, fin (fun hb => by unfold dgA at hb; omega)⟩
  · refine ok_aload_n 9 rfl rfl rfl (ok_iload_n 10 rfl rfl rfl (ok_callVI (M' := M_Tp_isDigit) (as := [_]) 11 rfl rfl ml_X10_69 (s_Tp_isDigit ⟨by omega, by omega⟩ (by omega)) rfl rfl (Nat.le_of_ble_eq_true rfl) ⟨Nat.le_of_ble_eq_true rfl, Nat.le_of_ble_eq_true rfl⟩ rfl (Nat.le_of_ble_eq_true rfl) (fun σ' z hz => ?_)))
    obtain ⟨hs_, hz⟩ := hz
    rw [hs_]; clear hs_ σ'
    refine ok_if_eq 12 32 rfl rfl rfl (fun h20 => ?_) (fun h20 => ?_)
    · refine ok_iload_n 16 rfl rfl rfl (ok_iret 17 rfl rfl rfl ?_)
      exact ⟨_, rfl, rfl, fin (fun hb => by unfold dgA at hb; omega)⟩
    · refine ok_inc1 13 rfl rfl rfl (by first | omega | (simp [up_if]; omega) | (simp [up_if] at *; omega)) (ok_inc2 14 rfl rfl rfl (by first | omega | (simp [up_if]; omega) | (simp [up_if] at *; omega)) (ok_goto 15 7 rfl rfl rfl ?_))
      refine ih _ (k + 1) ⟨by omega, by omega, by omega, fun j a b => ?_⟩ (by omega)
      rcases (by omega : j < k ∨ j = k) with q | q
      · exact a3 j a q
      · rw [q]; unfold dgA; omega
theorem t_Tp_readNumber {σ : eS} (h : tP σ) (h6 : de (σ 11) (σ 10 3) (σ 10 6) - σ 10 6 ≤ 6) : MtI shA M_Tp_readNumber [vr 10] σ (fun σ' z => σ' = up σ 10 6 (de (σ 11) (σ 10 3) (σ 10 6)) ∧ z = vaD (σ 11) (σ 10 6) (de (σ 11) (σ 10 3) (σ 10 6))) := by
  refine Mt.of okM_Tp_readNumber (Nat.le_of_ble_eq_true rfl) (fun hk hg => ?_)
  obtain ⟨h1, h2, h3, h4⟩ := h
  obtain ⟨d1, d2, d3, d4⟩ := de_sp (σ 11) (σ 10 3) (σ 10 6)
  refine ok_iconst 0 rfl rfl (by decide) (ok_ist1 1 rfl rfl rfl (ok_iconst 2 rfl rfl (by decide) (ok_ist2 3 rfl rfl rfl ?_)))
  refine lpO3 (fun (v i : Int) (_ : eS) => [some (vr 10), some (vi v), some (vi i)]) (fun _ _ ρ => ρ) (fun v i ρ => 0 ≤ i ∧ i ≤ 6 ∧ fr (fun c k => c = 10 ∧ k = 6) σ ρ ∧ ρ 10 6 = σ 10 6 + i ∧ ρ 10 6 ≤ σ 10 3 ∧ v = vaN (σ 11) (σ 10 6) i.toNat ∧ ∀ j, σ 10 6 ≤ j → j < ρ 10 6 → dgA (σ 11) (σ 10 3) j) (fun _ i _ => (6 - i).toNat) ?_ 0 0 σ ⟨by omega, by omega, fr.rf, by omega, by omega, rfl, fun j a b => by omega⟩
  rintro v i ρ ⟨i1, i2, f, a1, a2, ev, a3⟩ ih
  have e3 : ρ 10 3 = σ 10 3 := f 10 3 (by omega)
  have e11 : ∀ k, ρ 11 k = σ 11 k := fun k => f 11 k (by omega)
  have vb := vaN_bd (B := σ 11) (p := σ 10 6) (n := i.toNat) (fun j a b => (a3 j a (by omega)).2) (by omega)
  rw [← ev, show ((i.toNat : Nat) : Int) = i by omega] at vb
  have pl := p10_le i
  have fin : ρ 10 6 = de (σ 11) (σ 10 3) (σ 10 6) → ρ = up σ 10 6 (de (σ 11) (σ 10 3) (σ 10 6)) ∧ v = vaD (σ 11) (σ 10 6) (de (σ 11) (σ 10 3) (σ 10 6)) := fun hb => by
    refine ⟨by rw [fr1 f, hb], ?_⟩
    unfold vaD
    rw [ev, ← hb, a1, show σ 10 6 + i - σ 10 6 = i by omega]
  refine ok_iload_n 4 rfl rfl rfl (ok_bipush 5 rfl rfl (by decide) (by decide) (ok_icmp_ge 6 55 rfl rfl rfl (fun h7 => ?_) (fun h7 => ?_)))
  · refine ok_iload_n 32 rfl rfl rfl (ok_iret 33 rfl rfl rfl ?_)
    refine ⟨_, rfl, fin ?_⟩
    rcases (by omega : de (σ 11) (σ 10 3) (σ 10 6) < ρ 10 6 ∨ de (σ 11) (σ 10 3) (σ 10 6) = ρ 10 6) with q | q
    · exact absurd (a3 _ d1 q) d4
    · exact q.symm
  · refine ok_aload_n 7 rfl rfl rfl (ok_aload_n 8 rfl rfl rfl (ok_getI 9 rfl rfl fl_X10_31 rfl rfl (Or.inl rfl) (ok_callVI (M' := M_Tp_isDigit) (as := [_]) 10 rfl rfl ml_X10_69 (s_Tp_isDigit ⟨by omega, by omega⟩ (by omega)) rfl rfl (Nat.le_of_ble_eq_true rfl) ⟨Nat.le_of_ble_eq_true rfl, Nat.le_of_ble_eq_true rfl⟩ rfl (Nat.le_of_ble_eq_true rfl) (fun σ' z hz => ?_))))
    obtain ⟨hs_, hz⟩ := hz
    rw [hs_]; clear hs_ σ'
    refine ok_if_eq 11 55 rfl rfl rfl (fun h18 => ?_) (fun h18 => ?_)
    · refine ok_iload_n 32 rfl rfl rfl (ok_iret 33 rfl rfl rfl ?_)
      refine ⟨_, rfl, fin (de_un (by omega) a3 (fun hb => ?_)).symm⟩
      have := e11 (ρ 10 6)
      unfold dgA at hb
      omega
    · have ps := p10_s (d := i) (x := v) (c := ρ 11 (ρ 10 6) - 48) i1 (by omega) vb.2 (by omega)
      have e16 := e11 (ρ 10 6)
      have pm := p10_le (i + 1)
      refine ok_iload_n 12 rfl rfl rfl (ok_bipush 13 rfl rfl (by decide) (by decide) (ok_imul 14 rfl rfl (by first | omega | (simp [up_if]; omega) | (simp [up_if] at *; omega)) (ok_aload_n 15 rfl rfl rfl (ok_getR 16 rfl rfl fl_X10_11 rfl rfl (ok_aload_n 17 rfl rfl rfl (ok_getI 18 rfl rfl fl_X10_31 rfl rfl (Or.inl rfl) (ok_iald 19 rfl rfl rfl (by first | omega | (simp [up_if]; omega) | (simp [up_if] at *; omega)) (ok_iadd 20 rfl rfl (by first | omega | (simp [up_if]; omega) | (simp [up_if] at *; omega)) (ok_bipush 21 rfl rfl (by decide) (by decide) (ok_isub 22 rfl rfl (by first | omega | (simp [up_if]; omega) | (simp [up_if] at *; omega)) (ok_ist1 23 rfl rfl rfl (ok_aload_n 24 rfl rfl rfl (ok_dup 25 rfl rfl rfl (ok_getI 26 rfl rfl fl_X10_31 rfl rfl (Or.inl rfl) (ok_iconst 27 rfl rfl (by decide) (ok_iadd 28 rfl rfl (by first | omega | (simp [up_if]; omega) | (simp [up_if] at *; omega)) (ok_putI 29 rfl rfl fl_X10_31 rfl rfl rfl rfl (ok_inc2 30 rfl rfl rfl (by first | omega | (simp [up_if]; omega) | (simp [up_if] at *; omega)) (ok_goto 31 4 rfl rfl rfl ?_)))))))))))))))))))
      refine ih _ (i + 1) _ ⟨by omega, by omega, fr_up f ⟨rfl, rfl⟩, by rw [up_same]; omega, by rw [up_same]; omega, ?_, fun j a b => ?_⟩ (by omega)
      · rw [vaN_s i1, ← ev, ← a1, ← e16]; omega
      · rw [up_same] at b
        rcases (by omega : j < ρ 10 6 ∨ j = ρ 10 6) with q | q
        · exact a3 j a q
        · rw [q]; unfold dgA; omega
end
section
/-- what stands behind a number: 0 no stroke, 1 a fault (which, where), 2 a divisor -/
def dv0 (σ : eS) : Prop := ¬ (sk (σ 11) (σ 10 3) (σ 10 6) < σ 10 3 ∧ σ 11 (sk (σ 11) (σ 10 3) (σ 10 6)) = 47)
abbrev dvq (σ : eS) : Int := sk (σ 11) (σ 10 3) (sk (σ 11) (σ 10 3) (σ 10 6) + 1)
abbrev dve (σ : eS) : Int := de (σ 11) (σ 10 3) (dvq σ)
def dvB (σ : eS) : Prop := ¬ (dvq σ < σ 10 3 ∧ 48 ≤ σ 11 (dvq σ) ∧ σ 11 (dvq σ) ≤ 57) ∨ 6 < dve σ - dvq σ
def QV (σ σ' : eS) (z : Int) : Prop := (dv0 σ ∧ z = 1 ∧ σ' = up σ 10 6 (sk (σ 11) (σ 10 3) (σ 10 6))) ∨ (¬ dv0 σ ∧ dvB σ ∧ z = 1 ∧ σ' 10 4 = 1 ∧ σ' 10 5 = dvq σ) ∨ (¬ dv0 σ ∧ ¬ dvB σ ∧ vaD (σ 11) (dvq σ) (dve σ) = 0 ∧ z = 1 ∧ σ' 10 4 = 2 ∧ σ' 10 5 = dvq σ) ∨ (¬ dv0 σ ∧ ¬ dvB σ ∧ vaD (σ 11) (dvq σ) (dve σ) ≠ 0 ∧ z = vaD (σ 11) (dvq σ) (dve σ) ∧ σ' = up σ 10 6 (dve σ))
theorem up2 (σ : eS) (c : Nat) (k v z : Int) : up (up σ c k v) c k z = up σ c k z := by
  funext x y
  rw [up_if, up_if, up_if]
  split <;> rfl
theorem t_Tp_readDivisor {σ : eS} (h : tP σ) : MtI shA M_Tp_readDivisor [vr 10] σ (fun σ' z => QD σ σ' ∧ 1 ≤ z ∧ z ≤ 999999 ∧ QV σ σ' z) := by
  refine Mt.of okM_Tp_readDivisor (Nat.le_of_ble_eq_true rfl) (fun hk hg => ?_)
  obtain ⟨h1, h2, h3, h4⟩ := id h
  obtain ⟨s1, s2, s3, s4⟩ := sk_sp (σ 11) (σ 10 3) (σ 10 6)
  have s2 := s2 h4
  obtain ⟨a, ea⟩ : ∃ a, a = sk (σ 11) (σ 10 3) (σ 10 6) := ⟨_, rfl⟩
  have q1 : QD σ (up σ 10 6 a) := ⟨fr_up fr.rf (by simp [rgD]), by rw [up_same]; omega, by rw [up_same]; omega⟩
  have p1 := QD_P h q1
  refine ok_aload_n 0 rfl rfl rfl (ok_callVV (M' := M_Tp_skipBlanks) (as := []) 1 rfl rfl ml_X10_92 (t_Tp_skipBlanks h) rfl rfl (Nat.le_of_ble_eq_true rfl) ⟨Nat.le_of_ble_eq_true rfl, Nat.le_of_ble_eq_true rfl⟩ rfl (Nat.le_of_ble_eq_true rfl) (fun σ' hz => ?_))
  rw [hz]
  clear hz σ'
  rw [← ea]
  refine ok_aload_n 2 rfl rfl rfl (ok_aload_n 3 rfl rfl rfl (ok_getI 4 rfl rfl fl_X10_31 rfl rfl (Or.inl rfl) (ok_bipush 5 rfl rfl (by decide) (by decide) (ok_callVI (M' := M_Tp_isSign) (as := [_, _]) 6 rfl rfl ml_X10_62 (s_Tp_isSign ⟨p1.1, p1.2.1⟩ p1.2.2.1) rfl rfl (Nat.le_of_ble_eq_true rfl) ⟨Nat.le_of_ble_eq_true rfl, Nat.le_of_ble_eq_true rfl⟩ rfl (Nat.le_of_ble_eq_true rfl) (fun σ' z hz => ?_)))))
  obtain ⟨hs_, hz⟩ := hz
  rw [hs_]; clear hs_ σ'
  rw [up_same, up_nk _ _ _ _ (by decide : (3 : Int) ≠ 6), up_ne _ _ _ _ (by decide : (11 : Nat) ≠ 10)] at hz
  refine ok_if_ne 7 19 rfl rfl rfl (fun h14 => ?_) (fun h14 => ?_)
  · have n0 : ¬ dv0 σ := fun q => q (by rw [← ea]; omega)
    have al : a < σ 10 3 := by omega
    clear hz
    refine ok_aload_n 10 rfl rfl rfl (ok_dup 11 rfl rfl rfl (ok_getI 12 rfl rfl fl_X10_31 rfl rfl (Or.inl rfl) (ok_iconst 13 rfl rfl (by decide) (ok_iadd 14 rfl rfl (by first | omega | (simp [up_if]; omega) | (simp [up_if] at *; omega)) (ok_putI 15 rfl rfl fl_X10_31 rfl rfl rfl rfl ?_)))))
    rw [up_same, up2]
    have q2 : QD σ (up σ 10 6 (a + 1)) := ⟨fr_up fr.rf (by simp [rgD]), by rw [up_same]; omega, by rw [up_same]; omega⟩
    have p2 := QD_P h q2
    have eb : dvq σ = sk ((up σ 10 6 (a + 1)) 11) ((up σ 10 6 (a + 1)) 10 3) ((up σ 10 6 (a + 1)) 10 6) := by
      rw [up_same, up_nk _ _ _ _ (by decide : (3 : Int) ≠ 6), ea]; rfl
    obtain ⟨v1, v2, v3, v4⟩ := sk_sp (σ 11) (σ 10 3) (a + 1)
    have v2 := v2 (by omega)
    have eb2 : dvq σ = sk (σ 11) (σ 10 3) (a + 1) := by rw [ea]
    obtain ⟨b, ebb⟩ : ∃ b, b = dvq σ := ⟨_, rfl⟩
    rw [← eb2, ← ebb] at v1 v2
    have q4 : QD σ (up σ 10 6 b) := ⟨fr_up fr.rf (by simp [rgD]), by rw [up_same]; omega, by rw [up_same]; omega⟩
    have p4 := QD_P h q4
    have c3 : (up σ 10 6 b) 10 3 = σ 10 3 := up_nk _ _ _ _ (by decide)
    have c6 : (up σ 10 6 b) 10 6 = b := up_same _ _ _ _
    have c11 : (up σ 10 6 b) 11 = σ 11 := by funext k; exact up_ne _ _ _ _ (by decide)
    have hdvB : dvB σ ↔ (¬ (b < σ 10 3 ∧ 48 ≤ σ 11 b ∧ σ 11 b ≤ 57) ∨ 6 < de (σ 11) (σ 10 3) b - b) := by unfold dvB dve; rw [← ebb]
    have edve : dve σ = de (σ 11) (σ 10 3) b := by unfold dve; rw [← ebb]
    have dd := (de_sp (σ 11) (σ 10 3) b).2.1 (by omega)
    have dd0 := (de_sp (σ 11) (σ 10 3) b).1
    refine ok_aload_n 16 rfl rfl rfl (ok_callVV (M' := M_Tp_skipBlanks) (as := []) 17 rfl rfl ml_X10_92 (t_Tp_skipBlanks p2) rfl rfl (Nat.le_of_ble_eq_true rfl) ⟨Nat.le_of_ble_eq_true rfl, Nat.le_of_ble_eq_true rfl⟩ rfl (Nat.le_of_ble_eq_true rfl) (fun σ' hz => ?_))
    rw [hz]
    clear hz σ'
    rw [← eb, up2, ← ebb]
    refine ok_aload_n 18 rfl rfl rfl (ok_aload_n 19 rfl rfl rfl (ok_getI 20 rfl rfl fl_X10_31 rfl rfl (Or.inl rfl) (ok_callVI (M' := M_Tp_isDigit) (as := [_]) 21 rfl rfl ml_X10_69 (s_Tp_isDigit ⟨p4.1, p4.2.1⟩ p4.2.2.1) rfl rfl (Nat.le_of_ble_eq_true rfl) ⟨Nat.le_of_ble_eq_true rfl, Nat.le_of_ble_eq_true rfl⟩ rfl (Nat.le_of_ble_eq_true rfl) (fun σ' y hy => ?_))))
    obtain ⟨hs_, hy⟩ := hy
    rw [hs_]; clear hs_ σ'
    rw [c3, c6, c11] at hy
    refine ok_if_eq 22 53 rfl rfl rfl (fun h41 => ?_) (fun h41 => ?_)
    · refine ok_aload_n 27 rfl rfl rfl (ok_iconst 28 rfl rfl (by decide) (ok_aload_n 29 rfl rfl rfl (ok_getI 30 rfl rfl fl_X10_31 rfl rfl (Or.inl rfl) (ok_callVV (M' := M_Tp_fail) (as := [_, _]) 31 rfl rfl ml_X10_75 (s_Tp_fail) rfl rfl (Nat.le_of_ble_eq_true rfl) ⟨Nat.le_of_ble_eq_true rfl, Nat.le_of_ble_eq_true rfl⟩ rfl (Nat.le_of_ble_eq_true rfl) (fun σ' hz => ?_)))))
      rw [hz]
      clear hz σ'
      refine ok_iconst 32 rfl rfl (by decide) (ok_iret 33 rfl rfl rfl ?_)
      refine ⟨_, rfl, QD_tr q4 (QD_f p4 _ _), by omega, by omega, Or.inr (Or.inl ⟨n0, hdvB.mpr (by omega), rfl, by simp [up_if], by simp [up_if, ebb]⟩)⟩
    · refine ok_aload_n 23 rfl rfl rfl (ok_callVI (M' := M_Tp_countDigits) (as := []) 24 rfl rfl ml_X10_79 (t_Tp_countDigits p4) rfl rfl (Nat.le_of_ble_eq_true rfl) ⟨Nat.le_of_ble_eq_true rfl, Nat.le_of_ble_eq_true rfl⟩ rfl (Nat.le_of_ble_eq_true rfl) (fun σ' z hz => ?_))
      rw [hz.1, hz.2]
      clear hz z σ'
      rw [c3, c6, c11]
      refine ok_bipush 25 rfl rfl (by decide) (by decide) (ok_icmp_le 26 64 rfl rfl rfl (fun h50 => ?_) (fun h50 => ?_))
      · have nb : ¬ dvB σ := fun q => by have := hdvB.mp q; omega
        have h6 : de ((up σ 10 6 b) 11) ((up σ 10 6 b) 10 3) ((up σ 10 6 b) 10 6) - (up σ 10 6 b) 10 6 ≤ 6 := by rw [c3, c6, c11]; omega
        have vb := vaD_bd (B := σ 11) (L := σ 10 3) (p := b) (by omega)
        rw [← edve, ebb] at vb
        have q5 : QD σ (up σ 10 6 (dve σ)) := ⟨fr_up fr.rf (by simp [rgD]), by rw [up_same, edve]; omega, by rw [up_same, edve]; omega⟩
        have ee : de ((up σ 10 6 b) 11) ((up σ 10 6 b) 10 3) ((up σ 10 6 b) 10 6) = dve σ := by rw [c3, c6, c11, edve]
        refine ok_aload_n 34 rfl rfl rfl (ok_getI 35 rfl rfl fl_X10_31 rfl rfl (Or.inl rfl) (ok_ist1 36 rfl rfl rfl (ok_aload_n 37 rfl rfl rfl (ok_callVI (M' := M_Tp_readNumber) (as := []) 38 rfl rfl ml_X10_83 (t_Tp_readNumber p4 h6) rfl rfl (Nat.le_of_ble_eq_true rfl) ⟨Nat.le_of_ble_eq_true rfl, Nat.le_of_ble_eq_true rfl⟩ rfl (Nat.le_of_ble_eq_true rfl) (fun σ' z hz => ?_)))))
        rw [hz.1, hz.2]
        clear hz z σ'
        rw [ee, up2, c6, c11, ebb]
        refine ok_ist2 39 rfl rfl rfl (ok_iload_n 40 rfl rfl rfl (ok_if_ne 41 86 rfl rfl rfl (fun h75 => ?_) (fun h75 => ?_)))
        · refine ok_iload_n 48 rfl rfl rfl (ok_iret 49 rfl rfl rfl ?_)
          exact ⟨_, rfl, q5, by omega, by omega, Or.inr (Or.inr (Or.inr ⟨n0, nb, by omega, rfl, rfl⟩))⟩
        · refine ok_aload_n 42 rfl rfl rfl (ok_iconst 43 rfl rfl (by decide) (ok_iload_n 44 rfl rfl rfl (ok_callVV (M' := M_Tp_fail) (as := [_, _]) 45 rfl rfl ml_X10_75 (s_Tp_fail) rfl rfl (Nat.le_of_ble_eq_true rfl) ⟨Nat.le_of_ble_eq_true rfl, Nat.le_of_ble_eq_true rfl⟩ rfl (Nat.le_of_ble_eq_true rfl) (fun σ' hz => ?_))))
          rw [hz]
          clear hz σ'
          refine ok_iconst 46 rfl rfl (by decide) (ok_iret 47 rfl rfl rfl ?_)
          exact ⟨_, rfl, QD_tr q5 (QD_f (QD_P h q5) _ _), by omega, by omega, Or.inr (Or.inr (Or.inl ⟨n0, nb, by omega, rfl, by simp [up_if], by simp [up_if]⟩))⟩
      · refine ok_aload_n 27 rfl rfl rfl (ok_iconst 28 rfl rfl (by decide) (ok_aload_n 29 rfl rfl rfl (ok_getI 30 rfl rfl fl_X10_31 rfl rfl (Or.inl rfl) (ok_callVV (M' := M_Tp_fail) (as := [_, _]) 31 rfl rfl ml_X10_75 (s_Tp_fail) rfl rfl (Nat.le_of_ble_eq_true rfl) ⟨Nat.le_of_ble_eq_true rfl, Nat.le_of_ble_eq_true rfl⟩ rfl (Nat.le_of_ble_eq_true rfl) (fun σ' hz => ?_)))))
        rw [hz]
        clear hz σ'
        refine ok_iconst 32 rfl rfl (by decide) (ok_iret 33 rfl rfl rfl ?_)
        refine ⟨_, rfl, QD_tr q4 (QD_f p4 _ _), by omega, by omega, Or.inr (Or.inl ⟨n0, hdvB.mpr (by omega), rfl, by simp [up_if], by simp [up_if, ebb]⟩)⟩
  · refine ok_iconst 8 rfl rfl (by decide) (ok_iret 9 rfl rfl rfl ?_)
    exact ⟨_, rfl, q1, by omega, by omega, Or.inl ⟨by unfold dv0; rw [← ea]; omega, rfl, by rw [← ea]⟩⟩
theorem t_Tp_keepFraction {σ : eS} {a u : Int} (hr : 0 ≤ σ 10 7 ∧ σ 10 7 ≤ 7) (hf : 0 ≤ σ 10 8 ∧ σ 10 8 ≤ 7) (ha : 0 ≤ a ∧ a ≤ 999999) (hu : 1 ≤ u ∧ u ≤ 999999) : MtV shA M_Tp_keepFraction [vr 10, vi a, vi u] σ (fun σ' => σ' = up (up (up σ 12 (σ 10 7 * 8 + σ 10 8) (a / (Int.gcd u a : Int))) 13 (σ 10 7 * 8 + σ 10 8) (u / (Int.gcd u a : Int))) 10 8 (σ 10 8 + 1)) := by
  refine Mt.of okM_Tp_keepFraction (Nat.le_of_ble_eq_true rfl) (fun hk hg => ?_)
  obtain ⟨g1, g2⟩ := gcd_pos (a := u) (b := a) (by omega)
  obtain ⟨g, eg⟩ : ∃ g : Int, g = (Int.gcd u a : Int) := ⟨_, rfl⟩
  rw [← eg] at g1 g2
  have d1 := div_bd (u := a) (g := g) (B := 999999) ⟨by omega, by omega⟩ g1
  have d2 := gcd_div (u := u) (g := g) hu.1 g1 g2
  refine ok_iload_n 0 rfl rfl rfl (ok_i2l 1 rfl rfl (ok_iload_n 2 rfl rfl rfl (ok_i2l 3 rfl rfl (ok_callSL (M' := M_Nu_greatestDivisor) (as := [_, _]) 4 rfl rfl ml_X10_95 (s_Nu_greatestDivisor (by omega) ⟨by omega, by omega⟩) ⟨Nat.le_of_ble_eq_true rfl, Nat.le_of_ble_eq_true rfl⟩ rfl (Nat.le_of_ble_eq_true rfl) (fun σ' z hz => ?_)))))
  rw [hz.1, hz.2]
  clear hz z σ'
  rw [← eg]
  refine ok_l2i 5 rfl rfl (by first | omega | (simp [up_if]; omega) | (simp [up_if] at *; omega)) (ok_ist3 6 rfl rfl rfl (ok_aload_n 7 rfl rfl rfl (ok_getI 8 rfl rfl fl_X10_34 rfl rfl (Or.inl rfl) (ok_bipush 9 rfl rfl (by decide) (by decide) (ok_imul 10 rfl rfl (by first | omega | (simp [up_if]; omega) | (simp [up_if] at *; omega)) (ok_aload_n 11 rfl rfl rfl (ok_getI 12 rfl rfl fl_X10_37 rfl rfl (Or.inl rfl) (ok_iadd 13 rfl rfl (by first | omega | (simp [up_if]; omega) | (simp [up_if] at *; omega)) (ok_ist4 14 rfl rfl rfl (ok_aload_n 15 rfl rfl rfl (ok_getR 16 rfl rfl fl_X10_15 rfl rfl (ok_iload 17 rfl rfl rfl (ok_iload_n 18 rfl rfl rfl (ok_iload_n 19 rfl rfl rfl (ok_idiv 20 rfl rfl (by first | omega | (simp [up_if]; omega) | (simp [up_if] at *; omega)) (by first | omega | (simp [up_if]; omega) | (simp [up_if] at *; omega)) (ok_iast 21 rfl rfl rfl (by first | omega | (simp [up_if]; omega) | (simp [up_if] at *; omega)) (ok_aload_n 22 rfl rfl rfl (ok_getR 23 rfl rfl fl_X10_18 rfl rfl (ok_iload 24 rfl rfl rfl (ok_iload_n 25 rfl rfl rfl (ok_iload_n 26 rfl rfl rfl (ok_idiv 27 rfl rfl (by first | omega | (simp [up_if]; omega) | (simp [up_if] at *; omega)) (by first | omega | (simp [up_if]; omega) | (simp [up_if] at *; omega)) (ok_iast 28 rfl rfl rfl (by first | omega | (simp [up_if]; omega) | (simp [up_if] at *; omega)) (ok_aload_n 29 rfl rfl rfl (ok_dup 30 rfl rfl rfl (ok_getI 31 rfl rfl fl_X10_37 rfl rfl (Or.inl rfl) (ok_iconst 32 rfl rfl (by decide) (ok_iadd 33 rfl rfl (by first | omega | (simp [up_if]; omega) | (simp [up_if] at *; omega)) (ok_putI 34 rfl rfl fl_X10_37 rfl rfl rfl rfl (ok_vret 35 rfl rfl rfl ?_))))))))))))))))))))))))))))))
  exact ⟨rfl, by show up _ _ _ _ = up _ _ _ _; rw [up_ne _ _ _ _ (show (10 : Nat) ≠ 13 by decide), up_ne _ _ _ _ (show (10 : Nat) ≠ 12 by decide)]⟩
end
section
theorem up_fn (σ : eS) {c c' : Nat} (k z : Int) (h : c' ≠ c) : (up σ c k z) c' = σ c' := by funext j; exact up_ne _ _ _ _ h
theorem up_uf (σ : eS) (c : Nat) (k z : Int) : (up σ c k z) c = uf (σ c) k z := by funext j; rw [up_if]; unfold uf; simp
def PA (σ : eS) : oA := PR (σ 11) (σ 10 3) (σ 10 6) (σ 10 7) (σ 10 8) (σ 10 9) (σ 12) (σ 13)
/-- a step of the reading, of the class: no fault, and what is left is what was; or the fault of the whole -/
def KA (σ σ' : eS) : Prop := (σ' 10 4 = 0 ∧ PA σ' = PA σ ∧ σ 10 6 < σ' 10 6 ∧ σ' 10 5 = σ 10 5) ∨ (σ' 10 4 ≠ 0 ∧ (PA σ).1 = σ' 10 4 ∧ (PA σ).2.1 = σ' 10 5)
theorem sk_0 {B : Int → Int} {L p : Int} (h : ¬ blA B L p) : sk B L p = p := sk_un (Int.le_refl _) (fun i a b => by omega) h
theorem kf_weak {υ ω : eS} {a u : Int} (ha : 0 ≤ a ∧ a ≤ 999999) (hu : 1 ≤ u ∧ u ≤ 999999) (e : ω = up (up (up υ 12 (υ 10 7 * 8 + υ 10 8) (a / (Int.gcd u a : Int))) 13 (υ 10 7 * 8 + υ 10 8) (u / (Int.gcd u a : Int))) 10 8 (υ 10 8 + 1)) : fr rgE υ ω ∧ ω 10 8 = υ 10 8 + 1 ∧ uA ω (υ 10 7 * 8 + υ 10 8) ∧ ∀ k, k ≠ υ 10 7 * 8 + υ 10 8 → ω 12 k = υ 12 k ∧ ω 13 k = υ 13 k := by
  obtain ⟨g1, g2⟩ := gcd_pos (a := u) (b := a) (by omega)
  have d1 := div_bd (u := a) (g := (Int.gcd u a : Int)) (B := 999999) ⟨by omega, by omega⟩ g1
  have d2 := gcd_div (u := u) (g := (Int.gcd u a : Int)) hu.1 g1 g2
  subst e
  refine ⟨fr_up (fr_up (fr_up fr.rf (by simp [rgE])) (by simp [rgE])) (by simp [rgE]), by simp [up_if], ?_, fun k q => ?_⟩
  · unfold uA
    simp [up_if]
    omega
  · simp [up_if, q]
theorem t_Tp_readFraction {σ : eS} (h : RA σ) (hd : dgA (σ 11) (σ 10 3) (σ 10 6)) (hf0 : σ 10 4 = 0) : MtV shA M_Tp_readFraction [vr 10] σ (fun σ' => QJ σ σ' ∧ KA σ σ') := by
  refine Mt.of okM_Tp_readFraction (Nat.le_of_ble_eq_true rfl) (fun hk hg => ?_)
  have h0 := h.1
  have hq : sk (σ 11) (σ 10 3) (σ 10 6) = σ 10 6 := sk_0 (fun q => by have := hd.2; have := q.2; omega)
  have hP := PR_dig (r := σ 10 7) (k := σ 10 8) (w := σ 10 9) (ab := σ 12) (un := σ 13) hq hd.1 hd.2 rfl
  have ht := de_gt hd
  have ht2 := (de_sp (σ 11) (σ 10 3) (σ 10 6)).2.1 h0.2.2.2
  refine ok_aload_n 0 rfl rfl rfl (ok_callVI (M' := M_Tp_countDigits) (as := []) 1 rfl rfl ml_X10_79 (t_Tp_countDigits h0) rfl rfl (Nat.le_of_ble_eq_true rfl) ⟨Nat.le_of_ble_eq_true rfl, Nat.le_of_ble_eq_true rfl⟩ rfl (Nat.le_of_ble_eq_true rfl) (fun σ' z hz => ?_))
  rw [hz.1, hz.2]
  clear hz z σ'
  refine ok_bipush 2 rfl rfl (by decide) (by decide) (ok_icmp_le 3 21 rfl rfl rfl (fun h6 => ?_) (fun h6 => ?_))
  · refine ok_aload_n 10 rfl rfl rfl (ok_getI 11 rfl rfl fl_X10_34 rfl rfl (Or.inl rfl) (ok_bipush 12 rfl rfl (by decide) (by decide) (ok_icmp_eq 13 39 rfl rfl rfl (fun h27 => ?_) (fun h27 => ?_))))
    · refine ok_aload_n 18 rfl rfl rfl (ok_iconst 19 rfl rfl (by decide) (ok_aload_n 20 rfl rfl rfl (ok_getI 21 rfl rfl fl_X10_31 rfl rfl (Or.inl rfl) (ok_callVV (M' := M_Tp_fail) (as := [_, _]) 22 rfl rfl ml_X10_75 (s_Tp_fail) rfl rfl (Nat.le_of_ble_eq_true rfl) ⟨Nat.le_of_ble_eq_true rfl, Nat.le_of_ble_eq_true rfl⟩ rfl (Nat.le_of_ble_eq_true rfl) (fun σ' hz => ?_)))))
      rw [hz]
      clear hz σ'
      refine ok_goto 23 95 rfl rfl rfl (ok_vret 46 rfl rfl rfl ?_)
      refine ⟨rfl, QJ_D h (QD_f h0 _ _), Or.inr ⟨by simp [up_if], ?_, ?_⟩⟩
      · show (PA σ).1 = _; unfold PA; rw [hP, if_neg (by omega), if_pos (by omega)]; simp [up_if]
      · show (PA σ).2.1 = _; unfold PA; rw [hP, if_neg (by omega), if_pos (by omega)]; simp [up_if]
    · refine ok_aload_n 14 rfl rfl rfl (ok_getI 15 rfl rfl fl_X10_37 rfl rfl (Or.inl rfl) (ok_bipush 16 rfl rfl (by decide) (by decide) (ok_icmp_ne 17 51 rfl rfl rfl (fun h36 => ?_) (fun h36 => ?_))))
      · refine ok_aload_n 24 rfl rfl rfl (ok_getI 25 rfl rfl fl_X10_34 rfl rfl (Or.inl rfl) (ok_if_le 26 81 rfl rfl rfl (fun h55 => ?_) (fun h55 => ?_)))
        · obtain ⟨-, h1, h2, h3, h4, h5, h6, h7, h8, h9⟩ := id h
          have r7 : σ 10 7 ≤ 7 := by omega
          have f7 : σ 10 8 ≤ 7 := by omega
          have fw : 0 < σ 10 7 → σ 10 8 < σ 10 9 := fun q => by have := h9 q; omega
          rw [if_neg (by omega), if_neg (by omega), if_neg (by omega)] at hP
          have h6' : de (σ 11) (σ 10 3) (σ 10 6) - σ 10 6 ≤ 6 := by omega
          have vb := vaD_bd h6'
          obtain ⟨e, ee⟩ : ∃ e, e = de (σ 11) (σ 10 3) (σ 10 6) := ⟨_, rfl⟩
          obtain ⟨a, ea⟩ : ∃ a, a = vaD (σ 11) (σ 10 6) e := ⟨_, rfl⟩
          rw [← ee] at vb ht ht2 hP
          rw [← ea] at vb hP
          have q1 : QD σ (up σ 10 6 e) := ⟨fr_up fr.rf (by simp [rgD]), by rw [up_same]; omega, by rw [up_same]; omega⟩
          have c3 : (up σ 10 6 e) 10 3 = σ 10 3 := up_nk _ _ _ _ (by decide)
          have c6 : (up σ 10 6 e) 10 6 = e := up_same _ _ _ _
          have c11 : (up σ 10 6 e) 11 = σ 11 := up_fn _ _ _ (by decide)
          refine ok_aload_n 38 rfl rfl rfl (ok_callVI (M' := M_Tp_readNumber) (as := []) 39 rfl rfl ml_X10_83 (t_Tp_readNumber h0 h6') rfl rfl (Nat.le_of_ble_eq_true rfl) ⟨Nat.le_of_ble_eq_true rfl, Nat.le_of_ble_eq_true rfl⟩ rfl (Nat.le_of_ble_eq_true rfl) (fun σ' z hz => ?_))
          rw [hz.1, hz.2]
          clear hz z σ'
          rw [← ee, ← ea]
          refine ok_ist1 40 rfl rfl rfl (ok_aload_n 41 rfl rfl rfl (ok_iload_n 42 rfl rfl rfl (ok_aload_n 43 rfl rfl rfl (ok_callVI (M' := M_Tp_readDivisor) (as := []) 44 rfl rfl ml_X10_86 (t_Tp_readDivisor (QD_P h0 q1)) rfl rfl (Nat.le_of_ble_eq_true rfl) ⟨Nat.le_of_ble_eq_true rfl, Nat.le_of_ble_eq_true rfl⟩ rfl (Nat.le_of_ble_eq_true rfl) (fun υ y hy => ?_)))))
          have q2 := QD_tr q1 hy.1
          have hy2 : 1 ≤ y ∧ y ≤ 999999 := ⟨hy.2.1, hy.2.2.1⟩
          have hv := hy.2.2.2
          have ra := RA_D h q2
          have e7 : υ 10 7 = σ 10 7 := q2.1 10 7 (by simp [rgD])
          have e8 : υ 10 8 = σ 10 8 := q2.1 10 8 (by simp [rgD])
          have e9 : υ 10 9 = σ 10 9 := q2.1 10 9 (by simp [rgD])
          refine ok_callVV (M' := M_Tp_keepFraction) (as := [_, _]) 45 rfl rfl ml_X10_89 (t_Tp_keepFraction ⟨by omega, by omega⟩ ⟨by omega, by omega⟩ vb hy2) rfl rfl (Nat.le_of_ble_eq_true rfl) ⟨Nat.le_of_ble_eq_true rfl, Nat.le_of_ble_eq_true rfl⟩ rfl (Nat.le_of_ble_eq_true rfl) (fun ω hω => ?_)
          refine ok_vret 46 rfl rfl rfl ?_
          obtain ⟨k1, k2, k3, k4⟩ := kf_weak vb hy2 hω
          have x7 : ω 10 7 = σ 10 7 := by rw [k1 10 7 (by simp [rgE]), e7]
          have x9 : ω 10 9 = σ 10 9 := by rw [k1 10 9 (by simp [rgE]), e9]
          have x3 : ω 10 3 = υ 10 3 := k1 10 3 (by simp [rgE])
          have x6 : ω 10 6 = υ 10 6 := k1 10 6 (by simp [rgE])
          have x4 : ω 10 4 = υ 10 4 := k1 10 4 (by simp [rgE])
          have x5 : ω 10 5 = υ 10 5 := k1 10 5 (by simp [rgE])
          have x11 : ω 11 = υ 11 := by funext j; exact k1 11 j (by simp [rgE])
          refine ⟨rfl, ?_, ?_⟩
          · obtain ⟨t0, t1, t2, t3, t4, t5, t6, t7, t8, t9⟩ := ra
            have eu : ∀ k, uA υ k → uA ω k := fun k hk => by
              by_cases q : k = υ 10 7 * 8 + υ 10 8
              · rw [q]; exact k3
              · unfold uA; rw [(k4 k q).1, (k4 k q).2]; exact hk
            refine ⟨((q2.1.mono (fun c k w => by simp only [rgD, rgJ] at w ⊢; omega)).tr (k1.mono (fun c k w => by simp only [rgE, rgJ] at w ⊢; omega))), ⟨by rw [x3]; exact t0.1, by rw [x3]; exact t0.2.1, by rw [x6]; exact t0.2.2.1, by rw [x6, x3]; exact t0.2.2.2⟩, by omega, by omega, by omega, by omega, by omega, by omega, fun i j a b c d => eu _ (t7 i j a (by omega) c (by omega)), fun j a b c => ?_, fun q => by have := fw (by omega); omega⟩
            rw [x7, ← e7]
            by_cases q : j = υ 10 8
            · rw [q]; exact k3
            · exact eu _ (t8 j (by omega) b (by omega))
          · unfold QV dv0 dvB dve dvq at hv
            rw [c3, c6, c11] at hv
            rcases hv with ⟨v0, vz, vs⟩ | ⟨v0, v1, vz, v4, v5⟩ | ⟨v0, v1, v2, vz, v4, v5⟩ | ⟨v0, v1, v2, vz, vs⟩
            · have w6 : υ 10 6 = sk (σ 11) (σ 10 3) e := by rw [vs, up_same]
              have w := (sk_sp (σ 11) (σ 10 3) e).1
              refine Or.inl ⟨by rw [x4, vs, up2, up_nk _ _ _ _ (by decide)]; exact hf0, ?_, by omega, by rw [x5, vs, up2, up_nk _ _ _ _ (by decide)]⟩
              unfold PA
              rw [hP, if_neg v0, x11, x3, x6, x7, x9, k2, e8, w6]
              have y12 : ω 12 = uf (σ 12) (σ 10 7 * 8 + σ 10 8) (a / (Int.gcd 1 a : Int)) := by rw [hω, up_fn _ _ _ (by decide), up_fn _ _ _ (by decide), up_uf, vs, up2, up_fn _ _ _ (by decide), up_nk _ _ _ _ (by decide), up_nk _ _ _ _ (by decide), vz]
              have y13 : ω 13 = uf (σ 13) (σ 10 7 * 8 + σ 10 8) (1 / (Int.gcd 1 a : Int)) := by rw [hω, up_fn _ _ _ (by decide), up_uf, up_fn _ _ _ (by decide), vs, up2, up_fn _ _ _ (by decide), up_nk _ _ _ _ (by decide), up_nk _ _ _ _ (by decide), vz]
              have y3 : υ 10 3 = σ 10 3 := q2.1 10 3 (by simp [rgD])
              have y11 : υ 11 = σ 11 := by funext j; exact q2.1 11 j (by simp [rgD])
              rw [y12, y13, y3, y11]
            · refine Or.inr ⟨by rw [x4, v4]; decide, ?_, ?_⟩
              · unfold PA; rw [hP, if_pos (Classical.not_not.mp v0), if_pos v1, x4, v4]
              · unfold PA; rw [hP, if_pos (Classical.not_not.mp v0), if_pos v1, x5, v5]
            · refine Or.inr ⟨by rw [x4, v4]; decide, ?_, ?_⟩
              · unfold PA; rw [hP, if_pos (Classical.not_not.mp v0), if_neg v1, if_pos v2, x4, v4]
              · unfold PA; rw [hP, if_pos (Classical.not_not.mp v0), if_neg v1, if_pos v2, x5, v5]
            · have w6 : υ 10 6 = de (σ 11) (σ 10 3) (sk (σ 11) (σ 10 3) (sk (σ 11) (σ 10 3) e + 1)) := by rw [vs, up_same]
              have w1 := (sk_sp (σ 11) (σ 10 3) e).1
              have w2 := (sk_sp (σ 11) (σ 10 3) (sk (σ 11) (σ 10 3) e + 1)).1
              have w3 := (de_sp (σ 11) (σ 10 3) (sk (σ 11) (σ 10 3) (sk (σ 11) (σ 10 3) e + 1))).1
              refine Or.inl ⟨by rw [x4, vs, up2, up_nk _ _ _ _ (by decide)]; exact hf0, ?_, by omega, by rw [x5, vs, up2, up_nk _ _ _ _ (by decide)]⟩
              unfold PA
              rw [hP, if_pos (Classical.not_not.mp v0), if_neg v1, if_neg v2, x11, x3, x6, x7, x9, k2, e8, w6, ← vz]
              have y12 : ω 12 = uf (σ 12) (σ 10 7 * 8 + σ 10 8) (a / (Int.gcd y a : Int)) := by rw [hω, up_fn _ _ _ (by decide), up_fn _ _ _ (by decide), up_uf, vs, up2, up_fn _ _ _ (by decide), up_nk _ _ _ _ (by decide), up_nk _ _ _ _ (by decide)]
              have y13 : ω 13 = uf (σ 13) (σ 10 7 * 8 + σ 10 8) (y / (Int.gcd y a : Int)) := by rw [hω, up_fn _ _ _ (by decide), up_uf, up_fn _ _ _ (by decide), vs, up2, up_fn _ _ _ (by decide), up_nk _ _ _ _ (by decide), up_nk _ _ _ _ (by decide)]
              have y3 : υ 10 3 = σ 10 3 := q2.1 10 3 (by simp [rgD])
              have y11 : υ 11 = σ 11 := by funext j; exact q2.1 11 j (by simp [rgD])
              rw [y12, y13, y3, y11]
        · refine ok_aload_n 27 rfl rfl rfl (ok_getI 28 rfl rfl fl_X10_37 rfl rfl (Or.inl rfl) (ok_aload_n 29 rfl rfl rfl (ok_getI 30 rfl rfl fl_X10_40 rfl rfl (Or.inl rfl) (ok_icmp_ne 31 81 rfl rfl rfl (fun h66 => ?_) (fun h66 => ?_)))))
          · obtain ⟨-, h1, h2, h3, h4, h5, h6, h7, h8, h9⟩ := id h
            have r7 : σ 10 7 ≤ 7 := by omega
            have f7 : σ 10 8 ≤ 7 := by omega
            have fw : 0 < σ 10 7 → σ 10 8 < σ 10 9 := fun q => by have := h9 q; omega
            rw [if_neg (by omega), if_neg (by omega), if_neg (by omega)] at hP
            have h6' : de (σ 11) (σ 10 3) (σ 10 6) - σ 10 6 ≤ 6 := by omega
            have vb := vaD_bd h6'
            obtain ⟨e, ee⟩ : ∃ e, e = de (σ 11) (σ 10 3) (σ 10 6) := ⟨_, rfl⟩
            obtain ⟨a, ea⟩ : ∃ a, a = vaD (σ 11) (σ 10 6) e := ⟨_, rfl⟩
            rw [← ee] at vb ht ht2 hP
            rw [← ea] at vb hP
            have q1 : QD σ (up σ 10 6 e) := ⟨fr_up fr.rf (by simp [rgD]), by rw [up_same]; omega, by rw [up_same]; omega⟩
            have c3 : (up σ 10 6 e) 10 3 = σ 10 3 := up_nk _ _ _ _ (by decide)
            have c6 : (up σ 10 6 e) 10 6 = e := up_same _ _ _ _
            have c11 : (up σ 10 6 e) 11 = σ 11 := up_fn _ _ _ (by decide)
            refine ok_aload_n 38 rfl rfl rfl (ok_callVI (M' := M_Tp_readNumber) (as := []) 39 rfl rfl ml_X10_83 (t_Tp_readNumber h0 h6') rfl rfl (Nat.le_of_ble_eq_true rfl) ⟨Nat.le_of_ble_eq_true rfl, Nat.le_of_ble_eq_true rfl⟩ rfl (Nat.le_of_ble_eq_true rfl) (fun σ' z hz => ?_))
            rw [hz.1, hz.2]
            clear hz z σ'
            rw [← ee, ← ea]
            refine ok_ist1 40 rfl rfl rfl (ok_aload_n 41 rfl rfl rfl (ok_iload_n 42 rfl rfl rfl (ok_aload_n 43 rfl rfl rfl (ok_callVI (M' := M_Tp_readDivisor) (as := []) 44 rfl rfl ml_X10_86 (t_Tp_readDivisor (QD_P h0 q1)) rfl rfl (Nat.le_of_ble_eq_true rfl) ⟨Nat.le_of_ble_eq_true rfl, Nat.le_of_ble_eq_true rfl⟩ rfl (Nat.le_of_ble_eq_true rfl) (fun υ y hy => ?_)))))
            have q2 := QD_tr q1 hy.1
            have hy2 : 1 ≤ y ∧ y ≤ 999999 := ⟨hy.2.1, hy.2.2.1⟩
            have hv := hy.2.2.2
            have ra := RA_D h q2
            have e7 : υ 10 7 = σ 10 7 := q2.1 10 7 (by simp [rgD])
            have e8 : υ 10 8 = σ 10 8 := q2.1 10 8 (by simp [rgD])
            have e9 : υ 10 9 = σ 10 9 := q2.1 10 9 (by simp [rgD])
            refine ok_callVV (M' := M_Tp_keepFraction) (as := [_, _]) 45 rfl rfl ml_X10_89 (t_Tp_keepFraction ⟨by omega, by omega⟩ ⟨by omega, by omega⟩ vb hy2) rfl rfl (Nat.le_of_ble_eq_true rfl) ⟨Nat.le_of_ble_eq_true rfl, Nat.le_of_ble_eq_true rfl⟩ rfl (Nat.le_of_ble_eq_true rfl) (fun ω hω => ?_)
            refine ok_vret 46 rfl rfl rfl ?_
            obtain ⟨k1, k2, k3, k4⟩ := kf_weak vb hy2 hω
            have x7 : ω 10 7 = σ 10 7 := by rw [k1 10 7 (by simp [rgE]), e7]
            have x9 : ω 10 9 = σ 10 9 := by rw [k1 10 9 (by simp [rgE]), e9]
            have x3 : ω 10 3 = υ 10 3 := k1 10 3 (by simp [rgE])
            have x6 : ω 10 6 = υ 10 6 := k1 10 6 (by simp [rgE])
            have x4 : ω 10 4 = υ 10 4 := k1 10 4 (by simp [rgE])
            have x5 : ω 10 5 = υ 10 5 := k1 10 5 (by simp [rgE])
            have x11 : ω 11 = υ 11 := by funext j; exact k1 11 j (by simp [rgE])
            refine ⟨rfl, ?_, ?_⟩
            · obtain ⟨t0, t1, t2, t3, t4, t5, t6, t7, t8, t9⟩ := ra
              have eu : ∀ k, uA υ k → uA ω k := fun k hk => by
                by_cases q : k = υ 10 7 * 8 + υ 10 8
                · rw [q]; exact k3
                · unfold uA; rw [(k4 k q).1, (k4 k q).2]; exact hk
              refine ⟨((q2.1.mono (fun c k w => by simp only [rgD, rgJ] at w ⊢; omega)).tr (k1.mono (fun c k w => by simp only [rgE, rgJ] at w ⊢; omega))), ⟨by rw [x3]; exact t0.1, by rw [x3]; exact t0.2.1, by rw [x6]; exact t0.2.2.1, by rw [x6, x3]; exact t0.2.2.2⟩, by omega, by omega, by omega, by omega, by omega, by omega, fun i j a b c d => eu _ (t7 i j a (by omega) c (by omega)), fun j a b c => ?_, fun q => by have := fw (by omega); omega⟩
              rw [x7, ← e7]
              by_cases q : j = υ 10 8
              · rw [q]; exact k3
              · exact eu _ (t8 j (by omega) b (by omega))
            · unfold QV dv0 dvB dve dvq at hv
              rw [c3, c6, c11] at hv
              rcases hv with ⟨v0, vz, vs⟩ | ⟨v0, v1, vz, v4, v5⟩ | ⟨v0, v1, v2, vz, v4, v5⟩ | ⟨v0, v1, v2, vz, vs⟩
              · have w6 : υ 10 6 = sk (σ 11) (σ 10 3) e := by rw [vs, up_same]
                have w := (sk_sp (σ 11) (σ 10 3) e).1
                refine Or.inl ⟨by rw [x4, vs, up2, up_nk _ _ _ _ (by decide)]; exact hf0, ?_, by omega, by rw [x5, vs, up2, up_nk _ _ _ _ (by decide)]⟩
                unfold PA
                rw [hP, if_neg v0, x11, x3, x6, x7, x9, k2, e8, w6]
                have y12 : ω 12 = uf (σ 12) (σ 10 7 * 8 + σ 10 8) (a / (Int.gcd 1 a : Int)) := by rw [hω, up_fn _ _ _ (by decide), up_fn _ _ _ (by decide), up_uf, vs, up2, up_fn _ _ _ (by decide), up_nk _ _ _ _ (by decide), up_nk _ _ _ _ (by decide), vz]
                have y13 : ω 13 = uf (σ 13) (σ 10 7 * 8 + σ 10 8) (1 / (Int.gcd 1 a : Int)) := by rw [hω, up_fn _ _ _ (by decide), up_uf, up_fn _ _ _ (by decide), vs, up2, up_fn _ _ _ (by decide), up_nk _ _ _ _ (by decide), up_nk _ _ _ _ (by decide), vz]
                have y3 : υ 10 3 = σ 10 3 := q2.1 10 3 (by simp [rgD])
                have y11 : υ 11 = σ 11 := by funext j; exact q2.1 11 j (by simp [rgD])
                rw [y12, y13, y3, y11]
              · refine Or.inr ⟨by rw [x4, v4]; decide, ?_, ?_⟩
                · unfold PA; rw [hP, if_pos (Classical.not_not.mp v0), if_pos v1, x4, v4]
                · unfold PA; rw [hP, if_pos (Classical.not_not.mp v0), if_pos v1, x5, v5]
              · refine Or.inr ⟨by rw [x4, v4]; decide, ?_, ?_⟩
                · unfold PA; rw [hP, if_pos (Classical.not_not.mp v0), if_neg v1, if_pos v2, x4, v4]
                · unfold PA; rw [hP, if_pos (Classical.not_not.mp v0), if_neg v1, if_pos v2, x5, v5]
              · have w6 : υ 10 6 = de (σ 11) (σ 10 3) (sk (σ 11) (σ 10 3) (sk (σ 11) (σ 10 3) e + 1)) := by rw [vs, up_same]
                have w1 := (sk_sp (σ 11) (σ 10 3) e).1
                have w2 := (sk_sp (σ 11) (σ 10 3) (sk (σ 11) (σ 10 3) e + 1)).1
                have w3 := (de_sp (σ 11) (σ 10 3) (sk (σ 11) (σ 10 3) (sk (σ 11) (σ 10 3) e + 1))).1
                refine Or.inl ⟨by rw [x4, vs, up2, up_nk _ _ _ _ (by decide)]; exact hf0, ?_, by omega, by rw [x5, vs, up2, up_nk _ _ _ _ (by decide)]⟩
                unfold PA
                rw [hP, if_pos (Classical.not_not.mp v0), if_neg v1, if_neg v2, x11, x3, x6, x7, x9, k2, e8, w6, ← vz]
                have y12 : ω 12 = uf (σ 12) (σ 10 7 * 8 + σ 10 8) (a / (Int.gcd y a : Int)) := by rw [hω, up_fn _ _ _ (by decide), up_fn _ _ _ (by decide), up_uf, vs, up2, up_fn _ _ _ (by decide), up_nk _ _ _ _ (by decide), up_nk _ _ _ _ (by decide)]
                have y13 : ω 13 = uf (σ 13) (σ 10 7 * 8 + σ 10 8) (y / (Int.gcd y a : Int)) := by rw [hω, up_fn _ _ _ (by decide), up_uf, up_fn _ _ _ (by decide), vs, up2, up_fn _ _ _ (by decide), up_nk _ _ _ _ (by decide), up_nk _ _ _ _ (by decide)]
                have y3 : υ 10 3 = σ 10 3 := q2.1 10 3 (by simp [rgD])
                have y11 : υ 11 = σ 11 := by funext j; exact q2.1 11 j (by simp [rgD])
                rw [y12, y13, y3, y11]
          · refine ok_aload_n 32 rfl rfl rfl (ok_iconst 33 rfl rfl (by decide) (ok_aload_n 34 rfl rfl rfl (ok_getI 35 rfl rfl fl_X10_31 rfl rfl (Or.inl rfl) (ok_callVV (M' := M_Tp_fail) (as := [_, _]) 36 rfl rfl ml_X10_75 (s_Tp_fail) rfl rfl (Nat.le_of_ble_eq_true rfl) ⟨Nat.le_of_ble_eq_true rfl, Nat.le_of_ble_eq_true rfl⟩ rfl (Nat.le_of_ble_eq_true rfl) (fun σ' hz => ?_)))))
            rw [hz]
            clear hz σ'
            refine ok_goto 37 95 rfl rfl rfl (ok_vret 46 rfl rfl rfl ?_)
            refine ⟨rfl, QJ_D h (QD_f h0 _ _), Or.inr ⟨by simp [up_if], ?_, ?_⟩⟩
            · show (PA σ).1 = _; unfold PA; rw [hP, if_neg (by omega), if_neg (by omega), if_pos (by omega)]; simp [up_if]
            · show (PA σ).2.1 = _; unfold PA; rw [hP, if_neg (by omega), if_neg (by omega), if_pos (by omega)]; simp [up_if]
      · refine ok_aload_n 18 rfl rfl rfl (ok_iconst 19 rfl rfl (by decide) (ok_aload_n 20 rfl rfl rfl (ok_getI 21 rfl rfl fl_X10_31 rfl rfl (Or.inl rfl) (ok_callVV (M' := M_Tp_fail) (as := [_, _]) 22 rfl rfl ml_X10_75 (s_Tp_fail) rfl rfl (Nat.le_of_ble_eq_true rfl) ⟨Nat.le_of_ble_eq_true rfl, Nat.le_of_ble_eq_true rfl⟩ rfl (Nat.le_of_ble_eq_true rfl) (fun σ' hz => ?_)))))
        rw [hz]
        clear hz σ'
        refine ok_goto 23 95 rfl rfl rfl (ok_vret 46 rfl rfl rfl ?_)
        refine ⟨rfl, QJ_D h (QD_f h0 _ _), Or.inr ⟨by simp [up_if], ?_, ?_⟩⟩
        · show (PA σ).1 = _; unfold PA; rw [hP, if_neg (by omega), if_pos (by omega)]; simp [up_if]
        · show (PA σ).2.1 = _; unfold PA; rw [hP, if_neg (by omega), if_pos (by omega)]; simp [up_if]
  · refine ok_aload_n 4 rfl rfl rfl (ok_iconst 5 rfl rfl (by decide) (ok_aload_n 6 rfl rfl rfl (ok_getI 7 rfl rfl fl_X10_31 rfl rfl (Or.inl rfl) (ok_callVV (M' := M_Tp_fail) (as := [_, _]) 8 rfl rfl ml_X10_75 (s_Tp_fail) rfl rfl (Nat.le_of_ble_eq_true rfl) ⟨Nat.le_of_ble_eq_true rfl, Nat.le_of_ble_eq_true rfl⟩ rfl (Nat.le_of_ble_eq_true rfl) (fun σ' hz => ?_)))))
    rw [hz]
    clear hz σ'
    refine ok_goto 9 95 rfl rfl rfl (ok_vret 46 rfl rfl rfl ?_)
    refine ⟨rfl, QJ_D h (QD_f h0 _ _), Or.inr ⟨by simp [up_if], ?_, ?_⟩⟩
    · show (PA σ).1 = _; unfold PA; rw [hP, if_pos (by omega)]; simp [up_if]
    · show (PA σ).2.1 = _; unfold PA; rw [hP, if_pos (by omega)]; simp [up_if]
theorem t_Tp_closeRow {σ : eS} (h : RA σ) (hat : σ 10 6 < σ 10 3) (hb : σ 11 (σ 10 6) = 59) (hf0 : σ 10 4 = 0) : MtV shA M_Tp_closeRow [vr 10] σ (fun σ' => QJ σ σ' ∧ KA σ σ') := by
  refine Mt.of okM_Tp_closeRow (Nat.le_of_ble_eq_true rfl) (fun hk hg => ?_)
  obtain ⟨h0, h1, h2, h3, h4, h5, h6, h7, h8, h9⟩ := id h
  obtain ⟨p1, p2, p3, p4⟩ := id h0
  have hq : sk (σ 11) (σ 10 3) (σ 10 6) = σ 10 6 := sk_0 (fun q => by have := q.2; omega)
  have hP := PR_59 (r := σ 10 7) (k := σ 10 8) (w := σ 10 9) (ab := σ 12) (un := σ 13) hq hat hb
  refine ok_aload_n 0 rfl rfl rfl (ok_getI 1 rfl rfl fl_X10_34 rfl rfl (Or.inl rfl) (ok_bipush 2 rfl rfl (by decide) (by decide) (ok_icmp_ne 3 21 rfl rfl rfl (fun h6 => ?_) (fun h6 => ?_))))
  · refine ok_aload_n 10 rfl rfl rfl (ok_getI 11 rfl rfl fl_X10_34 rfl rfl (Or.inl rfl) (ok_if_le 12 51 rfl rfl rfl (fun h25 => ?_) (fun h25 => ?_)))
    · rw [if_neg (by omega), if_neg (by omega)] at hP
      have fin : ∀ W : Int, W = (if σ 10 7 = 0 then σ 10 8 else σ 10 9) → ∀ τ : eS, fr (fun c k => c = 10 ∧ 6 ≤ k ∧ k ≤ 9) σ τ → τ 10 6 = σ 10 6 + 1 → τ 10 7 = σ 10 7 + 1 → τ 10 8 = 0 → τ 10 9 = W → QJ σ τ ∧ KA σ τ := fun W hW τ f t6 t7 t8 t9 => by
        have g3 : τ 10 3 = σ 10 3 := f 10 3 (by omega)
        have g4 : τ 10 4 = σ 10 4 := f 10 4 (by omega)
        have g5 : τ 10 5 = σ 10 5 := f 10 5 (by omega)
        have g11 : τ 11 = σ 11 := by funext j; exact f 11 j (by omega)
        have g12 : τ 12 = σ 12 := by funext j; exact f 12 j (by omega)
        have g13 : τ 13 = σ 13 := by funext j; exact f 13 j (by omega)
        have eu : ∀ k, uA τ k ↔ uA σ k := fun k => by unfold uA; rw [g12, g13]
        have hWb : 0 ≤ W ∧ W ≤ 8 := by rw [hW]; split <;> omega
        refine ⟨⟨f.mono (fun c k w => by simp only [rgJ]; omega), ⟨by omega, by omega, by omega, by omega⟩, by omega, by omega, by omega, by omega, by omega, by omega, fun i j a b c d => ?_, fun j a b c => by omega, fun q => by omega⟩, Or.inl ⟨by omega, ?_, by omega, g5⟩⟩
        · rw [eu]
          rw [t7] at b
          rw [t9, hW] at d
          by_cases z : σ 10 7 = 0
          · rw [if_pos z] at d
            have := h8 j (by omega) c d
            rw [show i = σ 10 7 by omega]
            exact this
          · rw [if_neg z] at d
            rcases (by omega : i < σ 10 7 ∨ i = σ 10 7) with w | w
            · exact h7 i j a w c d
            · rw [w]; exact h8 j (by omega) c (by omega)
        · unfold PA
          rw [hP, g11, g3, t6, t7, t8, t9, g12, g13, hW]
      refine ok_aload_n 24 rfl rfl rfl (ok_getI 25 rfl rfl fl_X10_34 rfl rfl (Or.inl rfl) (ok_if_ne 26 66 rfl rfl rfl (fun h55 => ?_) (fun h55 => ?_)))
      · refine ok_aload_n 31 rfl rfl rfl (ok_dup 32 rfl rfl rfl (ok_getI 33 rfl rfl fl_X10_34 rfl rfl (Or.inl rfl) (ok_iconst 34 rfl rfl (by decide) (ok_iadd 35 rfl rfl (by first | omega | (simp [up_if]; omega) | (simp [up_if] at *; omega)) (ok_putI 36 rfl rfl fl_X10_34 rfl rfl rfl rfl (ok_aload_n 37 rfl rfl rfl (ok_iconst 38 rfl rfl (by decide) (ok_putI 39 rfl rfl fl_X10_37 rfl rfl rfl rfl (ok_aload_n 40 rfl rfl rfl (ok_dup 41 rfl rfl rfl (ok_getI 42 rfl rfl fl_X10_31 rfl rfl (Or.inl rfl) (ok_iconst 43 rfl rfl (by decide) (ok_iadd 44 rfl rfl (by first | omega | (simp [up_if]; omega) | (simp [up_if] at *; omega)) (ok_putI 45 rfl rfl fl_X10_31 rfl rfl rfl rfl (ok_vret 46 rfl rfl rfl ?_)))))))))))))))
        refine ⟨rfl, fin _ ?_ _ (fr.mono (P := fun c k => c = 10 ∧ 6 ≤ k ∧ k ≤ 9) ?_ (fun c k w => w)) ?_ ?_ ?_ rfl⟩
        · simp [up_if]; try omega
        · first | exact fr_up (fr_up (fr_up (fr_up fr.rf (by simp)) (by simp)) (by simp)) (by simp) | exact fr_up (fr_up (fr_up fr.rf (by simp)) (by simp)) (by simp)
        · simp [up_if]
        · simp [up_if]
        · simp [up_if]
      · refine ok_aload_n 27 rfl rfl rfl (ok_aload_n 28 rfl rfl rfl (ok_getI 29 rfl rfl fl_X10_37 rfl rfl (Or.inl rfl) (ok_putI 30 rfl rfl fl_X10_40 rfl rfl rfl rfl (ok_aload_n 31 rfl rfl rfl (ok_dup 32 rfl rfl rfl (ok_getI 33 rfl rfl fl_X10_34 rfl rfl (Or.inl rfl) (ok_iconst 34 rfl rfl (by decide) (ok_iadd 35 rfl rfl (by first | omega | (simp [up_if]; omega) | (simp [up_if] at *; omega)) (ok_putI 36 rfl rfl fl_X10_34 rfl rfl rfl rfl (ok_aload_n 37 rfl rfl rfl (ok_iconst 38 rfl rfl (by decide) (ok_putI 39 rfl rfl fl_X10_37 rfl rfl rfl rfl (ok_aload_n 40 rfl rfl rfl (ok_dup 41 rfl rfl rfl (ok_getI 42 rfl rfl fl_X10_31 rfl rfl (Or.inl rfl) (ok_iconst 43 rfl rfl (by decide) (ok_iadd 44 rfl rfl (by first | omega | (simp [up_if]; omega) | (simp [up_if] at *; omega)) (ok_putI 45 rfl rfl fl_X10_31 rfl rfl rfl rfl (ok_vret 46 rfl rfl rfl ?_)))))))))))))))))))
        refine ⟨rfl, fin _ ?_ _ (fr.mono (P := fun c k => c = 10 ∧ 6 ≤ k ∧ k ≤ 9) ?_ (fun c k w => w)) ?_ ?_ ?_ rfl⟩
        · simp [up_if]; try omega
        · first | exact fr_up (fr_up (fr_up (fr_up fr.rf (by simp)) (by simp)) (by simp)) (by simp) | exact fr_up (fr_up (fr_up fr.rf (by simp)) (by simp)) (by simp)
        · simp [up_if]
        · simp [up_if]
        · simp [up_if]
    · refine ok_aload_n 13 rfl rfl rfl (ok_getI 14 rfl rfl fl_X10_37 rfl rfl (Or.inl rfl) (ok_aload_n 15 rfl rfl rfl (ok_getI 16 rfl rfl fl_X10_40 rfl rfl (Or.inl rfl) (ok_icmp_eq 17 51 rfl rfl rfl (fun h36 => ?_) (fun h36 => ?_)))))
      · rw [if_neg (by omega), if_neg (by omega)] at hP
        have fin : ∀ W : Int, W = (if σ 10 7 = 0 then σ 10 8 else σ 10 9) → ∀ τ : eS, fr (fun c k => c = 10 ∧ 6 ≤ k ∧ k ≤ 9) σ τ → τ 10 6 = σ 10 6 + 1 → τ 10 7 = σ 10 7 + 1 → τ 10 8 = 0 → τ 10 9 = W → QJ σ τ ∧ KA σ τ := fun W hW τ f t6 t7 t8 t9 => by
          have g3 : τ 10 3 = σ 10 3 := f 10 3 (by omega)
          have g4 : τ 10 4 = σ 10 4 := f 10 4 (by omega)
          have g5 : τ 10 5 = σ 10 5 := f 10 5 (by omega)
          have g11 : τ 11 = σ 11 := by funext j; exact f 11 j (by omega)
          have g12 : τ 12 = σ 12 := by funext j; exact f 12 j (by omega)
          have g13 : τ 13 = σ 13 := by funext j; exact f 13 j (by omega)
          have eu : ∀ k, uA τ k ↔ uA σ k := fun k => by unfold uA; rw [g12, g13]
          have hWb : 0 ≤ W ∧ W ≤ 8 := by rw [hW]; split <;> omega
          refine ⟨⟨f.mono (fun c k w => by simp only [rgJ]; omega), ⟨by omega, by omega, by omega, by omega⟩, by omega, by omega, by omega, by omega, by omega, by omega, fun i j a b c d => ?_, fun j a b c => by omega, fun q => by omega⟩, Or.inl ⟨by omega, ?_, by omega, g5⟩⟩
          · rw [eu]
            rw [t7] at b
            rw [t9, hW] at d
            by_cases z : σ 10 7 = 0
            · rw [if_pos z] at d
              have := h8 j (by omega) c d
              rw [show i = σ 10 7 by omega]
              exact this
            · rw [if_neg z] at d
              rcases (by omega : i < σ 10 7 ∨ i = σ 10 7) with w | w
              · exact h7 i j a w c d
              · rw [w]; exact h8 j (by omega) c (by omega)
          · unfold PA
            rw [hP, g11, g3, t6, t7, t8, t9, g12, g13, hW]
        refine ok_aload_n 24 rfl rfl rfl (ok_getI 25 rfl rfl fl_X10_34 rfl rfl (Or.inl rfl) (ok_if_ne 26 66 rfl rfl rfl (fun h55 => ?_) (fun h55 => ?_)))
        · refine ok_aload_n 31 rfl rfl rfl (ok_dup 32 rfl rfl rfl (ok_getI 33 rfl rfl fl_X10_34 rfl rfl (Or.inl rfl) (ok_iconst 34 rfl rfl (by decide) (ok_iadd 35 rfl rfl (by first | omega | (simp [up_if]; omega) | (simp [up_if] at *; omega)) (ok_putI 36 rfl rfl fl_X10_34 rfl rfl rfl rfl (ok_aload_n 37 rfl rfl rfl (ok_iconst 38 rfl rfl (by decide) (ok_putI 39 rfl rfl fl_X10_37 rfl rfl rfl rfl (ok_aload_n 40 rfl rfl rfl (ok_dup 41 rfl rfl rfl (ok_getI 42 rfl rfl fl_X10_31 rfl rfl (Or.inl rfl) (ok_iconst 43 rfl rfl (by decide) (ok_iadd 44 rfl rfl (by first | omega | (simp [up_if]; omega) | (simp [up_if] at *; omega)) (ok_putI 45 rfl rfl fl_X10_31 rfl rfl rfl rfl (ok_vret 46 rfl rfl rfl ?_)))))))))))))))
          refine ⟨rfl, fin _ ?_ _ (fr.mono (P := fun c k => c = 10 ∧ 6 ≤ k ∧ k ≤ 9) ?_ (fun c k w => w)) ?_ ?_ ?_ rfl⟩
          · simp [up_if]; try omega
          · first | exact fr_up (fr_up (fr_up (fr_up fr.rf (by simp)) (by simp)) (by simp)) (by simp) | exact fr_up (fr_up (fr_up fr.rf (by simp)) (by simp)) (by simp)
          · simp [up_if]
          · simp [up_if]
          · simp [up_if]
        · refine ok_aload_n 27 rfl rfl rfl (ok_aload_n 28 rfl rfl rfl (ok_getI 29 rfl rfl fl_X10_37 rfl rfl (Or.inl rfl) (ok_putI 30 rfl rfl fl_X10_40 rfl rfl rfl rfl (ok_aload_n 31 rfl rfl rfl (ok_dup 32 rfl rfl rfl (ok_getI 33 rfl rfl fl_X10_34 rfl rfl (Or.inl rfl) (ok_iconst 34 rfl rfl (by decide) (ok_iadd 35 rfl rfl (by first | omega | (simp [up_if]; omega) | (simp [up_if] at *; omega)) (ok_putI 36 rfl rfl fl_X10_34 rfl rfl rfl rfl (ok_aload_n 37 rfl rfl rfl (ok_iconst 38 rfl rfl (by decide) (ok_putI 39 rfl rfl fl_X10_37 rfl rfl rfl rfl (ok_aload_n 40 rfl rfl rfl (ok_dup 41 rfl rfl rfl (ok_getI 42 rfl rfl fl_X10_31 rfl rfl (Or.inl rfl) (ok_iconst 43 rfl rfl (by decide) (ok_iadd 44 rfl rfl (by first | omega | (simp [up_if]; omega) | (simp [up_if] at *; omega)) (ok_putI 45 rfl rfl fl_X10_31 rfl rfl rfl rfl (ok_vret 46 rfl rfl rfl ?_)))))))))))))))))))
          refine ⟨rfl, fin _ ?_ _ (fr.mono (P := fun c k => c = 10 ∧ 6 ≤ k ∧ k ≤ 9) ?_ (fun c k w => w)) ?_ ?_ ?_ rfl⟩
          · simp [up_if]; try omega
          · first | exact fr_up (fr_up (fr_up (fr_up fr.rf (by simp)) (by simp)) (by simp)) (by simp) | exact fr_up (fr_up (fr_up fr.rf (by simp)) (by simp)) (by simp)
          · simp [up_if]
          · simp [up_if]
          · simp [up_if]
      · refine ok_aload_n 18 rfl rfl rfl (ok_iconst 19 rfl rfl (by decide) (ok_aload_n 20 rfl rfl rfl (ok_getI 21 rfl rfl fl_X10_31 rfl rfl (Or.inl rfl) (ok_callVV (M' := M_Tp_fail) (as := [_, _]) 22 rfl rfl ml_X10_75 (s_Tp_fail) rfl rfl (Nat.le_of_ble_eq_true rfl) ⟨Nat.le_of_ble_eq_true rfl, Nat.le_of_ble_eq_true rfl⟩ rfl (Nat.le_of_ble_eq_true rfl) (fun σ' hz => ?_)))))
        rw [hz]
        clear hz σ'
        refine ok_goto 23 91 rfl rfl rfl (ok_vret 46 rfl rfl rfl ?_)
        refine ⟨rfl, QJ_D h (QD_f h0 _ _), Or.inr ⟨by simp [up_if], ?_, ?_⟩⟩
        · show (PA σ).1 = _; unfold PA; rw [hP, if_neg (by omega), if_pos (by omega)]; simp [up_if]
        · show (PA σ).2.1 = _; unfold PA; rw [hP, if_neg (by omega), if_pos (by omega)]; simp [up_if]
  · refine ok_aload_n 4 rfl rfl rfl (ok_iconst 5 rfl rfl (by decide) (ok_aload_n 6 rfl rfl rfl (ok_getI 7 rfl rfl fl_X10_31 rfl rfl (Or.inl rfl) (ok_callVV (M' := M_Tp_fail) (as := [_, _]) 8 rfl rfl ml_X10_75 (s_Tp_fail) rfl rfl (Nat.le_of_ble_eq_true rfl) ⟨Nat.le_of_ble_eq_true rfl, Nat.le_of_ble_eq_true rfl⟩ rfl (Nat.le_of_ble_eq_true rfl) (fun σ' hz => ?_)))))
    rw [hz]
    clear hz σ'
    refine ok_goto 9 91 rfl rfl rfl (ok_vret 46 rfl rfl rfl ?_)
    refine ⟨rfl, QJ_D h (QD_f h0 _ _), Or.inr ⟨by simp [up_if], ?_, ?_⟩⟩
    · show (PA σ).1 = _; unfold PA; rw [hP, if_pos (by omega)]; simp [up_if]
    · show (PA σ).2.1 = _; unfold PA; rw [hP, if_pos (by omega)]; simp [up_if]
theorem PA_bl {σ : eS} (hb : blA (σ 11) (σ 10 3) (σ 10 6)) : PA (up σ 10 6 (σ 10 6 + 1)) = PA σ := by
  unfold PA
  rw [up_same, up_fn _ _ _ (show (11 : Nat) ≠ 10 by decide), up_fn _ _ _ (show (12 : Nat) ≠ 10 by decide), up_fn _ _ _ (show (13 : Nat) ≠ 10 by decide), up_nk _ _ _ _ (by decide : (3 : Int) ≠ 6), up_nk _ _ _ _ (by decide : (7 : Int) ≠ 6), up_nk _ _ _ _ (by decide : (8 : Int) ≠ 6), up_nk _ _ _ _ (by decide : (9 : Int) ≠ 6)]
  refine (PR_sk ?_).symm
  exact sk_mid (by omega) (fun i a b => by rw [show i = σ 10 6 by omega]; exact hb)
theorem t_Tp_readPiece {σ : eS} (h : RA σ) (hat : σ 10 6 < σ 10 3) (hf0 : σ 10 4 = 0) : MtV shA M_Tp_readPiece [vr 10] σ (fun σ' => QJ σ σ' ∧ KA σ σ') := by
  refine Mt.of okM_Tp_readPiece (Nat.le_of_ble_eq_true rfl) (fun hk hg => ?_)
  have h0 := h.1
  obtain ⟨p1, p2, p3, p4⟩ := id h0
  refine ok_aload_n 0 rfl rfl rfl (ok_aload_n 1 rfl rfl rfl (ok_getI 2 rfl rfl fl_X10_31 rfl rfl (Or.inl rfl) (ok_callVI (M' := M_Tp_isBlank) (as := [_]) 3 rfl rfl ml_X10_58 (s_Tp_isBlank ⟨p1, p2⟩ p3) rfl rfl (Nat.le_of_ble_eq_true rfl) ⟨Nat.le_of_ble_eq_true rfl, Nat.le_of_ble_eq_true rfl⟩ rfl (Nat.le_of_ble_eq_true rfl) (fun σ' z1 a1 => ?_))))
  obtain ⟨hs_, a1⟩ := a1
  rw [hs_]; clear hs_ σ'
  refine ok_if_eq 4 24 rfl rfl rfl (fun h8 => ?_) (fun h8 => ?_)
  · refine ok_aload_n 12 rfl rfl rfl (ok_aload_n 13 rfl rfl rfl (ok_getI 14 rfl rfl fl_X10_31 rfl rfl (Or.inl rfl) (ok_bipush 15 rfl rfl (by decide) (by decide) (ok_callVI (M' := M_Tp_isSign) (as := [_, _]) 16 rfl rfl ml_X10_62 (s_Tp_isSign ⟨p1, p2⟩ p3) rfl rfl (Nat.le_of_ble_eq_true rfl) ⟨Nat.le_of_ble_eq_true rfl, Nat.le_of_ble_eq_true rfl⟩ rfl (Nat.le_of_ble_eq_true rfl) (fun σ' z2 a2 => ?_)))))
    obtain ⟨hs_, a2⟩ := a2
    rw [hs_]; clear hs_ σ'
    refine ok_if_eq 17 44 rfl rfl rfl (fun h34 => ?_) (fun h34 => ?_)
    · refine ok_aload_n 21 rfl rfl rfl (ok_aload_n 22 rfl rfl rfl (ok_getI 23 rfl rfl fl_X10_31 rfl rfl (Or.inl rfl) (ok_callVI (M' := M_Tp_isDigit) (as := [_]) 24 rfl rfl ml_X10_69 (s_Tp_isDigit ⟨p1, p2⟩ p3) rfl rfl (Nat.le_of_ble_eq_true rfl) ⟨Nat.le_of_ble_eq_true rfl, Nat.le_of_ble_eq_true rfl⟩ rfl (Nat.le_of_ble_eq_true rfl) (fun σ' z3 a3 => ?_))))
      obtain ⟨hs_, a3⟩ := a3
      rw [hs_]; clear hs_ σ'
      refine ok_if_eq 25 62 rfl rfl rfl (fun h52 => ?_) (fun h52 => ?_)
      · refine ok_aload_n 29 rfl rfl rfl (ok_iconst 30 rfl rfl (by decide) (ok_aload_n 31 rfl rfl rfl (ok_getI 32 rfl rfl fl_X10_31 rfl rfl (Or.inl rfl) (ok_callVV (M' := M_Tp_fail) (as := [_, _]) 33 rfl rfl ml_X10_75 (s_Tp_fail) rfl rfl (Nat.le_of_ble_eq_true rfl) ⟨Nat.le_of_ble_eq_true rfl, Nat.le_of_ble_eq_true rfl⟩ rfl (Nat.le_of_ble_eq_true rfl) (fun σ' hz => ?_)))))
        rw [hz]
        clear hz σ'
        refine ok_vret 34 rfl rfl rfl ?_
        have hq : sk (σ 11) (σ 10 3) (σ 10 6) = σ 10 6 := sk_0 (fun q => by unfold blA at q; omega)
        have hP := PR_bad (r := σ 10 7) (k := σ 10 8) (w := σ 10 9) (ab := σ 12) (un := σ 13) hq hat (by omega) (by omega)
        refine ⟨rfl, QJ_D h (QD_f h0 _ _), Or.inr ⟨by simp [up_if], ?_, ?_⟩⟩
        · unfold PA; rw [hP]; simp [up_if]
        · unfold PA; rw [hP]; simp [up_if]
      · refine ok_aload_n 26 rfl rfl rfl (ok_callVV (M' := M_Tp_readFraction) (as := []) 27 rfl rfl ml_X10_72 (t_Tp_readFraction h ⟨by omega, by omega, by omega⟩ hf0) rfl rfl (Nat.le_of_ble_eq_true rfl) ⟨Nat.le_of_ble_eq_true rfl, Nat.le_of_ble_eq_true rfl⟩ rfl (Nat.le_of_ble_eq_true rfl) (fun τ hz => ?_))
        refine ok_goto 28 71 rfl rfl rfl (ok_vret 34 rfl rfl rfl ?_)
        exact ⟨rfl, hz⟩
    · refine ok_aload_n 18 rfl rfl rfl (ok_callVV (M' := M_Tp_closeRow) (as := []) 19 rfl rfl ml_X10_66 (t_Tp_closeRow h hat (by omega) hf0) rfl rfl (Nat.le_of_ble_eq_true rfl) ⟨Nat.le_of_ble_eq_true rfl, Nat.le_of_ble_eq_true rfl⟩ rfl (Nat.le_of_ble_eq_true rfl) (fun τ hz => ?_))
      refine ok_goto 20 71 rfl rfl rfl (ok_vret 34 rfl rfl rfl ?_)
      exact ⟨rfl, hz⟩
  · refine ok_aload_n 5 rfl rfl rfl (ok_dup 6 rfl rfl rfl (ok_getI 7 rfl rfl fl_X10_31 rfl rfl (Or.inl rfl) (ok_iconst 8 rfl rfl (by decide) (ok_iadd 9 rfl rfl (by first | omega | (simp [up_if]; omega) | (simp [up_if] at *; omega)) (ok_putI 10 rfl rfl fl_X10_31 rfl rfl rfl rfl (ok_goto 11 71 rfl rfl rfl (ok_vret 34 rfl rfl rfl ?_)))))))
    exact ⟨rfl, QJ_D h ⟨fr_up fr.rf (by simp [rgD]), by rw [up_same]; omega, by rw [up_same]; omega⟩, Or.inl ⟨by rw [up_nk _ _ _ _ (by decide)]; exact hf0, PA_bl ⟨by omega, by omega⟩, by rw [up_same]; omega, up_nk _ _ _ _ (by decide)⟩⟩
end
section
theorem t_Tp_checkEnd {σ : eS} (h : RA σ) (hc : (σ 10 4 = 0 ∧ σ 10 6 = σ 10 3) ∨ σ 10 4 ≠ 0) : MtV shA M_Tp_checkEnd [vr 10] σ (fun σ' => QJ σ σ' ∧ (σ' 10 4 = 0 → σ' 10 7 = σ' 10 9) ∧ ((σ 10 4 ≠ 0 ∧ σ' = σ) ∨ (σ 10 4 = 0 ∧ (PA σ).1 = σ' 10 4 ∧ (σ' 10 4 = 0 → σ' = σ) ∧ (σ' 10 4 ≠ 0 → (PA σ).2.1 = σ' 10 5)))) := by
  refine Mt.of okM_Tp_checkEnd (Nat.le_of_ble_eq_true rfl) (fun hk hg => ?_)
  have h0 := h.1
  obtain ⟨p1, p2, p3, p4⟩ := id h0
  by_cases hf : σ 10 4 = 0
  · have hl : σ 10 6 = σ 10 3 := by omega
    have hq : sk (σ 11) (σ 10 3) (σ 10 6) = σ 10 6 := sk_0 (fun q => by have := q.1; omega)
    have hP := PR_end (r := σ 10 7) (k := σ 10 8) (w := σ 10 9) (ab := σ 12) (un := σ 13) hq (by omega)
    refine ok_aload_n 0 rfl rfl rfl (ok_getI 1 rfl rfl fl_X10_25 rfl rfl (Or.inl rfl) (ok_if_ne 2 23 rfl rfl rfl (fun h4 => ?_) (fun h4 => ?_)))
    · exact absurd hf h4
    · refine ok_aload_n 3 rfl rfl rfl (ok_getI 4 rfl rfl fl_X10_37 rfl rfl (Or.inl rfl) (ok_if_le 5 23 rfl rfl rfl (fun h11 => ?_) (fun h11 => ?_)))
      · refine ok_aload_n 11 rfl rfl rfl (ok_getI 12 rfl rfl fl_X10_25 rfl rfl (Or.inl rfl) (ok_if_ne 13 50 rfl rfl rfl (fun h27 => ?_) (fun h27 => ?_)))
        · exact absurd hf h27
        · refine ok_aload_n 14 rfl rfl rfl (ok_getI 15 rfl rfl fl_X10_34 rfl rfl (Or.inl rfl) (ok_aload_n 16 rfl rfl rfl (ok_getI 17 rfl rfl fl_X10_40 rfl rfl (Or.inl rfl) (ok_icmp_eq 18 50 rfl rfl rfl (fun h38 => ?_) (fun h38 => ?_)))))
          · refine ok_vret 24 rfl rfl rfl ?_
            refine ⟨rfl, ⟨fr.rf, h⟩, fun _ => by omega, Or.inr ⟨hf, ?_, fun _ => rfl, fun q => absurd hf q⟩⟩
            unfold PA; rw [hP, if_neg (by omega), if_neg (by omega), hf]
          · refine ok_aload_n 19 rfl rfl rfl (ok_iconst 20 rfl rfl (by decide) (ok_aload_n 21 rfl rfl rfl (ok_getI 22 rfl rfl fl_X10_21 rfl rfl (Or.inl rfl) (ok_callVV (M' := M_Tp_fail) (as := [_, _]) 23 rfl rfl ml_X10_75 (s_Tp_fail) rfl rfl (Nat.le_of_ble_eq_true rfl) ⟨Nat.le_of_ble_eq_true rfl, Nat.le_of_ble_eq_true rfl⟩ rfl (Nat.le_of_ble_eq_true rfl) (fun σ' hz => ?_)))))
            rw [hz]
            clear hz σ'
            refine ok_vret 24 rfl rfl rfl ?_
            refine ⟨rfl, QJ_D h (QD_f h0 _ _), fun w => absurd w (by simp [up_if]), Or.inr ⟨hf, ?_, fun w => absurd w (by simp [up_if]), fun _ => ?_⟩⟩
            · unfold PA; rw [hP, if_neg (by omega), if_pos (by omega)]; simp [up_if]
            · unfold PA; rw [hP, if_neg (by omega), if_pos (by omega)]; simp [up_if]
      · refine ok_aload_n 6 rfl rfl rfl (ok_iconst 7 rfl rfl (by decide) (ok_aload_n 8 rfl rfl rfl (ok_getI 9 rfl rfl fl_X10_21 rfl rfl (Or.inl rfl) (ok_callVV (M' := M_Tp_fail) (as := [_, _]) 10 rfl rfl ml_X10_75 (s_Tp_fail) rfl rfl (Nat.le_of_ble_eq_true rfl) ⟨Nat.le_of_ble_eq_true rfl, Nat.le_of_ble_eq_true rfl⟩ rfl (Nat.le_of_ble_eq_true rfl) (fun σ' hz => ?_)))))
        rw [hz]
        clear hz σ'
        have e4 : (up (up σ 10 4 1) 10 5 (σ 10 3)) 10 4 = 1 := by simp [up_if]
        refine ok_aload_n 11 rfl rfl rfl (ok_getI 12 rfl rfl fl_X10_25 rfl rfl (Or.inl rfl) (ok_if_ne 13 50 rfl rfl rfl (fun h27 => ?_) (fun h27 => ?_)))
        · refine ok_vret 24 rfl rfl rfl ?_
          refine ⟨rfl, QJ_D h (QD_f h0 _ _), fun w => absurd w (by simp [up_if]), Or.inr ⟨hf, ?_, fun w => absurd w (by simp [up_if]), fun _ => ?_⟩⟩
          · unfold PA; rw [hP, if_pos (by omega)]; simp [up_if]
          · unfold PA; rw [hP, if_pos (by omega)]; simp [up_if]
        · exact absurd h27 (by rw [e4]; decide)
  · refine ok_aload_n 0 rfl rfl rfl (ok_getI 1 rfl rfl fl_X10_25 rfl rfl (Or.inl rfl) (ok_if_ne 2 23 rfl rfl rfl (fun h4 => ?_) (fun h4 => ?_)))
    · refine ok_aload_n 11 rfl rfl rfl (ok_getI 12 rfl rfl fl_X10_25 rfl rfl (Or.inl rfl) (ok_if_ne 13 50 rfl rfl rfl (fun h27 => ?_) (fun h27 => ?_)))
      · refine ok_vret 24 rfl rfl rfl ?_
        exact ⟨rfl, ⟨fr.rf, h⟩, fun w => absurd w hf, Or.inl ⟨hf, rfl⟩⟩
      · exact absurd h27 hf
    · exact absurd h4 hf
end
section
def lcS (a b l : Int) : Int := if a < 1 ∨ b < 1 then -1 else if l < a / (Int.gcd a b : Int) * b then -1 else a / (Int.gcd a b : Int) * b
theorem t_Nu_leastMultiple {σ : eS} {a b l : Int} (ha : a ≤ 9999999999) (hb : b ≤ 9999999999) (hl : 1 ≤ l ∧ l ≤ 9999999999) : MtL shA M_Nu_leastMultiple [vl a, vl b, vl l] σ (fun σ' z => σ' = σ ∧ z = lcS a b l ∧ (z = -1 ∨ (1 ≤ z ∧ z ≤ l))) := by
  refine Mt.of okM_Nu_leastMultiple (Nat.le_of_ble_eq_true rfl) (fun hk hg => ?_)
  refine ok_lload_n 0 rfl rfl rfl (ok_lconst (w := 1) 1 rfl rfl rfl (by decide) (ok_lcmp_lt 2 3 12 rfl rfl rfl rfl rfl (fun h2 => ?_) (fun h2 => ?_)))
  · refine ok_ldc2 8 (-1) rfl rfl kc_X4_9 (by decide) (ok_lret 9 rfl rfl rfl ?_)
    exact ⟨_, rfl, rfl, by unfold lcS; rw [if_pos (by omega)], Or.inl rfl⟩
  · refine ok_lload_n 4 rfl rfl rfl (ok_lconst (w := 1) 5 rfl rfl rfl (by decide) (ok_lcmp_ge 6 7 16 rfl rfl rfl rfl rfl (fun h8 => ?_) (fun h8 => ?_)))
    · obtain ⟨g1, g2⟩ := gcd_pos (a := a) (b := b) (by omega)
      have hs : lcS a b l = if l < a / (Int.gcd a b : Int) * b then -1 else a / (Int.gcd a b : Int) * b := by unfold lcS; rw [if_neg (by omega)]
      obtain ⟨g, eg⟩ : ∃ g : Int, g = (Int.gcd a b : Int) := ⟨_, rfl⟩
      rw [← eg] at g1 g2 hs
      have d1 := gcd_div (u := a) (g := g) (by omega) g1 g2
      have d2 := div_bd (u := l) (g := b) (B := 9999999999) ⟨by omega, by omega⟩ (by omega)
      refine ok_lload_n 10 rfl rfl rfl (ok_lload_n 11 rfl rfl rfl (ok_lload_n 12 rfl rfl rfl (ok_callSL (M' := M_Nu_greatestDivisor) (as := [_, _]) 13 rfl rfl ml_X4_11 (s_Nu_greatestDivisor (by omega) ⟨by omega, by omega⟩) ⟨Nat.le_of_ble_eq_true rfl, Nat.le_of_ble_eq_true rfl⟩ rfl (Nat.le_of_ble_eq_true rfl) (fun σ' z hz => ?_))))
      rw [hz.1, hz.2]
      clear hz z σ'
      rw [← eg]
      refine ok_ldiv 14 rfl rfl (by first | omega | (simp [up_if]; omega) | (simp [up_if] at *; omega)) (by first | omega | (simp [up_if]; omega) | (simp [up_if] at *; omega)) (ok_lst6 15 rfl rfl rfl (ok_lload 16 rfl rfl rfl (ok_lload 17 rfl rfl rfl (ok_lload_n 18 rfl rfl rfl (ok_ldiv 19 rfl rfl (by first | omega | (simp [up_if]; omega) | (simp [up_if] at *; omega)) (by first | omega | (simp [up_if]; omega) | (simp [up_if] at *; omega)) (ok_lcmp_le 20 21 41 rfl rfl rfl rfl rfl (fun h31 => ?_) (fun h31 => ?_)))))))
      · have m : b * (a / g) ≤ l := mul_le_div (by omega) (by omega)
        rw [Int.mul_comm] at m
        have m1 : 1 * 1 ≤ a / g * b := Int.mul_le_mul (by omega) (by omega) (by decide) (by omega)
        refine ok_lload 24 rfl rfl rfl (ok_lload_n 25 rfl rfl rfl (ok_lmul 26 rfl rfl (by first | omega | (simp [up_if]; omega) | (simp [up_if] at *; omega)) (ok_lret 27 rfl rfl rfl ?_)))
        exact ⟨_, rfl, rfl, by rw [hs, if_neg (by omega)], Or.inr ⟨by omega, by omega⟩⟩
      · refine ok_ldc2 22 (-1) rfl rfl kc_X4_9 (by decide) (ok_goto 23 45 rfl rfl rfl (ok_lret 27 rfl rfl rfl ?_))
        refine ⟨_, rfl, rfl, ?_, Or.inl rfl⟩
        rw [hs]
        rw [if_pos]
        rcases (by omega : l < a / g * b ∨ a / g * b ≤ l) with q | q
        · exact q
        · have := Int.le_ediv_of_mul_le (by omega : 0 < b) q
          omega
    · refine ok_ldc2 8 (-1) rfl rfl kc_X4_9 (by decide) (ok_lret 9 rfl rfl rfl ?_)
      exact ⟨_, rfl, rfl, by unfold lcS; rw [if_pos (by omega)], Or.inl rfl⟩
/-- the common number below, row by row; -1: beyond -/
def cbR (un : Int → Int) (i v : Int) : Nat → Int
  | 0 => v
  | j + 1 => lcS (cbR un i v j) (un (i * 8 + j)) 999999
def cbC (un : Int → Int) (n : Nat) : Nat → Int
  | 0 => 1
  | i + 1 => cbR un i (cbC un n i) n
theorem cbR_s {un : Int → Int} {i v j : Int} (h : 0 ≤ j) : cbR un i v (j + 1).toNat = lcS (cbR un i v j.toNat) (un (i * 8 + j)) 999999 := by
  rw [show (j + 1).toNat = j.toNat + 1 by omega, cbR, show ((j.toNat : Nat) : Int) = j by omega]
theorem cbC_s {un : Int → Int} {n : Nat} {i : Int} (h : 0 ≤ i) : cbC un n (i + 1).toNat = cbR un i (cbC un n i.toNat) n := by
  rw [show (i + 1).toNat = i.toNat + 1 by omega, cbC, show ((i.toNat : Nat) : Int) = i by omega]
theorem t_Tp_commonBelow {σ : eS} (h : uRA σ) : MtI shA M_Tp_commonBelow [vr 10] σ (fun σ' z => σ' = σ ∧ z = cbC (σ 13) (σ 10 7).toNat (σ 10 7).toNat ∧ (z = -1 ∨ (1 ≤ z ∧ z ≤ 999999))) := by
  refine Mt.of okM_Tp_commonBelow (Nat.le_of_ble_eq_true rfl) (fun hk hg => ?_)
  obtain ⟨h1, h2, hu⟩ := h
  refine ok_lconst (w := 1) 0 rfl rfl rfl (by decide) (ok_lst1 1 rfl rfl rfl (ok_iconst 2 rfl rfl (by decide) (ok_ist3 3 rfl rfl rfl ?_)))
  refine lpO2 (fun (v i : Int) => [some (vr 10), some (vl v), none, some (vi i), none]) (fun _ _ => σ) (fun v i => 0 ≤ i ∧ i ≤ σ 10 7 ∧ (v = -1 ∨ (1 ≤ v ∧ v ≤ 999999)) ∧ v = cbC (σ 13) (σ 10 7).toNat i.toNat) (fun _ i => (8 - i).toNat) ?_ 1 0 ⟨by omega, by omega, by omega, rfl⟩
  rintro v i ⟨i1, i2, hv, ev⟩ ih
  refine ok_iload_n 4 rfl rfl rfl (ok_aload_n 5 rfl rfl rfl (ok_getI 6 rfl rfl fl_X10_34 rfl rfl (Or.inl rfl) (ok_icmp_ge 7 57 rfl rfl rfl (fun h9 => ?_) (fun h9 => ?_))))
  · refine ok_lload_n 31 rfl rfl rfl (ok_l2i 32 rfl rfl (by first | omega | (simp [up_if]; omega) | (simp [up_if] at *; omega)) (ok_iret 33 rfl rfl rfl ?_))
    exact ⟨_, rfl, rfl, by rw [ev, show i = σ 10 7 by omega], hv⟩
  · refine ok_iconst 8 rfl rfl (by decide) (ok_ist4 9 rfl rfl rfl ?_)
    refine lpO2 (fun (v' j : Int) => [some (vr 10), some (vl v'), none, some (vi i), some (vi j)]) (fun _ _ => σ) (fun v' j => 0 ≤ j ∧ j ≤ σ 10 7 ∧ (v' = -1 ∨ (1 ≤ v' ∧ v' ≤ 999999)) ∧ v' = cbR (σ 13) i v j.toNat) (fun _ j => (8 - j).toNat) ?_ v 0 ⟨by omega, by omega, hv, rfl⟩
    rintro v' j ⟨j1, j2, hv', ev'⟩ ih2
    refine ok_iload 10 rfl rfl rfl (ok_aload_n 11 rfl rfl rfl (ok_getI 12 rfl rfl fl_X10_34 rfl rfl (Or.inl rfl) (ok_icmp_ge 13 51 rfl rfl rfl (fun h21 => ?_) (fun h21 => ?_))))
    · refine ok_inc3 29 rfl rfl rfl (by first | omega | (simp [up_if]; omega) | (simp [up_if] at *; omega)) (ok_goto 30 4 rfl rfl rfl ?_)
      exact ok_fg [some (vr 10), some (vl v'), none, some (vi (i + 1)), none] ⟨rfl, rfl, rfl, trivial⟩ (ih v' (i + 1) ⟨by omega, by omega, hv', by rw [cbC_s i1, ← ev, ev', show j = σ 10 7 by omega]⟩ (by omega))
    · have hk := hu i j i1 (by omega) j1 (by omega)
      obtain ⟨u1, u2, -⟩ := hk
      refine ok_lload_n 14 rfl rfl rfl (ok_aload_n 15 rfl rfl rfl (ok_getR 16 rfl rfl fl_X10_18 rfl rfl (ok_iload_n 17 rfl rfl rfl (ok_bipush 18 rfl rfl (by decide) (by decide) (ok_imul 19 rfl rfl (by first | omega | (simp [up_if]; omega) | (simp [up_if] at *; omega)) (ok_iload 20 rfl rfl rfl (ok_iadd 21 rfl rfl (by first | omega | (simp [up_if]; omega) | (simp [up_if] at *; omega)) (ok_iald 22 rfl rfl rfl (by first | omega | (simp [up_if]; omega) | (simp [up_if] at *; omega)) (ok_i2l 23 rfl rfl (ok_ldc2 24 (999999) rfl rfl kc_X10_113 (by decide) (ok_callSL (M' := M_Nu_leastMultiple) (as := [_, _, _]) 25 rfl rfl ml_X10_115 (t_Nu_leastMultiple (by omega) (by omega) ⟨by omega, by omega⟩) ⟨Nat.le_of_ble_eq_true rfl, Nat.le_of_ble_eq_true rfl⟩ rfl (Nat.le_of_ble_eq_true rfl) (fun σ' z hz => ?_))))))))))))
      obtain ⟨hs_, hz⟩ := hz
      rw [hs_]; clear hs_ σ'
      refine ok_lst1 26 rfl rfl rfl (ok_inc4 27 rfl rfl rfl (by first | omega | (simp [up_if]; omega) | (simp [up_if] at *; omega)) (ok_goto 28 15 rfl rfl rfl ?_))
      exact ih2 _ (j + 1) ⟨by omega, by omega, hz.2, by rw [cbR_s j1, ← ev']; exact hz.1⟩ (by omega)
def cOk (ab un : Int → Int) (b n : Int) : Prop := ∀ i j, 0 ≤ i → i < n → 0 ≤ j → j < n → ab (i * 8 + j) * (b / un (i * 8 + j)) ≤ 99999999
theorem t_Tp_areCells {σ : eS} {b : Int} (h : uRA σ) (hb : 1 ≤ b ∧ b ≤ 999999) : MtI shA M_Tp_areCells [vr 10, vi b] σ (fun σ' z => σ' = σ ∧ ((z = 0 ∧ ¬ cOk (σ 12) (σ 13) b (σ 10 7)) ∨ (z = 1 ∧ cOk (σ 12) (σ 13) b (σ 10 7)))) := by
  refine Mt.of okM_Tp_areCells (Nat.le_of_ble_eq_true rfl) (fun hk hg => ?_)
  obtain ⟨h1, h2, hu⟩ := h
  refine ok_iconst 0 rfl rfl (by decide) (ok_ist2 1 rfl rfl rfl ?_)
  refine lpO (fun (i : Int) => [some (vr 10), some (vi b), some (vi i), none, none]) (fun _ => σ) (fun i => 0 ≤ i ∧ i ≤ σ 10 7 ∧ ∀ i', 0 ≤ i' → i' < i → ∀ j, 0 ≤ j → j < σ 10 7 → σ 12 (i' * 8 + j) * (b / σ 13 (i' * 8 + j)) ≤ 99999999) (fun i => (8 - i).toNat) ?_ 0 ⟨by omega, by omega, fun i' a c => by omega⟩
  rintro i ⟨i1, i2, hv⟩ ih
  refine ok_iload_n 2 rfl rfl rfl (ok_aload_n 3 rfl rfl rfl (ok_getI 4 rfl rfl fl_X10_34 rfl rfl (Or.inl rfl) (ok_icmp_ge 5 68 rfl rfl rfl (fun h7 => ?_) (fun h7 => ?_))))
  · refine ok_iconst 40 rfl rfl (by decide) (ok_zret 41 rfl rfl rfl (by first | omega | (simp [up_if]; omega) | (simp [up_if] at *; omega)) ?_)
    exact ⟨_, rfl, rfl, Or.inr ⟨rfl, fun i' j a c d e => hv i' a (by omega) j d e⟩⟩
  · refine ok_iconst 6 rfl rfl (by decide) (ok_ist3 7 rfl rfl rfl ?_)
    refine lpO (fun (j : Int) => [some (vr 10), some (vi b), some (vi i), some (vi j), none]) (fun _ => σ) (fun j => 0 ≤ j ∧ j ≤ σ 10 7 ∧ ∀ j', 0 ≤ j' → j' < j → σ 12 (i * 8 + j') * (b / σ 13 (i * 8 + j')) ≤ 99999999) (fun j => (8 - j).toNat) ?_ 0 ⟨by omega, by omega, fun j' a c => by omega⟩
    rintro j ⟨j1, j2, hw⟩ ih2
    refine ok_iload_n 8 rfl rfl rfl (ok_aload_n 9 rfl rfl rfl (ok_getI 10 rfl rfl fl_X10_34 rfl rfl (Or.inl rfl) (ok_icmp_ge 11 62 rfl rfl rfl (fun h17 => ?_) (fun h17 => ?_))))
    · refine ok_inc2 38 rfl rfl rfl (by first | omega | (simp [up_if]; omega) | (simp [up_if] at *; omega)) (ok_goto 39 2 rfl rfl rfl ?_)
      exact ok_fg [some (vr 10), some (vi b), some (vi (i + 1)), none, none] ⟨rfl, rfl, rfl, trivial⟩ (ih (i + 1) ⟨by omega, by omega, lt_ext hv (fun j' a c => hw j' a (by omega))⟩ (by omega))
    · obtain ⟨u1, u2, u3, u4⟩ := hu i j i1 (by omega) j1 (by omega)
      have d := div_bd (u := b) (g := σ 13 (i * 8 + j)) (B := 999999) ⟨by omega, by omega⟩ u1
      have m := mul_bd (a := σ 12 (i * 8 + j)) (b := b / σ 13 (i * 8 + j)) (A := 999999) (B := 999999) ⟨u3, u4⟩ d
      refine ok_iload_n 12 rfl rfl rfl (ok_bipush 13 rfl rfl (by decide) (by decide) (ok_imul 14 rfl rfl (by first | omega | (simp [up_if]; omega) | (simp [up_if] at *; omega)) (ok_iload_n 15 rfl rfl rfl (ok_iadd 16 rfl rfl (by first | omega | (simp [up_if]; omega) | (simp [up_if] at *; omega)) (ok_ist4 17 rfl rfl rfl (ok_aload_n 18 rfl rfl rfl (ok_getR 19 rfl rfl fl_X10_15 rfl rfl (ok_iload 20 rfl rfl rfl (ok_iald 21 rfl rfl rfl (by first | omega | (simp [up_if]; omega) | (simp [up_if] at *; omega)) (ok_i2l 22 rfl rfl (ok_iload_n 23 rfl rfl rfl (ok_aload_n 24 rfl rfl rfl (ok_getR 25 rfl rfl fl_X10_18 rfl rfl (ok_iload 26 rfl rfl rfl (ok_iald 27 rfl rfl rfl (by first | omega | (simp [up_if]; omega) | (simp [up_if] at *; omega)) (ok_idiv 28 rfl rfl (by first | omega | (simp [up_if]; omega) | (simp [up_if] at *; omega)) (by first | omega | (simp [up_if]; omega) | (simp [up_if] at *; omega)) (ok_i2l 29 rfl rfl (ok_lmul 30 rfl rfl (by first | omega | (simp [up_if]; omega) | (simp [up_if] at *; omega)) (ok_ldc2 31 (99999999) rfl rfl kc_X10_119 (by decide) (ok_lcmp_le 32 33 56 rfl rfl rfl rfl rfl (fun h50 => ?_) (fun h50 => ?_)))))))))))))))))))))
      · refine ok_inc3 36 rfl rfl rfl (by first | omega | (simp [up_if]; omega) | (simp [up_if] at *; omega)) (ok_goto 37 12 rfl rfl rfl ?_)
        exact ok_fg [some (vr 10), some (vi b), some (vi i), some (vi (j + 1)), none] ⟨rfl, rfl, rfl, rfl, trivial⟩ (ih2 (j + 1) ⟨by omega, by omega, lt_ext hw (by omega)⟩ (by omega))
      · refine ok_iconst 34 rfl rfl (by decide) (ok_zret 35 rfl rfl rfl (by first | omega | (simp [up_if]; omega) | (simp [up_if] at *; omega)) ?_)
        exact ⟨_, rfl, rfl, Or.inl ⟨rfl, fun q => by have := q i j i1 (by omega) j1 (by omega); omega⟩⟩
end
section
abbrev cbA (σ : eS) : Int := cbC (σ 13) (σ 10 7).toNat (σ 10 7).toNat
def FI (t : Nat) (σ σ' : eS) : Prop := (σ 10 4 ≠ 0 ∧ σ' = σ) ∨ (σ 10 4 = 0 ∧ (cbA σ = -1 ∨ ¬ cOk (σ 12) (σ 13) (cbA σ) (σ 10 7)) ∧ σ' = up (up σ 10 4 6) 10 5 (σ 10 3)) ∨ (σ 10 4 = 0 ∧ 1 ≤ cbA σ ∧ cbA σ ≤ 999999 ∧ cOk (σ 12) (σ 13) (cbA σ) (σ 10 7) ∧ (∀ k, σ' 10 k = σ 10 k) ∧ σ' t 1 = σ 10 7 ∧ σ' t 2 = cbA σ ∧ (σ' t 4 = 0 ∧ σ' t 6 = 0) ∧ ∀ i j, 0 ≤ i → i < σ 10 7 → 0 ≤ j → j < σ 10 7 → σ' (t + 4) (i * 8 + j) = σ 12 (i * 8 + j) * (cbA σ / σ 13 (i * 8 + j)))
theorem t_Tp_fill {σ : eS} {t : Nat} (ht : tA t) (h : RA σ) (hw : σ 10 4 = 0 → σ 10 7 = σ 10 9) (hT : iT σ t) (hM : mT σ t) : MtV shA M_Tp_fill [vr 10, vr t] σ (fun σ' => fr (rgFi t) σ σ' ∧ iT σ' t ∧ mT σ' t ∧ FI t σ σ') := by
  refine Mt.of okM_Tp_fill (Nat.le_of_ble_eq_true rfl) (fun hk hg => ?_)
  obtain ⟨n1, n2, n3, n4, n5, n6, n7, n8, n9, nA⟩ := tA_10 ht
  obtain ⟨p0, p1, p2, p3, p4, p5, p6, p7, p8, p9⟩ := id h
  have bad : σ 10 4 = 0 → (cbA σ = -1 ∨ ¬ cOk (σ 12) (σ 13) (cbA σ) (σ 10 7)) → fr (rgFi t) σ (up (up σ 10 4 6) 10 5 (σ 10 3)) ∧ iT (up (up σ 10 4 6) 10 5 (σ 10 3)) t ∧ mT (up (up σ 10 4 6) 10 5 (σ 10 3)) t ∧ FI t σ (up (up σ 10 4 6) 10 5 (σ 10 3)) := fun q0 q =>
    ⟨fr_up (fr_up fr.rf (by simp [rgFi])) (by simp [rgFi]), (iT_cg hT (by rw [up_ne _ _ _ _ n1, up_ne _ _ _ _ n1]) (by rw [up_ne _ _ _ _ n1, up_ne _ _ _ _ n1]) (fun k => by rw [up_ne _ _ _ _ n2, up_ne _ _ _ _ n2])).1, mT_cg hM (by rw [up_ne _ _ _ _ n1, up_ne _ _ _ _ n1]) (by rw [up_ne _ _ _ _ n1, up_ne _ _ _ _ n1]) (fun k => by rw [up_ne _ _ _ _ n2, up_ne _ _ _ _ n2]), Or.inr (Or.inl ⟨q0, q, rfl⟩)⟩
  refine ok_aload_n 0 rfl rfl rfl (ok_getI 1 rfl rfl fl_X10_25 rfl rfl (Or.inl rfl) (ok_if_eq 2 8 rfl rfl rfl (fun h4 => ?_) (fun h4 => ?_)))
  · have hr : uRA σ := ⟨p1, p2, fun i j a b c d => p7 i j a b c (by have := hw (by omega); omega)⟩
    refine ok_aload_n 4 rfl rfl rfl (ok_callVI (M' := M_Tp_commonBelow) (as := []) 5 rfl rfl ml_X10_101 (t_Tp_commonBelow hr) rfl rfl (Nat.le_of_ble_eq_true rfl) ⟨Nat.le_of_ble_eq_true rfl, Nat.le_of_ble_eq_true rfl⟩ rfl (Nat.le_of_ble_eq_true rfl) (fun σ' b hb => ?_))
    obtain ⟨hs_, hb⟩ := hb
    rw [hs_]; clear hs_ σ'
    refine ok_ist2 6 rfl rfl rfl (ok_iload_n 7 rfl rfl rfl (ok_iconst 8 rfl rfl (by decide) (ok_icmp_eq 9 26 rfl rfl rfl (fun h15 => ?_) (fun h15 => ?_))))
    · refine ok_aload_n 14 rfl rfl rfl (ok_bipush 15 rfl rfl (by decide) (by decide) (ok_aload_n 16 rfl rfl rfl (ok_getI 17 rfl rfl fl_X10_21 rfl rfl (Or.inl rfl) (ok_callVV (M' := M_Tp_fail) (as := [_, _]) 18 rfl rfl ml_X10_75 (s_Tp_fail) rfl rfl (Nat.le_of_ble_eq_true rfl) ⟨Nat.le_of_ble_eq_true rfl, Nat.le_of_ble_eq_true rfl⟩ rfl (Nat.le_of_ble_eq_true rfl) (fun σ' hz => ?_)))))
      rw [hz]
      clear hz σ'
      refine ok_vret 19 rfl rfl rfl ?_
      exact ⟨rfl, bad (by omega) (Or.inl (by have hbb : b = cbA σ := hb.1; omega))⟩
    · have hb1 : 1 ≤ b ∧ b ≤ 999999 := by omega
      refine ok_aload_n 10 rfl rfl rfl (ok_iload_n 11 rfl rfl rfl (ok_callVI (M' := M_Tp_areCells) (as := [_]) 12 rfl rfl ml_X10_104 (t_Tp_areCells hr hb1) rfl rfl (Nat.le_of_ble_eq_true rfl) ⟨Nat.le_of_ble_eq_true rfl, Nat.le_of_ble_eq_true rfl⟩ rfl (Nat.le_of_ble_eq_true rfl) (fun σ' z hz => ?_)))
      obtain ⟨hs_, hz⟩ := hz
      rw [hs_]; clear hs_ σ'
      refine ok_if_ne 13 37 rfl rfl rfl (fun h23 => ?_) (fun h23 => ?_)
      · refine ok_iconst 20 rfl rfl (by decide) (ok_ist3 21 rfl rfl rfl ?_)
        have hm : cOk (σ 12) (σ 13) b (σ 10 7) := by
          rcases hz with q | q
          · exact absurd q.1 h23
          · exact q.2
        have eb : b = cbA σ := hb.1
        clear hz hb bad
        refine lpO2 (fun (i : Int) (_ : eS) => [some (vr 10), some (vr t), some (vi b), some (vi i), none, none]) (fun _ ρ => ρ) (fun i ρ => 0 ≤ i ∧ i ≤ σ 10 7 ∧ fr (fun c _ => c = t + 4) σ ρ ∧ (∀ k, 0 ≤ k → k < 64 → 0 ≤ ρ (t + 4) k ∧ ρ (t + 4) k ≤ 99999999) ∧ ∀ x y, 0 ≤ x → x < i → 0 ≤ y → y < σ 10 7 → ρ (t + 4) (x * 8 + y) = σ 12 (x * 8 + y) * (b / σ 13 (x * 8 + y))) (fun i _ => (8 - i).toNat) ?_ 0 σ ⟨by omega, by omega, fr.rf, hT.2.2.2, fun x y a b => by omega⟩
        rintro i ρ ⟨i1, i2, f, hc, hx⟩ ih
        have e7 : ρ 10 7 = σ 10 7 := f 10 7 (by omega)
        refine ok_iload_n 22 rfl rfl rfl (ok_aload_n 23 rfl rfl rfl (ok_getI 24 rfl rfl fl_X10_34 rfl rfl (Or.inl rfl) (ok_icmp_ge 25 104 rfl rfl rfl (fun h44 => ?_) (fun h44 => ?_))))
        · refine ok_aload_n 57 rfl rfl rfl (ok_aload_n 58 rfl rfl rfl (ok_getI 59 rfl rfl fl_X10_34 rfl rfl (Or.inl rfl) (ok_iload_n 60 rfl rfl rfl (ok_callVV (M' := M_Ta_settle) (as := [_, _]) 61 rfl rfl ml_X10_110 (s_Ta_settle ht ⟨by omega, by omega⟩ (by omega) hc) (sT ht) rfl (Nat.le_of_ble_eq_true rfl) ⟨Nat.le_of_ble_eq_true rfl, Nat.le_of_ble_eq_true rfl⟩ rfl (Nat.le_of_ble_eq_true rfl) (fun τ hz => ?_)))))
          refine ok_vret 62 rfl rfl rfl ?_
          refine ⟨rfl, (f.mono (fun c k q => by simp only [rgFi]; omega)).tr (hz.1.mono (fun c k q => by simp only [rgT1, rgFi] at q ⊢; omega)), hz.2.1, hz.2.2.1, Or.inr (Or.inr ⟨by omega, by omega, by omega, by rw [← eb]; exact hm, fun k => ?_, by rw [hz.2.2.2.1, e7], by rw [hz.2.2.2.2.1]; omega, ⟨hz.2.2.2.2.2.1, hz.2.2.2.2.2.2⟩, fun x y xa xb ya yb => ?_⟩)⟩
          · rw [hz.1 10 k (by simp only [rgT1]; omega), f 10 k (by omega)]
          · rw [hz.1 (t + 4) _ (by simp only [rgT1]; omega), hx x y xa (by omega) ya yb, eb]
        · refine ok_iconst 26 rfl rfl (by decide) (ok_ist4 27 rfl rfl rfl ?_)
          refine lpO2 (fun (j : Int) (_ : eS) => [some (vr 10), some (vr t), some (vi b), some (vi i), some (vi j), none]) (fun _ ρ => ρ) (fun j ρ => 0 ≤ j ∧ j ≤ σ 10 7 ∧ fr (fun c _ => c = t + 4) σ ρ ∧ (∀ k, 0 ≤ k → k < 64 → 0 ≤ ρ (t + 4) k ∧ ρ (t + 4) k ≤ 99999999) ∧ (∀ x y, 0 ≤ x → x < i → 0 ≤ y → y < σ 10 7 → ρ (t + 4) (x * 8 + y) = σ 12 (x * 8 + y) * (b / σ 13 (x * 8 + y))) ∧ ∀ y, 0 ≤ y → y < j → ρ (t + 4) (i * 8 + y) = σ 12 (i * 8 + y) * (b / σ 13 (i * 8 + y))) (fun j _ => (8 - j).toNat) ?_ 0 ρ ⟨by omega, by omega, f, hc, hx, fun y a b => by omega⟩
          have il : i < σ 10 7 := by omega
          clear f hc hx e7 h44 ρ
          rintro j ρ ⟨j1, j2, f, hc, hx, hy⟩ ih2
          have e7 : ρ 10 7 = σ 10 7 := f 10 7 (by omega)
          have e12 : ∀ k, ρ 12 k = σ 12 k := fun k => f 12 k (by omega)
          have e13 : ∀ k, ρ 13 k = σ 13 k := fun k => f 13 k (by omega)
          refine ok_iload 28 rfl rfl rfl (ok_aload_n 29 rfl rfl rfl (ok_getI 30 rfl rfl fl_X10_34 rfl rfl (Or.inl rfl) (ok_icmp_ge 31 98 rfl rfl rfl (fun h56 => ?_) (fun h56 => ?_))))
          · refine ok_inc3 55 rfl rfl rfl (by first | omega | (simp [up_if]; omega) | (simp [up_if] at *; omega)) (ok_goto 56 39 rfl rfl rfl ?_)
            refine ok_fg [some (vr 10), some (vr t), some (vi b), some (vi (i + 1)), none, none] ⟨rfl, rfl, rfl, rfl, trivial⟩ (ih (i + 1) ρ ⟨by omega, by omega, f, hc, fun x y xa xb ya yb => ?_⟩ (by omega))
            rcases (by omega : x < i ∨ x = i) with q | q
            · exact hx x y xa q ya yb
            · rw [q]; exact hy y ya (by omega)
          · obtain ⟨u1, u2, u3, u4⟩ := hr.2.2 i j i1 il j1 (by omega)
            have d := div_bd (u := b) (g := σ 13 (i * 8 + j)) (B := 999999) ⟨by omega, by omega⟩ u1
            have m0 := Int.mul_nonneg u3 d.1
            have m1 := hm i j i1 il j1 (by omega)
            rw [← e12, ← e13] at m0 m1
            rw [← e13] at u1 u2 d
            refine ok_iload_n 32 rfl rfl rfl (ok_bipush 33 rfl rfl (by decide) (by decide) (ok_imul 34 rfl rfl (by first | omega | (simp [up_if]; omega) | (simp [up_if] at *; omega)) (ok_iload 35 rfl rfl rfl (ok_iadd 36 rfl rfl (by first | omega | (simp [up_if]; omega) | (simp [up_if] at *; omega)) (ok_ist5 37 rfl rfl rfl (ok_aload_n 38 rfl rfl rfl (ok_getR 39 rfl rfl fl_X10_107 (sT ht) rfl (ok_iload 40 rfl rfl rfl (ok_aload_n 41 rfl rfl rfl (ok_getR 42 rfl rfl fl_X10_15 rfl rfl (ok_iload 43 rfl rfl rfl (ok_iald 44 rfl rfl rfl (by first | omega | (simp [up_if]; omega) | (simp [up_if] at *; omega)) (ok_iload_n 45 rfl rfl rfl (ok_aload_n 46 rfl rfl rfl (ok_getR 47 rfl rfl fl_X10_18 rfl rfl (ok_iload 48 rfl rfl rfl (ok_iald 49 rfl rfl rfl (by first | omega | (simp [up_if]; omega) | (simp [up_if] at *; omega)) (ok_idiv 50 rfl rfl (by first | omega | (simp [up_if]; omega) | (simp [up_if] at *; omega)) (by first | omega | (simp [up_if]; omega) | (simp [up_if] at *; omega)) (ok_imul 51 rfl rfl (by first | omega | (simp [up_if]; omega) | (simp [up_if] at *; omega)) (ok_iast 52 rfl rfl (sC ht) (by first | omega | (simp [up_if]; omega) | (simp [up_if] at *; omega)) (ok_inc4 53 rfl rfl rfl (by first | omega | (simp [up_if]; omega) | (simp [up_if] at *; omega)) (ok_goto 54 50 rfl rfl rfl ?_))))))))))))))))))))))
            refine ok_fg [some (vr 10), some (vr t), some (vi b), some (vi i), some (vi (j + 1)), none] ⟨rfl, rfl, rfl, rfl, rfl, trivial⟩ (ih2 (j + 1) _ ⟨by omega, by omega, fr_up f rfl, fun k a c => ?_, fun x y xa xb ya yb => ?_, fun y ya yb => ?_⟩ (by omega))
            · rw [up_if]
              by_cases q : k = i * 8 + j
              · rw [if_pos ⟨rfl, q⟩]; exact ⟨m0, m1⟩
              · rw [if_neg (fun y => q y.2)]; exact hc k a c
            · rw [up_nk _ _ _ _ (by omega)]; exact hx x y xa xb ya yb
            · rcases (by omega : y < j ∨ y = j) with q | q
              · rw [up_nk _ _ _ _ (by omega)]; exact hy y ya q
              · rw [q, up_same, e12, e13]
      · refine ok_aload_n 14 rfl rfl rfl (ok_bipush 15 rfl rfl (by decide) (by decide) (ok_aload_n 16 rfl rfl rfl (ok_getI 17 rfl rfl fl_X10_21 rfl rfl (Or.inl rfl) (ok_callVV (M' := M_Tp_fail) (as := [_, _]) 18 rfl rfl ml_X10_75 (s_Tp_fail) rfl rfl (Nat.le_of_ble_eq_true rfl) ⟨Nat.le_of_ble_eq_true rfl, Nat.le_of_ble_eq_true rfl⟩ rfl (Nat.le_of_ble_eq_true rfl) (fun σ' hz => ?_)))))
        rw [hz]
        clear hz σ'
        refine ok_vret 19 rfl rfl rfl ?_
        refine ⟨rfl, bad (by omega) (Or.inr (fun q => ?_))⟩
        have e := hb.1
        rcases hz with w | w
        · exact w.2 (by rw [e]; exact q)
        · omega
  · refine ok_vret 3 rfl rfl rfl ?_
    exact ⟨rfl, fr.rf, hT, hM, Or.inl ⟨by omega, rfl⟩⟩
end
