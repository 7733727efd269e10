theorem ok_inegW {sh : eSh} {M : eM} {pc pc' : Nat} {ls : List (Option eV)} {st : List eV} {σ : eS} {Q : eS → Option eV → Prop} (i : Nat) {a : Int} (hd : nth (eTab M) i = some (pc, .ineg, pc')) (hn : pc + 1 = pc') (k : Ok sh M pc' ls (vi (wr (-a)) :: st) σ Q) : Ok sh M pc ls (vi a :: st) σ Q := by
  intro l p e s m args below meth c D dA ad H locs la C hH hL hS
  obtain ⟨ha, hs⟩ := hS
  exact lv_ineg C.2.1 C.2.2.1 (C.1.dec hd hn) (Ok.go k C hH hL ⟨rg_wr _, hs⟩ hn (by show Value.int (Int32.ofInt (wr (-a))) :: _ = _; rw [of_wr, Int32.ofInt_neg]))
theorem lv_at5 {j : Int} (h : 0 ≤ j ∧ j < 5) : ([30, 31, 32, 33, 34] : List Nat)[j.toNat]? = some (j.toNat + 30) := by
  rcases (by omega : j = 0 ∨ j = 1 ∨ j = 2 ∨ j = 3 ∨ j = 4) with q | q | q | q | q <;> subst q <;> rfl
theorem lv_pP {j : Int} (h : 0 ≤ j ∧ j < 5) : pP (j.toNat + 30) (j.toNat + 35) := by unfold pP; omega
abbrev rgNS (p : Nat) : Nat → Int → Prop := fun c _ => c = p ∨ c = p + 5 ∨ (16 ≤ c ∧ c ≤ 19) ∨ c = 27
theorem s_Se_isNewStep {σ : eS} {l r : Int} (hl : 0 ≤ l ∧ l ≤ 2) (hr : 0 ≤ r ∧ r ≤ 3) (hC : iCh σ) (hP : iPe σ (l.toNat + 30) (l.toNat + 35)) : MtI shA M_Se_isNewStep [vr 25, vi l, vi r] σ (fun σ' z => fr (rgNS ((l + 1).toNat + 30)) σ σ' ∧ iCh σ' ∧ iPe σ' ((l + 1).toNat + 30) ((l + 1).toNat + 35) ∧ (z = 0 ∨ z = 1) ∧ mkS 1 σ σ') := by
  refine Mt.of okM_Se_isNewStep (Nat.le_of_ble_eq_true rfl) (fun hk hg => ?_)
  have hp := lv_pP (j := l) ⟨by omega, by omega⟩
  have hp' := lv_pP (j := l + 1) ⟨by omega, by omega⟩
  obtain ⟨P, eP⟩ : ∃ P, P = (l + 1).toNat + 30 := ⟨_, rfl⟩
  have eQ : (l + 1).toNat + 35 = P + 5 := by omega
  rw [eQ] at hp' ⊢
  rw [← eP] at hp' ⊢
  have tail : ∀ (τ : eS) (v : Int), fr (rgNS P) σ τ → iCh τ → iPe τ P (P + 5) → mkS 1 σ τ → Ok shA M_Se_isNewStep 40 [some (vr 25), some (vi l), some (vi r), some (vr P), some (vi v), none, none] [] τ (fun σ' x => ∃ z, x = some (vi z) ∧ fr (rgNS P) σ σ' ∧ iCh σ' ∧ iPe σ' P (P + 5) ∧ (z = 0 ∨ z = 1) ∧ mkS 1 σ σ') := by
    intro τ v f c h hk0
    refine ok_iload_n 24 rfl rfl rfl (ok_iconst 25 rfl rfl (by decide) (ok_imul 26 rfl rfl (by first | omega | (simp [up_if]; omega) | (simp [up_if] at *; omega)) (ok_ist5 27 rfl rfl rfl (ok_aload_n 28 rfl rfl rfl (ok_getR 29 rfl rfl fl_X7_17 rfl rfl (ok_iload 30 rfl rfl rfl (ok_iload_n 31 rfl rfl rfl (ok_iadd 32 rfl rfl (by first | omega | (simp [up_if]; omega) | (simp [up_if] at *; omega)) (ok_iload 33 rfl rfl rfl (ok_iast 34 rfl rfl rfl (by first | omega | (simp [up_if]; omega) | (simp [up_if] at *; omega)) (ok_iconst 35 rfl rfl (by decide) (ok_ist6 36 rfl rfl rfl ?_))))))))))))
    have f2 : fr (rgNS P) σ (up τ 27 (l * 4 + r) v) := fr_up f (by simp [rgNS])
    have c2 : iCh (up τ 27 (l * 4 + r) v) := iCh_cg c (fun k => up_ne _ _ _ _ (by decide))
    have m2 : mkS 1 σ (up τ 27 (l * 4 + r) v) := (hk0.tr (mkS_cg (N := 0) (by decide) (up_ne _ _ _ _ (by decide)) (fun k => up_ne _ _ _ _ (by decide))) (by decide) (by decide)).mono (by decide)
    have h2 : iPe (up τ 27 (l * 4 + r) v) P (P + 5) := iPe_cg h (up_ne _ _ _ _ (by omega)) (fun k => up_ne _ _ _ _ (by omega))
    refine lpO (fun i : Int => [some (vr 25), some (vi l), some (vi r), some (vr P), some (vi v), some (vi (l * 4)), some (vi i)]) (fun _ => up τ 27 (l * 4 + r) v) (fun i => 0 ≤ i ∧ i ≤ 3) (fun i => (4 - i).toNat) ?_ 0 ⟨by omega, by omega⟩
    rintro i ⟨i1, i2⟩ ih
    refine ok_iload 37 rfl rfl rfl (ok_iload_n 38 rfl rfl rfl (ok_icmp_ge 39 88 rfl rfl rfl (fun h62 => ?_) (fun h62 => ?_)))
    · refine ok_iconst 52 rfl rfl (by decide) (ok_zret 53 rfl rfl rfl (by first | omega | (simp [up_if]; omega) | (simp [up_if] at *; omega)) ?_)
      exact ⟨_, rfl, f2, c2, h2, Or.inr rfl, m2⟩
    · refine ok_aload_n 40 rfl rfl rfl (ok_getR 41 rfl rfl fl_X7_17 rfl rfl (ok_iload 42 rfl rfl rfl (ok_iload 43 rfl rfl rfl (ok_iadd 44 rfl rfl (by first | omega | (simp [up_if]; omega) | (simp [up_if] at *; omega)) (ok_iald 45 rfl rfl rfl (by first | omega | (simp [up_if]; omega) | (simp [up_if] at *; omega)) (ok_iload 46 rfl rfl rfl (ok_icmp_ne 47 82 rfl rfl rfl (fun h77 => ?_) (fun h77 => ?_))))))))
      · refine ok_inc6 50 rfl rfl rfl (by first | omega | (simp [up_if]; omega) | (simp [up_if] at *; omega)) (ok_goto 51 59 rfl rfl rfl ?_)
        exact ih (i + 1) ⟨by omega, by omega⟩ (by omega)
      · refine ok_iconst 48 rfl rfl (by decide) (ok_zret 49 rfl rfl rfl (by first | omega | (simp [up_if]; omega) | (simp [up_if] at *; omega)) ?_)
        exact ⟨_, rfl, f2, c2, h2, Or.inl rfl, m2⟩
  refine ok_aload_n 0 rfl rfl rfl (ok_getR 1 rfl rfl fl_X7_13 rfl rfl (ok_iload_n 2 rfl rfl rfl (ok_iconst 3 rfl rfl (by decide) (ok_iadd 4 rfl rfl (by first | omega | (simp [up_if]; omega) | (simp [up_if] at *; omega)) (ok_aald 5 P rfl rfl rfl (Or.inr rfl) (by omega) (by rw [eP]; exact lv_at5 (by omega)) (ok_ast3 6 rfl rfl rfl (ok_aload_n 7 rfl rfl rfl (ok_aload_n 8 rfl rfl rfl (ok_getR 9 rfl rfl fl_X7_13 rfl rfl (ok_iload_n 10 rfl rfl rfl (ok_aald 11 (l.toNat + 30) rfl rfl rfl (Or.inr rfl) (by omega) (lv_at5 (by omega)) (ok_callVV (M' := M_Pe_startLike) (as := [_]) 12 rfl rfl ml_X7_56 (s_Pe_startLike hp' hp (by omega) (by omega) hP) (sP hp') rfl (Nat.le_of_ble_eq_true rfl) ⟨Nat.le_of_ble_eq_true rfl, Nat.le_of_ble_eq_true rfl⟩ rfl (Nat.le_of_ble_eq_true rfl) (fun τ f => ?_)))))))))))))
  obtain ⟨f1, f2, f3, f4⟩ := f
  have g1 : fr (rgNS P) σ τ := f1.mono (fun c k w => by simp only [rgP0, rgNS] at w ⊢; omega)
  have g2 : iCh τ := iCh_cg hC (fun k => f1 17 k (by simp only [rgP0]; omega))
  have g3 : mkS 0 σ τ := mkS_fr (by decide) f1 (by simp only [rgP0]; omega) (fun k => by simp only [rgP0]; omega)
  refine ok_iconst 13 rfl rfl (by decide) (ok_ist4 14 rfl rfl rfl (ok_aload_n 15 rfl rfl rfl (ok_getI 16 rfl rfl fl_X7_60 (sP hp') rfl (Or.inl rfl) (ok_if_le 17 40 rfl rfl rfl (fun h26 => ?_) (fun h26 => ?_)))))
  · exact tail τ (-1) g1 g2 f2 (g3.mono (by decide))
  · refine ok_aload_n 18 rfl rfl rfl (ok_iload_n 19 rfl rfl rfl (ok_callVV (M' := M_Pe_takePart) (as := [_]) 20 rfl rfl ml_X7_63 (s_Pe_takePart hp' f2 g2) (sP hp') rfl (Nat.le_of_ble_eq_true rfl) ⟨Nat.le_of_ble_eq_true rfl, Nat.le_of_ble_eq_true rfl⟩ rfl (Nat.le_of_ble_eq_true rfl) (fun υ u => ?_)))
    refine ok_aload_n 21 rfl rfl rfl (ok_callVI (M' := M_Pe_choiceNumber) (as := []) 22 rfl rfl ml_X7_67 (s_Pe_choiceNumber hp' u.2.1) (sP hp') rfl (Nat.le_of_ble_eq_true rfl) ⟨Nat.le_of_ble_eq_true rfl, Nat.le_of_ble_eq_true rfl⟩ rfl (Nat.le_of_ble_eq_true rfl) (fun σ' v hv => ?_))
    obtain ⟨hs_, hv⟩ := hv
    rw [hs_]; clear hs_ σ'
    refine ok_ist4 23 rfl rfl rfl ?_
    exact tail υ v (g1.tr (u.1.mono (fun c k w => by simp only [rgPe, rgNS] at w ⊢; omega))) u.2.2.1 u.2.1 ((g3.tr u.2.2.2.2.2.2 (by decide) (by decide)).mono (by decide))
abbrev rgFin (t : Nat) : Nat → Int → Prop := fun c k => c = 34 ∨ c = 39 ∨ (16 ≤ c ∧ c ≤ 19) ∨ (c = t ∧ (k = 7 ∨ k = 8))
theorem s_Se_finish {σ : eS} {t : Nat} {w : Int} (ht : tA t) (hC : iCh σ) (hP : iPe σ 33 38) : MtV shA M_Se_finish [vr 25, vr t, vi w] σ (fun σ' => fr (rgFin t) σ σ' ∧ iCh σ' ∧ mkS 256 σ σ') := by
  refine Mt.of okM_Se_finish (Nat.le_of_ble_eq_true rfl) (fun hk hg => ?_)
  have nA := tA_10 ht
  have hp : pP 34 39 := by unfold pP; omega
  have hp3 : pP 33 38 := by unfold pP; omega
  refine ok_aload_n 0 rfl rfl rfl (ok_getR 1 rfl rfl fl_X7_13 rfl rfl (ok_iconst 2 rfl rfl (by decide) (ok_aald 3 34 rfl rfl rfl (Or.inr rfl) (by omega) rfl (ok_ast3 4 rfl rfl rfl (ok_iconst 5 rfl rfl (by decide) (ok_ist4 6 rfl rfl rfl ?_))))))
  refine lpO2 (fun (i : Int) (_ : eS) => [some (vr 25), some (vr t), some (vi w), some (vr 34), some (vi i), none]) (fun _ ρ => ρ) (fun i ρ => 0 ≤ i ∧ i ≤ 4 ∧ fr (rgFin t) σ ρ ∧ iCh ρ ∧ mkS (64 * i) σ ρ) (fun i _ => (4 - i).toNat) ?_ 0 σ ⟨by omega, by omega, fr.rf, hC, mkS_cg (by decide) rfl (fun _ => rfl)⟩
  rintro i ρ ⟨i1, i2, f, c, hk0⟩ ih
  refine ok_iload 7 rfl rfl rfl (ok_iconst 8 rfl rfl (by decide) (ok_icmp_ge 9 108 rfl rfl rfl (fun h13 => ?_) (fun h13 => ?_)))
  · refine ok_vret 55 rfl rfl rfl ?_
    exact ⟨rfl, f, c, hk0.mono (by omega)⟩
  · refine ok_aload_n 10 rfl rfl rfl (ok_aload_n 11 rfl rfl rfl (ok_getR 12 rfl rfl fl_X7_13 rfl rfl (ok_iconst 13 rfl rfl (by decide) (ok_aald 14 33 rfl rfl rfl (Or.inr rfl) (by omega) rfl (ok_callVV (M' := M_Pe_startLike) (as := [_]) 15 rfl rfl ml_X7_56 (s_Pe_startLike hp hp3 (by decide) (by decide) (iPe_cg hP (f 33 2 (by simp only [rgFin]; omega)) (fun k => f 38 k (by simp only [rgFin]; omega)))) rfl rfl (Nat.le_of_ble_eq_true rfl) ⟨Nat.le_of_ble_eq_true rfl, Nat.le_of_ble_eq_true rfl⟩ rfl (Nat.le_of_ble_eq_true rfl) (fun τ g => ?_))))))
    refine ok_iconst 16 rfl rfl (by decide) (ok_ist5 17 rfl rfl rfl ?_)
    obtain ⟨g1, g2, g3, g4⟩ := g
    refine lpO2 (fun (j : Int) (_ : eS) => [some (vr 25), some (vr t), some (vi w), some (vr 34), some (vi i), some (vi j)]) (fun _ ρ => ρ) (fun j ρ => 0 ≤ j ∧ j ≤ 64 ∧ fr (rgFin t) σ ρ ∧ iCh ρ ∧ iPe ρ 34 39 ∧ mkS (64 * i + j) σ ρ) (fun j _ => (64 - j).toNat) ?_ 0 τ ⟨by omega, by omega, f.tr (g1.mono (fun c k w => by simp only [rgP0, rgFin] at w ⊢; omega)), iCh_cg c (fun k => g1 17 k (by simp [rgP0])), g2, hk0.tr (mkS_fr (by decide) g1 (by simp [rgP0]) (fun k => by simp [rgP0])) (by omega) (by decide)⟩
    clear g1 g2 g3 g4 hk0 τ f c ρ
    rintro j ρ ⟨j1, j2, f, c, h, hk0⟩ ih2
    refine ok_iload 18 rfl rfl rfl (ok_bipush 19 rfl rfl (by decide) (by decide) (ok_icmp_ge 20 66 rfl rfl rfl (fun h33 => ?_) (fun h33 => ?_)))
    · have t2 : ∀ ρ' : eS, fr (rgFin t) σ ρ' → iCh ρ' → mkS (64 * (i + 1)) σ ρ' → Ok shA M_Se_finish 102 [some (vr 25), some (vr t), some (vi w), some (vr 34), some (vi i), some (vi j)] [] ρ' (fun σ' v => v = none ∧ fr (rgFin t) σ σ' ∧ iCh σ' ∧ mkS 256 σ σ') := by
        intro ρ' f' c' k'
        refine ok_inc4 53 rfl rfl rfl (by first | omega | (simp [up_if]; omega) | (simp [up_if] at *; omega)) (ok_goto 54 10 rfl rfl rfl ?_)
        exact ok_fg [some (vr 25), some (vr t), some (vi w), some (vr 34), some (vi (i + 1)), none] ⟨rfl, rfl, rfl, rfl, rfl, trivial⟩ (ih (i + 1) ρ' ⟨by omega, by omega, f', c', k'⟩ (by omega))
      refine ok_aload_n 34 rfl rfl rfl (ok_getI 35 rfl rfl fl_X7_60 rfl rfl (Or.inl rfl) (ok_if_ne 36 102 rfl rfl rfl (fun h70 => ?_) (fun h70 => ?_)))
      · exact t2 ρ f c (hk0.mono (by omega))
      · refine ok_aload_n 37 rfl rfl rfl (ok_getI 38 rfl rfl fl_X7_71 rfl rfl (Or.inl rfl) (ok_aload_n 39 rfl rfl rfl (ok_getI 40 rfl rfl fl_X7_34 (sT ht) rfl (Or.inl rfl) (ok_icmp_ge 41 102 rfl rfl rfl (fun h81 => ?_) (fun h81 => ?_)))))
        · exact t2 ρ f c (hk0.mono (by omega))
        · refine ok_aload_n 42 rfl rfl rfl (ok_aload_n 43 rfl rfl rfl (ok_getI 44 rfl rfl fl_X7_71 rfl rfl (Or.inl rfl) (ok_putI 45 rfl rfl fl_X7_34 (sT ht) rfl rfl rfl (ok_aload_n 46 rfl rfl rfl (ok_iload_n 47 rfl rfl rfl (ok_iconst 48 rfl rfl (by decide) (ok_imulW 49 rfl rfl (ok_iload 50 rfl rfl rfl (ok_iaddW 51 rfl rfl (ok_putI 52 rfl rfl fl_X7_74 (sT ht) rfl rfl rfl ?_))))))))))
          exact t2 _ (fr_up (fr_up f (by simp [rgFin])) (by simp [rgFin])) (iCh_cg c (fun k => by rw [up_ne _ _ _ _ (by omega), up_ne _ _ _ _ (by omega)])) ((hk0.tr (mkS_cg (N := 0) (by decide) (by rw [up_ne _ _ _ _ (by omega), up_ne _ _ _ _ (by omega)]) (fun k => by rw [up_ne _ _ _ _ (by omega), up_ne _ _ _ _ (by omega)])) (by omega) (by decide)).mono (by omega))
    · refine ok_aload_n 21 rfl rfl rfl (ok_getI 22 rfl rfl fl_X7_60 rfl rfl (Or.inl rfl) (ok_if_le 23 66 rfl rfl rfl (fun h40 => ?_) (fun h40 => ?_)))
      · have t2 : ∀ ρ' : eS, fr (rgFin t) σ ρ' → iCh ρ' → mkS (64 * (i + 1)) σ ρ' → Ok shA M_Se_finish 102 [some (vr 25), some (vr t), some (vi w), some (vr 34), some (vi i), some (vi j)] [] ρ' (fun σ' v => v = none ∧ fr (rgFin t) σ σ' ∧ iCh σ' ∧ mkS 256 σ σ') := by
          intro ρ' f' c' k'
          refine ok_inc4 53 rfl rfl rfl (by first | omega | (simp [up_if]; omega) | (simp [up_if] at *; omega)) (ok_goto 54 10 rfl rfl rfl ?_)
          exact ok_fg [some (vr 25), some (vr t), some (vi w), some (vr 34), some (vi (i + 1)), none] ⟨rfl, rfl, rfl, rfl, rfl, trivial⟩ (ih (i + 1) ρ' ⟨by omega, by omega, f', c', k'⟩ (by omega))
        refine ok_aload_n 34 rfl rfl rfl (ok_getI 35 rfl rfl fl_X7_60 rfl rfl (Or.inl rfl) (ok_if_ne 36 102 rfl rfl rfl (fun h70 => ?_) (fun h70 => ?_)))
        · exact t2 ρ f c (hk0.mono (by omega))
        · refine ok_aload_n 37 rfl rfl rfl (ok_getI 38 rfl rfl fl_X7_71 rfl rfl (Or.inl rfl) (ok_aload_n 39 rfl rfl rfl (ok_getI 40 rfl rfl fl_X7_34 (sT ht) rfl (Or.inl rfl) (ok_icmp_ge 41 102 rfl rfl rfl (fun h81 => ?_) (fun h81 => ?_)))))
          · exact t2 ρ f c (hk0.mono (by omega))
          · refine ok_aload_n 42 rfl rfl rfl (ok_aload_n 43 rfl rfl rfl (ok_getI 44 rfl rfl fl_X7_71 rfl rfl (Or.inl rfl) (ok_putI 45 rfl rfl fl_X7_34 (sT ht) rfl rfl rfl (ok_aload_n 46 rfl rfl rfl (ok_iload_n 47 rfl rfl rfl (ok_iconst 48 rfl rfl (by decide) (ok_imulW 49 rfl rfl (ok_iload 50 rfl rfl rfl (ok_iaddW 51 rfl rfl (ok_putI 52 rfl rfl fl_X7_74 (sT ht) rfl rfl rfl ?_))))))))))
            exact t2 _ (fr_up (fr_up f (by simp [rgFin])) (by simp [rgFin])) (iCh_cg c (fun k => by rw [up_ne _ _ _ _ (by omega), up_ne _ _ _ _ (by omega)])) ((hk0.tr (mkS_cg (N := 0) (by decide) (by rw [up_ne _ _ _ _ (by omega), up_ne _ _ _ _ (by omega)]) (fun k => by rw [up_ne _ _ _ _ (by omega), up_ne _ _ _ _ (by omega)])) (by omega) (by decide)).mono (by omega))
      · refine ok_aload_n 24 rfl rfl rfl (ok_getI 25 rfl rfl fl_X7_71 rfl rfl (Or.inl rfl) (ok_aload_n 26 rfl rfl rfl (ok_getI 27 rfl rfl fl_X7_34 (sT ht) rfl (Or.inl rfl) (ok_icmp_ge 28 66 rfl rfl rfl (fun h51 => ?_) (fun h51 => ?_)))))
        · have t2 : ∀ ρ' : eS, fr (rgFin t) σ ρ' → iCh ρ' → mkS (64 * (i + 1)) σ ρ' → Ok shA M_Se_finish 102 [some (vr 25), some (vr t), some (vi w), some (vr 34), some (vi i), some (vi j)] [] ρ' (fun σ' v => v = none ∧ fr (rgFin t) σ σ' ∧ iCh σ' ∧ mkS 256 σ σ') := by
            intro ρ' f' c' k'
            refine ok_inc4 53 rfl rfl rfl (by first | omega | (simp [up_if]; omega) | (simp [up_if] at *; omega)) (ok_goto 54 10 rfl rfl rfl ?_)
            exact ok_fg [some (vr 25), some (vr t), some (vi w), some (vr 34), some (vi (i + 1)), none] ⟨rfl, rfl, rfl, rfl, rfl, trivial⟩ (ih (i + 1) ρ' ⟨by omega, by omega, f', c', k'⟩ (by omega))
          refine ok_aload_n 34 rfl rfl rfl (ok_getI 35 rfl rfl fl_X7_60 rfl rfl (Or.inl rfl) (ok_if_ne 36 102 rfl rfl rfl (fun h70 => ?_) (fun h70 => ?_)))
          · exact t2 ρ f c (hk0.mono (by omega))
          · refine ok_aload_n 37 rfl rfl rfl (ok_getI 38 rfl rfl fl_X7_71 rfl rfl (Or.inl rfl) (ok_aload_n 39 rfl rfl rfl (ok_getI 40 rfl rfl fl_X7_34 (sT ht) rfl (Or.inl rfl) (ok_icmp_ge 41 102 rfl rfl rfl (fun h81 => ?_) (fun h81 => ?_)))))
            · exact t2 ρ f c (hk0.mono (by omega))
            · refine ok_aload_n 42 rfl rfl rfl (ok_aload_n 43 rfl rfl rfl (ok_getI 44 rfl rfl fl_X7_71 rfl rfl (Or.inl rfl) (ok_putI 45 rfl rfl fl_X7_34 (sT ht) rfl rfl rfl (ok_aload_n 46 rfl rfl rfl (ok_iload_n 47 rfl rfl rfl (ok_iconst 48 rfl rfl (by decide) (ok_imulW 49 rfl rfl (ok_iload 50 rfl rfl rfl (ok_iaddW 51 rfl rfl (ok_putI 52 rfl rfl fl_X7_74 (sT ht) rfl rfl rfl ?_))))))))))
              exact t2 _ (fr_up (fr_up f (by simp [rgFin])) (by simp [rgFin])) (iCh_cg c (fun k => by rw [up_ne _ _ _ _ (by omega), up_ne _ _ _ _ (by omega)])) ((hk0.tr (mkS_cg (N := 0) (by decide) (by rw [up_ne _ _ _ _ (by omega), up_ne _ _ _ _ (by omega)]) (fun k => by rw [up_ne _ _ _ _ (by omega), up_ne _ _ _ _ (by omega)])) (by omega) (by decide)).mono (by omega))
        · refine ok_aload_n 29 rfl rfl rfl (ok_iload 30 rfl rfl rfl (ok_callVV (M' := M_Pe_takePart) (as := [_]) 31 rfl rfl ml_X7_63 (s_Pe_takePart hp h c) rfl rfl (Nat.le_of_ble_eq_true rfl) ⟨Nat.le_of_ble_eq_true rfl, Nat.le_of_ble_eq_true rfl⟩ rfl (Nat.le_of_ble_eq_true rfl) (fun τ u => ?_)))
          refine ok_inc5 32 rfl rfl rfl (by first | omega | (simp [up_if]; omega) | (simp [up_if] at *; omega)) (ok_goto 33 29 rfl rfl rfl ?_)
          exact ih2 (j + 1) τ ⟨by omega, by omega, f.tr (u.1.mono (fun c k w => by simp only [rgPe, rgFin] at w ⊢; omega)), u.2.2.1, u.2.1, (hk0.tr u.2.2.2.2.2.2 (by omega) (by decide)).mono (by omega)⟩ (by omega)
abbrev rgSe (t : Nat) : Nat → Int → Prop := fun c k => (30 ≤ c ∧ c ≤ 39) ∨ (16 ≤ c ∧ c ≤ 19) ∨ (27 ≤ c ∧ c ≤ 29) ∨ (c = t ∧ (k = 6 ∨ k = 7 ∨ k = 8))
theorem s_Se_seek {σ : eS} {t : Nat} (ht : tA t) (hT : iT σ t) (hC : iCh σ) : MtV shA M_Se_seek [vr 25, vr t] σ (fun σ' => fr (rgSe t) σ σ' ∧ iCh σ' ∧ mkS 16468 σ σ') := by
  refine Mt.of okM_Se_seek (Nat.le_of_ble_eq_true rfl) (fun hk hg => ?_)
  have nA := tA_10 ht
  have hp : pP 30 35 := by unfold pP; omega
  have ns : ∀ (p : Nat) (ρ τ : eS), 30 ≤ p → p ≤ 34 → fr (rgNS p) ρ τ → fr (rgSe t) ρ τ := fun p ρ τ a b f => f.mono (fun c k w => by simp only [rgNS, rgSe] at w ⊢; omega)
  have T1 : iT (up σ t 7 65) t := (iT_cg hT (up_nk _ _ _ _ (by decide)) (up_nk _ _ _ _ (by decide)) (fun k => up_ne _ _ _ _ (by omega))).1
  have F1 : fr (rgSe t) σ (up σ t 7 65) := fr_up fr.rf (by simp [rgSe])
  have C1 : iCh (up σ t 7 65) := iCh_cg hC (fun k => up_ne _ _ _ _ (by omega))
  have K1 : mkS 0 σ (up σ t 7 65) := mkS_cg (by decide) (up_ne _ _ _ _ (by omega)) (fun k => up_ne _ _ _ _ (by omega))
  refine ok_aload_n 0 rfl rfl rfl (ok_bipush 1 rfl rfl (by decide) (by decide) (ok_putI 2 rfl rfl fl_X7_34 (sT ht) rfl rfl rfl (ok_aload_n 3 rfl rfl rfl (ok_getR 4 rfl rfl fl_X7_13 rfl rfl (ok_iconst 5 rfl rfl (by decide) (ok_aald 6 30 rfl rfl rfl (Or.inr rfl) (by omega) rfl (ok_aload_n 7 rfl rfl rfl (ok_callVV (M' := M_Pe_startTable) (as := [_]) 8 rfl rfl ml_X7_40 (s_Pe_startTable hp ht T1) rfl rfl (Nat.le_of_ble_eq_true rfl) ⟨Nat.le_of_ble_eq_true rfl, Nat.le_of_ble_eq_true rfl⟩ rfl (Nat.le_of_ble_eq_true rfl) (fun τ g => ?_)))))))))
  refine ok_iconst 9 rfl rfl (by decide) (ok_ist2 10 rfl rfl rfl ?_)
  obtain ⟨g1, g2, g3, g4⟩ := g
  refine lpO2 (fun (i : Int) (_ : eS) => [some (vr 25), some (vr t), some (vi i), none, none]) (fun _ ρ => ρ) (fun i ρ => 0 ≤ i ∧ i ≤ 4 ∧ fr (rgSe t) σ ρ ∧ iCh ρ ∧ iPe ρ 30 35 ∧ mkS (4117 * i) σ ρ) (fun i _ => (4 - i).toNat) ?_ 0 τ ⟨by omega, by omega, F1.tr (g1.mono (fun c k w => by simp only [rgP0, rgSe] at w ⊢; omega)), iCh_cg C1 (fun k => g1 17 k (by simp [rgP0])), g2, K1.tr (mkS_fr (N := 0) (by decide) g1 (by simp [rgP0]) (fun k => by simp [rgP0])) (by decide) (by decide)⟩
  clear g1 g2 g3 g4 τ T1 F1 C1 K1
  rintro i ρ ⟨i1, i2, f, c, h, hk0⟩ ih
  refine ok_iload_n 11 rfl rfl rfl (ok_iconst 12 rfl rfl (by decide) (ok_icmp_ge 13 106 rfl rfl rfl (fun h20 => ?_) (fun h20 => ?_)))
  · refine ok_aload_n 59 rfl rfl rfl (ok_iconst 60 rfl rfl (by decide) (ok_putZ 61 rfl rfl fl_X7_52 (sT ht) rfl rfl rfl (by first | omega | (simp [up_if]; omega) | (simp [up_if] at *; omega)) (ok_vret 62 rfl rfl rfl ?_)))
    exact ⟨rfl, fr_up f (by simp [rgSe]), iCh_cg c (fun k => up_ne _ _ _ _ (by omega)), (hk0.tr (mkS_cg (N := 0) (by decide) (up_ne _ _ _ _ (by omega)) (fun k => up_ne _ _ _ _ (by omega))) (by omega) (by decide)).mono (by omega)⟩
  · refine ok_aload_n 14 rfl rfl rfl (ok_iconst 15 rfl rfl (by decide) (ok_iload_n 16 rfl rfl rfl (ok_callVI (M' := M_Se_isNewStep) (as := [_, _]) 17 rfl rfl ml_X7_44 (s_Se_isNewStep (l := 0) (by omega) ⟨by omega, by omega⟩ c h) rfl rfl (Nat.le_of_ble_eq_true rfl) ⟨Nat.le_of_ble_eq_true rfl, Nat.le_of_ble_eq_true rfl⟩ rfl (Nat.le_of_ble_eq_true rfl) (fun τ z g => ?_))))
    obtain ⟨g1, g2, g3, g4, g5⟩ := g
    have hk1 : mkS (4117 * i + 1) σ τ := hk0.tr g5 (by omega) (by decide)
    have f' := f.tr (ns _ _ _ (by omega) (by omega) g1)
    have h' : iPe τ 30 35 := iPe_cg h (g1 30 2 (by simp only [rgNS]; omega)) (fun k => g1 35 k (by simp only [rgNS]; omega))
    have k' : iPe τ 31 36 := g3
    clear f c h g1 g3 hk0 g5
    refine ok_if_ne 18 35 rfl rfl rfl (fun h29 => ?_) (fun h29 => ?_)
    · refine ok_iconst 20 rfl rfl (by decide) (ok_ist3 21 rfl rfl rfl ?_)
      refine lpO2 (fun (j : Int) (_ : eS) => [some (vr 25), some (vr t), some (vi i), some (vi j), none]) (fun _ ρ => ρ) (fun j ρ => 0 ≤ j ∧ j ≤ 4 ∧ fr (rgSe t) σ ρ ∧ iCh ρ ∧ iPe ρ 30 35 ∧ iPe ρ 31 36 ∧ mkS (4117 * i + 1 + 1029 * j) σ ρ) (fun j _ => (4 - j).toNat) ?_ 0 τ ⟨by omega, by omega, f', g2, h', k', hk1.mono (by omega)⟩
      clear g2 g4 h29 z f' h' k' hk1 τ ρ
      rintro j ρ ⟨j1, j2, f, c, h, k, hk1⟩ ih2
      refine ok_iload_n 22 rfl rfl rfl (ok_iconst 23 rfl rfl (by decide) (ok_icmp_ge 24 100 rfl rfl rfl (fun h39 => ?_) (fun h39 => ?_)))
      · refine ok_inc2 57 rfl rfl rfl (by first | omega | (simp [up_if]; omega) | (simp [up_if] at *; omega)) (ok_goto 58 18 rfl rfl rfl ?_)
        exact ok_fg [some (vr 25), some (vr t), some (vi (i + 1)), none, none] ⟨rfl, rfl, rfl, trivial⟩ (ih (i + 1) ρ ⟨by omega, by omega, f, c, h, hk1.mono (by omega)⟩ (by omega))
      · refine ok_aload_n 25 rfl rfl rfl (ok_iconst 26 rfl rfl (by decide) (ok_iload_n 27 rfl rfl rfl (ok_callVI (M' := M_Se_isNewStep) (as := [_, _]) 28 rfl rfl ml_X7_44 (s_Se_isNewStep (l := 1) (by omega) ⟨by omega, by omega⟩ c k) rfl rfl (Nat.le_of_ble_eq_true rfl) ⟨Nat.le_of_ble_eq_true rfl, Nat.le_of_ble_eq_true rfl⟩ rfl (Nat.le_of_ble_eq_true rfl) (fun τ z g => ?_))))
        obtain ⟨g1, g2, g3, g4, g5⟩ := g
        have hk2 : mkS (4117 * i + 1 + 1029 * j + 1) σ τ := hk1.tr g5 (by omega) (by decide)
        have f' := f.tr (ns _ _ _ (by omega) (by omega) g1)
        have h' : iPe τ 30 35 := iPe_cg h (g1 30 2 (by simp only [rgNS]; omega)) (fun k => g1 35 k (by simp only [rgNS]; omega))
        have k' : iPe τ 31 36 := iPe_cg k (g1 31 2 (by simp only [rgNS]; omega)) (fun k => g1 36 k (by simp only [rgNS]; omega))
        have l' : iPe τ 32 37 := g3
        clear f c h k g1 g3 hk1 g5
        refine ok_if_ne 29 54 rfl rfl rfl (fun h48 => ?_) (fun h48 => ?_)
        · refine ok_iconst 31 rfl rfl (by decide) (ok_ist4 32 rfl rfl rfl ?_)
          refine lpO2 (fun (m : Int) (_ : eS) => [some (vr 25), some (vr t), some (vi i), some (vi j), some (vi m)]) (fun _ ρ => ρ) (fun m ρ => 0 ≤ m ∧ m ≤ 4 ∧ fr (rgSe t) σ ρ ∧ iCh ρ ∧ iPe ρ 30 35 ∧ iPe ρ 31 36 ∧ iPe ρ 32 37 ∧ mkS (4117 * i + 1 + 1029 * j + 1 + 257 * m) σ ρ) (fun m _ => (4 - m).toNat) ?_ 0 τ ⟨by omega, by omega, f', g2, h', k', l', hk2.mono (by omega)⟩
          clear g2 g4 h48 z f' h' k' l' hk2 τ ρ
          rintro m ρ ⟨m1, m2, f, c, h, k, l, hk2⟩ ih3
          refine ok_iload 33 rfl rfl rfl (ok_iconst 34 rfl rfl (by decide) (ok_icmp_ge 35 94 rfl rfl rfl (fun h60 => ?_) (fun h60 => ?_)))
          · refine ok_inc3 55 rfl rfl rfl (by first | omega | (simp [up_if]; omega) | (simp [up_if] at *; omega)) (ok_goto 56 37 rfl rfl rfl ?_)
            exact ok_fg [some (vr 25), some (vr t), some (vi i), some (vi (j + 1)), none] ⟨rfl, rfl, rfl, rfl, trivial⟩ (ih2 (j + 1) ρ ⟨by omega, by omega, f, c, h, k, hk2.mono (by omega)⟩ (by omega))
          · refine ok_aload_n 36 rfl rfl rfl (ok_iconst 37 rfl rfl (by decide) (ok_iload 38 rfl rfl rfl (ok_callVI (M' := M_Se_isNewStep) (as := [_, _]) 39 rfl rfl ml_X7_44 (s_Se_isNewStep (l := 2) (by omega) ⟨by omega, by omega⟩ c l) rfl rfl (Nat.le_of_ble_eq_true rfl) ⟨Nat.le_of_ble_eq_true rfl, Nat.le_of_ble_eq_true rfl⟩ rfl (Nat.le_of_ble_eq_true rfl) (fun τ z g => ?_))))
            obtain ⟨g1, g2, g3, g4, g5⟩ := g
            have hk3 : mkS (4117 * i + 1 + 1029 * j + 1 + 257 * m + 1) σ τ := hk2.tr g5 (by omega) (by decide)
            have f' := f.tr (ns _ _ _ (by omega) (by omega) g1)
            have h' : iPe τ 30 35 := iPe_cg h (g1 30 2 (by simp only [rgNS]; omega)) (fun k => g1 35 k (by simp only [rgNS]; omega))
            have k' : iPe τ 31 36 := iPe_cg k (g1 31 2 (by simp only [rgNS]; omega)) (fun k => g1 36 k (by simp only [rgNS]; omega))
            have l' : iPe τ 32 37 := iPe_cg l (g1 32 2 (by simp only [rgNS]; omega)) (fun k => g1 37 k (by simp only [rgNS]; omega))
            have m' : iPe τ 33 38 := g3
            clear f c h k l g1 g3 hk2 g5
            refine ok_if_eq 40 88 rfl rfl rfl (fun h70 => ?_) (fun h70 => ?_)
            · refine ok_inc4 53 rfl rfl rfl (by first | omega | (simp [up_if]; omega) | (simp [up_if] at *; omega)) (ok_goto 54 57 rfl rfl rfl ?_)
              exact ih3 (m + 1) τ ⟨by omega, by omega, f', g2, h', k', l', hk3.mono (by omega)⟩ (by omega)
            · refine ok_aload_n 41 rfl rfl rfl (ok_aload_n 42 rfl rfl rfl (ok_iload_n 43 rfl rfl rfl (ok_iconst 44 rfl rfl (by decide) (ok_imul 45 rfl rfl (by first | omega | (simp [up_if]; omega) | (simp [up_if] at *; omega)) (ok_iload_n 46 rfl rfl rfl (ok_iadd 47 rfl rfl (by first | omega | (simp [up_if]; omega) | (simp [up_if] at *; omega)) (ok_iconst 48 rfl rfl (by decide) (ok_imul 49 rfl rfl (by first | omega | (simp [up_if]; omega) | (simp [up_if] at *; omega)) (ok_iload 50 rfl rfl rfl (ok_iadd 51 rfl rfl (by first | omega | (simp [up_if]; omega) | (simp [up_if] at *; omega)) (ok_callVV (M' := M_Se_finish) (as := [_, _]) 52 rfl rfl ml_X7_48 (s_Se_finish ht g2 m') rfl rfl (Nat.le_of_ble_eq_true rfl) ⟨Nat.le_of_ble_eq_true rfl, Nat.le_of_ble_eq_true rfl⟩ rfl (Nat.le_of_ble_eq_true rfl) (fun υ u => ?_))))))))))))
              refine ok_inc4 53 rfl rfl rfl (by first | omega | (simp [up_if]; omega) | (simp [up_if] at *; omega)) (ok_goto 54 57 rfl rfl rfl ?_)
              exact ih3 (m + 1) υ ⟨by omega, by omega, f'.tr (u.1.mono (fun c k w => by simp only [rgFin, rgSe] at w ⊢; omega)), u.2.1, iPe_cg h' (u.1 30 2 (by simp only [rgFin]; omega)) (fun k => u.1 35 k (by simp only [rgFin]; omega)), iPe_cg k' (u.1 31 2 (by simp only [rgFin]; omega)) (fun k => u.1 36 k (by simp only [rgFin]; omega)), iPe_cg l' (u.1 32 2 (by simp only [rgFin]; omega)) (fun k => u.1 37 k (by simp only [rgFin]; omega)), (hk3.tr u.2.2 (by omega) (by decide)).mono (by omega)⟩ (by omega)
        · refine ok_goto 30 94 rfl rfl rfl (ok_inc3 55 rfl rfl rfl (by first | omega | (simp [up_if]; omega) | (simp [up_if] at *; omega)) (ok_goto 56 37 rfl rfl rfl ?_))
          exact ih2 (j + 1) τ ⟨by omega, by omega, f', g2, h', k', hk2.mono (by omega)⟩ (by omega)
    · refine ok_goto 19 100 rfl rfl rfl (ok_inc2 57 rfl rfl rfl (by first | omega | (simp [up_if]; omega) | (simp [up_if] at *; omega)) (ok_goto 58 18 rfl rfl rfl ?_))
      exact ih (i + 1) τ ⟨by omega, by omega, f', g2, h', hk1.mono (by omega)⟩ (by omega)
theorem s_Se_leastOf {σ : eS} {c : Nat} (hs : nth shA c = some (1, 3, [])) : MtI shA M_Se_leastOf [vr c] σ (fun σ' _ => σ' = σ ∧ True) := by
  refine Mt.of okM_Se_leastOf (Nat.le_of_ble_eq_true rfl) (fun hk hg => ?_)
  refine ok_aload_n 0 rfl rfl rfl (ok_iconst 1 rfl rfl (by decide) (ok_iald 2 rfl rfl hs (by first | omega | (simp [up_if]; omega) | (simp [up_if] at *; omega)) (ok_ist1 3 rfl rfl rfl (ok_aload_n 4 rfl rfl rfl (ok_ast2 5 rfl rfl rfl (ok_aload_n 6 rfl rfl rfl (ok_alen 7 rfl rfl hs rfl rfl (by decide) (ok_ist3 8 rfl rfl rfl (ok_iconst 9 rfl rfl (by decide) (ok_ist4 10 rfl rfl rfl ?_))))))))))
  refine lpO2 (fun (v i : Int) => [some (vr c), some (vi v), some (vr c), some (vi 3), some (vi i), none]) (fun _ _ => σ) (fun _ i => 0 ≤ i ∧ i ≤ 3) (fun _ i => (3 - i).toNat) ?_ _ 0 ⟨by omega, by omega⟩
  rintro v i ⟨i1, i2⟩ ih
  refine ok_iload 11 rfl rfl rfl (ok_iload_n 12 rfl rfl rfl (ok_icmp_ge 13 37 rfl rfl rfl (fun h15 => ?_) (fun h15 => ?_)))
  · refine ok_iload_n 24 rfl rfl rfl (ok_iret 25 rfl rfl rfl ?_)
    exact ⟨_, rfl, rfl, trivial⟩
  · refine ok_aload_n 14 rfl rfl rfl (ok_iload 15 rfl rfl rfl (ok_iald 16 rfl rfl hs (by first | omega | (simp [up_if]; omega) | (simp [up_if] at *; omega)) (ok_ist5 17 rfl rfl rfl (ok_iload_n 18 rfl rfl rfl (ok_iload 19 rfl rfl rfl (ok_mmin 20 rfl rfl ml_X7_100 ⟨Nat.le_of_ble_eq_true rfl, Nat.le_of_ble_eq_true rfl⟩ (ok_ist1 21 rfl rfl rfl (ok_inc4 22 rfl rfl rfl (by first | omega | (simp [up_if]; omega) | (simp [up_if] at *; omega)) (ok_goto 23 12 rfl rfl rfl ?_)))))))))
    exact ok_fg [some (vr c), some (vi _), some (vr c), some (vi 3), some (vi (i + 1)), none] ⟨rfl, rfl, rfl, rfl, rfl, trivial⟩ (ih _ (i + 1) ⟨by omega, by omega⟩ (by omega))
theorem s_Se_countAbove {σ : eS} {c : Nat} {b : Int} (hs : nth shA c = some (1, 3, [])) : MtI shA M_Se_countAbove [vr c, vi b] σ (fun σ' _ => σ' = σ ∧ True) := by
  refine Mt.of okM_Se_countAbove (Nat.le_of_ble_eq_true rfl) (fun hk hg => ?_)
  refine ok_iconst 0 rfl rfl (by decide) (ok_ist2 1 rfl rfl rfl (ok_aload_n 2 rfl rfl rfl (ok_ast3 3 rfl rfl rfl (ok_aload_n 4 rfl rfl rfl (ok_alen 5 rfl rfl hs rfl rfl (by decide) (ok_ist4 6 rfl rfl rfl (ok_iconst 7 rfl rfl (by decide) (ok_ist5 8 rfl rfl rfl ?_))))))))
  refine lpO2 (fun (v i : Int) => [some (vr c), some (vi b), some (vi v), some (vr c), some (vi 3), some (vi i), none]) (fun _ _ => σ) (fun v i => 0 ≤ i ∧ i ≤ 3 ∧ 0 ≤ v ∧ v ≤ i) (fun _ i => (3 - i).toNat) ?_ 0 0 ⟨by omega, by omega, by omega, by omega⟩
  rintro v i ⟨i1, i2, v1, v2⟩ ih
  refine ok_iload 9 rfl rfl rfl (ok_iload 10 rfl rfl rfl (ok_icmp_ge 11 39 rfl rfl rfl (fun h15 => ?_) (fun h15 => ?_)))
  · refine ok_iload_n 22 rfl rfl rfl (ok_iret 23 rfl rfl rfl ?_)
    exact ⟨_, rfl, rfl, trivial⟩
  · refine ok_aload_n 12 rfl rfl rfl (ok_iload 13 rfl rfl rfl (ok_iald 14 rfl rfl hs (by first | omega | (simp [up_if]; omega) | (simp [up_if] at *; omega)) (ok_ist6 15 rfl rfl rfl (ok_iload 16 rfl rfl rfl (ok_iload_n 17 rfl rfl rfl (ok_icmp_le 18 33 rfl rfl rfl (fun h27 => ?_) (fun h27 => ?_)))))))
    · refine ok_inc5 20 rfl rfl rfl (by first | omega | (simp [up_if]; omega) | (simp [up_if] at *; omega)) (ok_goto 21 11 rfl rfl rfl ?_)
      exact ok_fg [some (vr c), some (vi b), some (vi _), some (vr c), some (vi 3), some (vi (i + 1)), none] ⟨rfl, rfl, rfl, rfl, rfl, rfl, trivial⟩ (ih _ (i + 1) ⟨by omega, by omega, by omega, by omega⟩ (by omega))
    · refine ok_inc2 19 rfl rfl rfl (by first | omega | (simp [up_if]; omega) | (simp [up_if] at *; omega)) (ok_inc5 20 rfl rfl rfl (by first | omega | (simp [up_if]; omega) | (simp [up_if] at *; omega)) (ok_goto 21 11 rfl rfl rfl ?_))
      exact ok_fg [some (vr c), some (vi b), some (vi _), some (vr c), some (vi 3), some (vi (i + 1)), none] ⟨rfl, rfl, rfl, rfl, rfl, rfl, trivial⟩ (ih _ (i + 1) ⟨by omega, by omega, by omega, by omega⟩ (by omega))
abbrev rgAW : Nat → Int → Prop := fun c _ => c = 28 ∨ c = 29
theorem s_Se_addWeight {σ : eS} {w : Int} (hC : iCh σ) : MtV shA M_Se_addWeight [vr 25, vi w] σ (fun σ' => fr rgAW σ σ') := by
  refine Mt.of okM_Se_addWeight (Nat.le_of_ble_eq_true rfl) (fun hk hg => ?_)
  have c0 := hC 0 (by decide) (by decide)
  refine ok_aload_n 0 rfl rfl rfl (ok_getR 1 rfl rfl fl_X7_27 rfl rfl (ok_getR 2 rfl rfl fl_X7_106 rfl rfl (ok_iconst 3 rfl rfl (by decide) (ok_iald 4 rfl rfl rfl (by first | omega | (simp [up_if]; omega) | (simp [up_if] at *; omega)) (ok_ist2 5 rfl rfl rfl (ok_iload_n 6 rfl rfl rfl (ok_iconst 7 rfl rfl (by decide) (ok_icmp_ge 8 55 rfl rfl rfl (fun h12 => ?_) (fun h12 => ?_)))))))))
  · refine ok_vret 37 rfl rfl rfl ?_
    first | exact ⟨rfl, fr.rf⟩ | exact ⟨rfl, fr_up fr.rf (by simp [rgAW])⟩
  · refine ok_aload_n 9 rfl rfl rfl (ok_getR 10 rfl rfl fl_X7_27 rfl rfl (ok_getR 11 rfl rfl fl_X7_106 rfl rfl (ok_iconst 12 rfl rfl (by decide) (ok_iald 13 rfl rfl rfl (by first | omega | (simp [up_if]; omega) | (simp [up_if] at *; omega)) (ok_iload_n 14 rfl rfl rfl (ok_iconst 15 rfl rfl (by decide) (ok_iadd 16 rfl rfl (by first | omega | (simp [up_if]; omega) | (simp [up_if] at *; omega)) (ok_iconst 17 rfl rfl (by decide) (ok_irem 18 rfl rfl (by first | omega | (simp [up_if]; omega) | (simp [up_if] at *; omega)) (by first | omega | (simp [up_if]; omega) | (simp [up_if] at *; omega)) (ok_icmp_ne 19 45 rfl rfl rfl (fun h29 => ?_) (fun h29 => ?_)))))))))))
    · refine ok_aload_n 29 rfl rfl rfl (ok_getR 30 rfl rfl fl_X7_24 rfl rfl (ok_iload_n 31 rfl rfl rfl (ok_dup2 32 rfl rfl ⟨rfl, rfl⟩ (ok_iald 33 rfl rfl rfl (by first | omega | (simp [up_if]; omega) | (simp [up_if] at *; omega)) (ok_iload_n 34 rfl rfl rfl (ok_iaddW 35 rfl rfl (ok_iast 36 rfl rfl rfl (by first | omega | (simp [up_if]; omega) | (simp [up_if] at *; omega)) (ok_vret 37 rfl rfl rfl ?_))))))))
      first | exact ⟨rfl, fr.rf⟩ | exact ⟨rfl, fr_up fr.rf (by simp [rgAW])⟩
    · refine ok_aload_n 20 rfl rfl rfl (ok_getR 21 rfl rfl fl_X7_21 rfl rfl (ok_iload_n 22 rfl rfl rfl (ok_dup2 23 rfl rfl ⟨rfl, rfl⟩ (ok_iald 24 rfl rfl rfl (by first | omega | (simp [up_if]; omega) | (simp [up_if] at *; omega)) (ok_iload_n 25 rfl rfl rfl (ok_iaddW 26 rfl rfl (ok_iast 27 rfl rfl rfl (by first | omega | (simp [up_if]; omega) | (simp [up_if] at *; omega)) (ok_goto 28 55 rfl rfl rfl (ok_vret 37 rfl rfl rfl ?_)))))))))
      first | exact ⟨rfl, fr.rf⟩ | exact ⟨rfl, fr_up fr.rf (by simp [rgAW])⟩
theorem s_Se_countFewest {σ : eS} {t : Nat} (ht : tA t) (hT : iT σ t) (hC : iCh σ) : MtI shA M_Se_countFewest [vr 25, vr t] σ (fun σ' _ => fr (rgSe t) σ σ' ∧ iCh σ' ∧ mkS 64 σ σ') := by
  refine Mt.of okM_Se_countFewest (Nat.le_of_ble_eq_true rfl) (fun hk hg => ?_)
  have nA := tA_10 ht
  have hp : pP 30 35 := by unfold pP; omega
  refine ok_aload_n 0 rfl rfl rfl (ok_getR 1 rfl rfl fl_X7_21 rfl rfl (ok_iconst 2 rfl rfl (by decide) (ok_callSV (M' := M_Ja_fill) (as := [_, _]) 3 rfl rfl ml_X7_77 (s_Ja_fill (c := 28) (N := 3) rfl (by decide)) ⟨Nat.le_of_ble_eq_true rfl, Nat.le_of_ble_eq_true rfl⟩ rfl (Nat.le_of_ble_eq_true rfl) (fun τ1 f1 => ?_))))
  refine ok_aload_n 4 rfl rfl rfl (ok_getR 5 rfl rfl fl_X7_24 rfl rfl (ok_iconst 6 rfl rfl (by decide) (ok_callSV (M' := M_Ja_fill) (as := [_, _]) 7 rfl rfl ml_X7_77 (s_Ja_fill (c := 29) (N := 3) rfl (by decide)) ⟨Nat.le_of_ble_eq_true rfl, Nat.le_of_ble_eq_true rfl⟩ rfl (Nat.le_of_ble_eq_true rfl) (fun τ2 f2 => ?_))))
  refine ok_aload_n 8 rfl rfl rfl (ok_getR 9 rfl rfl fl_X7_13 rfl rfl (ok_iconst 10 rfl rfl (by decide) (ok_aald 11 30 rfl rfl rfl (Or.inr rfl) (by omega) rfl (ok_ast2 12 rfl rfl rfl ?_))))
  have F : fr rgAW σ τ2 := (f1.1.mono (fun c k w => Or.inl w)).tr (f2.1.mono (fun c k w => Or.inr w))
  have T : iT τ2 t := (iT_cg hT (F t 1 (by simp only [rgAW]; omega)) (F t 2 (by simp only [rgAW]; omega)) (fun k => F (t + 4) k (by simp only [rgAW]; omega))).1
  refine ok_aload_n 13 rfl rfl rfl (ok_aload_n 14 rfl rfl rfl (ok_callVV (M' := M_Pe_startTable) (as := [_]) 15 rfl rfl ml_X7_40 (s_Pe_startTable hp ht T) rfl rfl (Nat.le_of_ble_eq_true rfl) ⟨Nat.le_of_ble_eq_true rfl, Nat.le_of_ble_eq_true rfl⟩ rfl (Nat.le_of_ble_eq_true rfl) (fun τ g => ?_)))
  refine ok_iconst 16 rfl rfl (by decide) (ok_ist3 17 rfl rfl rfl ?_)
  obtain ⟨g1, g2, g3, g4⟩ := g
  refine lpO2 (fun (k : Int) (_ : eS) => [some (vr 25), some (vr t), some (vr 30), some (vi k), none]) (fun _ ρ => ρ) (fun k ρ => 0 ≤ k ∧ k ≤ 64 ∧ fr (rgSe t) σ ρ ∧ iCh ρ ∧ iPe ρ 30 35 ∧ mkS k σ ρ) (fun k _ => (64 - k).toNat) ?_ 0 τ ⟨by omega, by omega, (F.mono (fun c k w => by simp only [rgAW, rgSe] at w ⊢; omega)).tr (g1.mono (fun c k w => by simp only [rgP0, rgSe] at w ⊢; omega)), iCh_cg hC (fun k => by rw [g1 17 k (by simp [rgP0]), F 17 k (by simp [rgAW])]), g2, mkS_cg (by decide) (by rw [g1 16 3 (by simp [rgP0]), F 16 3 (by simp [rgAW])]) (fun k => by rw [g1 19 k (by simp [rgP0]), F 19 k (by simp [rgAW])])⟩
  clear g1 g2 g3 g4 τ T F f1 f2 τ1 τ2
  rintro k ρ ⟨k1, k2, f, c, h, hk0⟩ ih
  refine ok_iload_n 18 rfl rfl rfl (ok_bipush 19 rfl rfl (by decide) (by decide) (ok_icmp_ge 20 62 rfl rfl rfl (fun h33 => ?_) (fun h33 => ?_)))
  · refine ok_aload_n 33 rfl rfl rfl (ok_getI 34 rfl rfl fl_X7_89 (sT ht) rfl (Or.inl rfl) (ok_iconst 35 rfl rfl (by decide) (ok_icmp_ge 36 75 rfl rfl rfl (fun h67 => ?_) (fun h67 => ?_))))
    · refine ok_aload_n 40 rfl rfl rfl (ok_getR 41 rfl rfl fl_X7_21 rfl rfl (ok_callSI (M' := M_Se_leastOf) (as := [_]) 42 rfl rfl ml_X7_92 (s_Se_leastOf (c := 28) rfl) ⟨Nat.le_of_ble_eq_true rfl, Nat.le_of_ble_eq_true rfl⟩ rfl (Nat.le_of_ble_eq_true rfl) (fun σ' z1 x1 => ?_)))
      obtain ⟨hs_, x1⟩ := x1
      rw [hs_]; clear hs_ σ'
      refine ok_ist3 43 rfl rfl rfl (ok_aload_n 44 rfl rfl rfl (ok_getR 45 rfl rfl fl_X7_24 rfl rfl (ok_callSI (M' := M_Se_leastOf) (as := [_]) 46 rfl rfl ml_X7_92 (s_Se_leastOf (c := 29) rfl) ⟨Nat.le_of_ble_eq_true rfl, Nat.le_of_ble_eq_true rfl⟩ rfl (Nat.le_of_ble_eq_true rfl) (fun σ' z2 x2 => ?_))))
      obtain ⟨hs_, x2⟩ := x2
      rw [hs_]; clear hs_ σ'
      refine ok_ist4 47 rfl rfl rfl (ok_aload_n 48 rfl rfl rfl (ok_getR 49 rfl rfl fl_X7_21 rfl rfl (ok_iload_n 50 rfl rfl rfl (ok_callSI (M' := M_Se_countAbove) (as := [_, _]) 51 rfl rfl ml_X7_96 (s_Se_countAbove (c := 28) rfl) ⟨Nat.le_of_ble_eq_true rfl, Nat.le_of_ble_eq_true rfl⟩ rfl (Nat.le_of_ble_eq_true rfl) (fun σ' z3 x3 => ?_)))))
      obtain ⟨hs_, x3⟩ := x3
      rw [hs_]; clear hs_ σ'
      refine ok_aload_n 52 rfl rfl rfl (ok_getR 53 rfl rfl fl_X7_24 rfl rfl (ok_iload_n 54 rfl rfl rfl (ok_inegW 55 rfl rfl (ok_callSI (M' := M_Se_countAbove) (as := [_, _]) 56 rfl rfl ml_X7_96 (s_Se_countAbove (c := 29) rfl) ⟨Nat.le_of_ble_eq_true rfl, Nat.le_of_ble_eq_true rfl⟩ rfl (Nat.le_of_ble_eq_true rfl) (fun σ' z4 x4 => ?_)))))
      obtain ⟨hs_, x4⟩ := x4
      rw [hs_]; clear hs_ σ'
      refine ok_iaddW 57 rfl rfl (ok_aload_n 58 rfl rfl rfl (ok_getR 59 rfl rfl fl_X7_21 rfl rfl (ok_iload 60 rfl rfl rfl (ok_inegW 61 rfl rfl (ok_callSI (M' := M_Se_countAbove) (as := [_, _]) 62 rfl rfl ml_X7_96 (s_Se_countAbove (c := 28) rfl) ⟨Nat.le_of_ble_eq_true rfl, Nat.le_of_ble_eq_true rfl⟩ rfl (Nat.le_of_ble_eq_true rfl) (fun σ' z5 x5 => ?_))))))
      obtain ⟨hs_, x5⟩ := x5
      rw [hs_]; clear hs_ σ'
      refine ok_aload_n 63 rfl rfl rfl (ok_getR 64 rfl rfl fl_X7_24 rfl rfl (ok_iload 65 rfl rfl rfl (ok_callSI (M' := M_Se_countAbove) (as := [_, _]) 66 rfl rfl ml_X7_96 (s_Se_countAbove (c := 29) rfl) ⟨Nat.le_of_ble_eq_true rfl, Nat.le_of_ble_eq_true rfl⟩ rfl (Nat.le_of_ble_eq_true rfl) (fun σ' z6 x6 => ?_))))
      obtain ⟨hs_, x6⟩ := x6
      rw [hs_]; clear hs_ σ'
      refine ok_iaddW 67 rfl rfl (ok_mmin 68 rfl rfl ml_X7_100 ⟨Nat.le_of_ble_eq_true rfl, Nat.le_of_ble_eq_true rfl⟩ (ok_iret 69 rfl rfl rfl ?_))
      exact ⟨_, rfl, f, c, hk0.mono (by omega)⟩
    · refine ok_aload_n 37 rfl rfl rfl (ok_getI 38 rfl rfl fl_X7_71 rfl rfl (Or.inl rfl) (ok_iret 39 rfl rfl rfl ?_))
      exact ⟨_, rfl, f, c, hk0.mono (by omega)⟩
  · refine ok_aload_n 21 rfl rfl rfl (ok_getI 22 rfl rfl fl_X7_60 rfl rfl (Or.inl rfl) (ok_if_le 23 62 rfl rfl rfl (fun h40 => ?_) (fun h40 => ?_)))
    · refine ok_aload_n 33 rfl rfl rfl (ok_getI 34 rfl rfl fl_X7_89 (sT ht) rfl (Or.inl rfl) (ok_iconst 35 rfl rfl (by decide) (ok_icmp_ge 36 75 rfl rfl rfl (fun h67 => ?_) (fun h67 => ?_))))
      · refine ok_aload_n 40 rfl rfl rfl (ok_getR 41 rfl rfl fl_X7_21 rfl rfl (ok_callSI (M' := M_Se_leastOf) (as := [_]) 42 rfl rfl ml_X7_92 (s_Se_leastOf (c := 28) rfl) ⟨Nat.le_of_ble_eq_true rfl, Nat.le_of_ble_eq_true rfl⟩ rfl (Nat.le_of_ble_eq_true rfl) (fun σ' z1 x1 => ?_)))
        obtain ⟨hs_, x1⟩ := x1
        rw [hs_]; clear hs_ σ'
        refine ok_ist3 43 rfl rfl rfl (ok_aload_n 44 rfl rfl rfl (ok_getR 45 rfl rfl fl_X7_24 rfl rfl (ok_callSI (M' := M_Se_leastOf) (as := [_]) 46 rfl rfl ml_X7_92 (s_Se_leastOf (c := 29) rfl) ⟨Nat.le_of_ble_eq_true rfl, Nat.le_of_ble_eq_true rfl⟩ rfl (Nat.le_of_ble_eq_true rfl) (fun σ' z2 x2 => ?_))))
        obtain ⟨hs_, x2⟩ := x2
        rw [hs_]; clear hs_ σ'
        refine ok_ist4 47 rfl rfl rfl (ok_aload_n 48 rfl rfl rfl (ok_getR 49 rfl rfl fl_X7_21 rfl rfl (ok_iload_n 50 rfl rfl rfl (ok_callSI (M' := M_Se_countAbove) (as := [_, _]) 51 rfl rfl ml_X7_96 (s_Se_countAbove (c := 28) rfl) ⟨Nat.le_of_ble_eq_true rfl, Nat.le_of_ble_eq_true rfl⟩ rfl (Nat.le_of_ble_eq_true rfl) (fun σ' z3 x3 => ?_)))))
        obtain ⟨hs_, x3⟩ := x3
        rw [hs_]; clear hs_ σ'
        refine ok_aload_n 52 rfl rfl rfl (ok_getR 53 rfl rfl fl_X7_24 rfl rfl (ok_iload_n 54 rfl rfl rfl (ok_inegW 55 rfl rfl (ok_callSI (M' := M_Se_countAbove) (as := [_, _]) 56 rfl rfl ml_X7_96 (s_Se_countAbove (c := 29) rfl) ⟨Nat.le_of_ble_eq_true rfl, Nat.le_of_ble_eq_true rfl⟩ rfl (Nat.le_of_ble_eq_true rfl) (fun σ' z4 x4 => ?_)))))
        obtain ⟨hs_, x4⟩ := x4
        rw [hs_]; clear hs_ σ'
        refine ok_iaddW 57 rfl rfl (ok_aload_n 58 rfl rfl rfl (ok_getR 59 rfl rfl fl_X7_21 rfl rfl (ok_iload 60 rfl rfl rfl (ok_inegW 61 rfl rfl (ok_callSI (M' := M_Se_countAbove) (as := [_, _]) 62 rfl rfl ml_X7_96 (s_Se_countAbove (c := 28) rfl) ⟨Nat.le_of_ble_eq_true rfl, Nat.le_of_ble_eq_true rfl⟩ rfl (Nat.le_of_ble_eq_true rfl) (fun σ' z5 x5 => ?_))))))
        obtain ⟨hs_, x5⟩ := x5
        rw [hs_]; clear hs_ σ'
        refine ok_aload_n 63 rfl rfl rfl (ok_getR 64 rfl rfl fl_X7_24 rfl rfl (ok_iload 65 rfl rfl rfl (ok_callSI (M' := M_Se_countAbove) (as := [_, _]) 66 rfl rfl ml_X7_96 (s_Se_countAbove (c := 29) rfl) ⟨Nat.le_of_ble_eq_true rfl, Nat.le_of_ble_eq_true rfl⟩ rfl (Nat.le_of_ble_eq_true rfl) (fun σ' z6 x6 => ?_))))
        obtain ⟨hs_, x6⟩ := x6
        rw [hs_]; clear hs_ σ'
        refine ok_iaddW 67 rfl rfl (ok_mmin 68 rfl rfl ml_X7_100 ⟨Nat.le_of_ble_eq_true rfl, Nat.le_of_ble_eq_true rfl⟩ (ok_iret 69 rfl rfl rfl ?_))
        exact ⟨_, rfl, f, c, hk0.mono (by omega)⟩
      · refine ok_aload_n 37 rfl rfl rfl (ok_getI 38 rfl rfl fl_X7_71 rfl rfl (Or.inl rfl) (ok_iret 39 rfl rfl rfl ?_))
        exact ⟨_, rfl, f, c, hk0.mono (by omega)⟩
    · refine ok_aload_n 24 rfl rfl rfl (ok_iconst 25 rfl rfl (by decide) (ok_callVV (M' := M_Pe_takePart) (as := [_]) 26 rfl rfl ml_X7_63 (s_Pe_takePart hp h c) rfl rfl (Nat.le_of_ble_eq_true rfl) ⟨Nat.le_of_ble_eq_true rfl, Nat.le_of_ble_eq_true rfl⟩ rfl (Nat.le_of_ble_eq_true rfl) (fun υ u => ?_)))
      refine ok_aload_n 27 rfl rfl rfl (ok_aload_n 28 rfl rfl rfl (ok_getI 29 rfl rfl fl_X7_83 rfl rfl (Or.inl rfl) (ok_callVV (M' := M_Se_addWeight) (as := [_]) 30 rfl rfl ml_X7_86 (s_Se_addWeight u.2.2.1) rfl rfl (Nat.le_of_ble_eq_true rfl) ⟨Nat.le_of_ble_eq_true rfl, Nat.le_of_ble_eq_true rfl⟩ rfl (Nat.le_of_ble_eq_true rfl) (fun ω v => ?_))))
      refine ok_inc3 31 rfl rfl rfl (by first | omega | (simp [up_if]; omega) | (simp [up_if] at *; omega)) (ok_goto 32 30 rfl rfl rfl ?_)
      exact ih (k + 1) ω ⟨by omega, by omega, (f.tr (u.1.mono (fun c k w => by simp only [rgPe, rgSe] at w ⊢; omega))).tr (v.mono (fun c k w => by simp only [rgAW, rgSe] at w ⊢; omega)), iCh_cg u.2.2.1 (fun k => v 17 k (by simp [rgAW])), iPe_cg u.2.1 (v 30 2 (by simp [rgAW])) (fun k => v 35 k (by simp [rgAW])), ((hk0.tr u.2.2.2.2.2.2 (by omega) (by decide)).tr (mkS_fr (N := 0) (by decide) v (by simp [rgAW]) (fun k => by simp [rgAW])) (by omega) (by decide)).mono (by omega)⟩ (by omega)
theorem QA_S {σ τ : eS} (h : IA σ) (f : fr (fun c k => (2 ≤ c ∧ c ≤ 5 ∧ 4 ≤ k) ∨ (16 ≤ c ∧ c ≤ 19) ∨ (25 ≤ c ∧ c ≤ 45)) σ τ) (c : iCh τ) (hk : mkS 20000 σ τ) : QA σ τ := by
  have e3 := f 10 3 (by omega)
  refine ⟨⟨?_, iTs_cg h.2.1 (fun c k a b d => f c k (by omega)), c, iMi_cg h.2.2.2.1 (fun c k a b => f c k (by omega)), iSh_cg h.2.2.2.2.1 (fun k => f _ k (by omega)), iSu_cg h.2.2.2.2.2 (fun k => f _ k (by omega))⟩, ⟨fun k => f _ k (by omega), fun k => f _ k (by omega)⟩, fun c k a b d => f c k (by omega), fun c k a b => f c k (by omega), fun c k a b => f c k (by omega), hk⟩
  unfold tL
  rw [e3]
  exact h.1
theorem s_Ev_sought {σ : eS} {s w : Int} (h : IA σ) : MtI shA M_Ev_sought [vr 0, vi s, vi w] σ (fun σ' _ => QA σ σ') := by
  refine Mt.of okM_Ev_sought (Nat.le_of_ble_eq_true rfl) (fun hk hg => ?_)
  refine ok_aload_n 0 rfl rfl rfl (ok_iload_n 1 rfl rfl rfl (ok_callVR (M' := M_Ev_evenSlot) (as := [_]) 2 rfl rfl ml_X11_163 (s_Ev_evenSlot) rfl rfl (Nat.le_of_ble_eq_true rfl) ⟨Nat.le_of_ble_eq_true rfl, Nat.le_of_ble_eq_true rfl⟩ rfl (Nat.le_of_ble_eq_true rfl) (fun σ' z hz => ?_)))
  obtain ⟨hs_, hz⟩ := hz
  rw [hs_]; clear hs_ σ'
  rcases hz with ⟨q, q0⟩ | ⟨q1, q2, q, q3⟩
  · subst q
    refine ok_ast3 3 rfl rfl rfl (ok_aload_n 4 rfl rfl rfl (ok_ifnullN 5 27 rfl rfl rfl (ok_iconst 15 rfl rfl (by decide) (ok_iret 16 rfl rfl rfl ?_))))
    exact ⟨_, rfl, QA_rf h⟩
  · subst q
    have ht := sl_tA ⟨q1, q2⟩
    have nA := tA_10 ht
    have hT := (h.2.1 _ ht).1
    have tail : 0 ≤ w → w ≤ 4 → ∀ τ : eS, QA σ τ → Ok shA M_Ev_sought 44 [some (vr 0), some (vi s), some (vi w), some (vr (s.toNat + 2))] [] τ (fun σ' v => ∃ z, v = some (vi z) ∧ QA σ σ') := by
      intro w1 w2 τ hq
      refine ok_iload_n 24 rfl rfl rfl (ok_if_ne 25 55 rfl rfl rfl (fun h45 => ?_) (fun h45 => ?_))
      · refine ok_aload_n 29 rfl rfl rfl (ok_getI 30 rfl rfl fl_X11_257 (sT ht) rfl (Or.inl rfl) (ok_iconst 31 rfl rfl (by decide) (ok_iconst 32 rfl rfl (by decide) (ok_iload_n 33 rfl rfl rfl (ok_isub 34 rfl rfl (by first | omega | (simp [up_if]; omega) | (simp [up_if] at *; omega)) (ok_imul 35 rfl rfl (by first | omega | (simp [up_if]; omega) | (simp [up_if] at *; omega)) (ok_ishr 36 rfl rfl (ok_iconst 37 rfl rfl (by decide) (ok_iand 38 rfl rfl (ok_iret 39 rfl rfl rfl ?_))))))))))
        exact ⟨_, rfl, hq⟩
      · refine ok_aload_n 26 rfl rfl rfl (ok_getI 27 rfl rfl fl_X11_254 (sT ht) rfl (Or.inl rfl) (ok_goto 28 67 rfl rfl rfl (ok_iret 39 rfl rfl rfl ?_)))
        exact ⟨_, rfl, hq⟩
    refine ok_ast3 3 rfl rfl rfl (ok_aload_n 4 rfl rfl rfl (ok_ifnull 5 rfl rfl (ok_aload_n 6 rfl rfl rfl (ok_getI 7 rfl rfl fl_X11_103 (sT ht) rfl (Or.inl rfl) (ok_iconst 8 rfl rfl (by decide) (ok_icmp_gt 9 27 rfl rfl rfl (fun h15 => ?_) (fun h15 => ?_)))))))
    · refine ok_iconst 15 rfl rfl (by decide) (ok_iret 16 rfl rfl rfl ?_)
      exact ⟨_, rfl, QA_rf h⟩
    · refine ok_iload_n 10 rfl rfl rfl (ok_if_lt 11 27 rfl rfl rfl (fun h19 => ?_) (fun h19 => ?_))
      · refine ok_iconst 15 rfl rfl (by decide) (ok_iret 16 rfl rfl rfl ?_)
        exact ⟨_, rfl, QA_rf h⟩
      · refine ok_iload_n 12 rfl rfl rfl (ok_iconst 13 rfl rfl (by decide) (ok_icmp_le 14 29 rfl rfl rfl (fun h24 => ?_) (fun h24 => ?_)))
        · refine ok_aload_n 17 rfl rfl rfl (ok_getI 18 rfl rfl fl_X11_247 (sT ht) rfl (Or.inr rfl) (ok_if_ne 19 44 rfl rfl rfl (fun h33 => ?_) (fun h33 => ?_)))
          · exact tail (by omega) (by omega) σ (QA_rf h)
          · refine ok_aload_n 20 rfl rfl rfl (ok_getR 21 rfl rfl fl_X11_55 rfl rfl (ok_aload_n 22 rfl rfl rfl (ok_callVV (M' := M_Se_seek) (as := [_]) 23 rfl rfl ml_X11_251 (s_Se_seek ht hT h.2.2.1) rfl rfl (Nat.le_of_ble_eq_true rfl) ⟨Nat.le_of_ble_eq_true rfl, Nat.le_of_ble_eq_true rfl⟩ rfl (Nat.le_of_ble_eq_true rfl) (fun τ f => ?_))))
            exact tail (by omega) (by omega) τ (QA_S h (f.1.mono (fun c k w => by simp only [rgSe] at w; omega)) f.2.1 (f.2.2.mono (by decide)))
        · refine ok_iconst 15 rfl rfl (by decide) (ok_iret 16 rfl rfl rfl ?_)
          exact ⟨_, rfl, QA_rf h⟩
theorem s_Ev_bound {σ : eS} {s w : Int} (h : IA σ) : MtI shA M_Ev_bound [vr 0, vi s, vi w] σ (fun σ' _ => QA σ σ') := by
  refine Mt.of okM_Ev_bound (Nat.le_of_ble_eq_true rfl) (fun hk hg => ?_)
  refine ok_aload_n 0 rfl rfl rfl (ok_iload_n 1 rfl rfl rfl (ok_callVR (M' := M_Ev_evenSlot) (as := [_]) 2 rfl rfl ml_X11_163 (s_Ev_evenSlot) rfl rfl (Nat.le_of_ble_eq_true rfl) ⟨Nat.le_of_ble_eq_true rfl, Nat.le_of_ble_eq_true rfl⟩ rfl (Nat.le_of_ble_eq_true rfl) (fun σ' z hz => ?_)))
  obtain ⟨hs_, hz⟩ := hz
  rw [hs_]; clear hs_ σ'
  rcases hz with ⟨q, q0⟩ | ⟨q1, q2, q, q3⟩
  · subst q
    refine ok_ast3 3 rfl rfl rfl (ok_aload_n 4 rfl rfl rfl (ok_ifnonnullN 5 rfl rfl (ok_iconst 6 rfl rfl (by decide) (ok_iret 7 rfl rfl rfl ?_))))
    exact ⟨_, rfl, QA_rf h⟩
  · subst q
    have ht := sl_tA ⟨q1, q2⟩
    have nA := tA_10 ht
    have hT := (h.2.1 _ ht).1
    have m1 := hT.1
    have m2 := hT.2.1
    refine ok_ast3 3 rfl rfl rfl (ok_aload_n 4 rfl rfl rfl (ok_ifnonnull 5 12 rfl rfl rfl (ok_iload_n 8 rfl rfl rfl (ok_if_ne 9 43 rfl rfl rfl (fun h13 => ?_) (fun h13 => ?_)))))
    · refine ok_iload_n 27 rfl rfl rfl (ok_iconst 28 rfl rfl (by decide) (ok_icmp_ne 29 67 rfl rfl rfl (fun h45 => ?_) (fun h45 => ?_)))
      · refine ok_iconst 39 rfl rfl (by decide) (ok_iret 40 rfl rfl rfl ?_)
        first | exact ⟨_, rfl, QA_rf h⟩ | exact ⟨_, rfl, QA_S h (f.1.mono (fun c k w => by simp only [rgSe] at w; omega)) f.2.1 (f.2.2.mono (by decide))⟩
      · refine ok_aload_n 30 rfl rfl rfl (ok_getI 31 rfl rfl fl_X11_103 (sT ht) rfl (Or.inl rfl) (ok_iconst 32 rfl rfl (by decide) (ok_icmp_gt 33 67 rfl rfl rfl (fun h53 => ?_) (fun h53 => ?_))))
        · refine ok_iconst 39 rfl rfl (by decide) (ok_iret 40 rfl rfl rfl ?_)
          first | exact ⟨_, rfl, QA_rf h⟩ | exact ⟨_, rfl, QA_S h (f.1.mono (fun c k w => by simp only [rgSe] at w; omega)) f.2.1 (f.2.2.mono (by decide))⟩
        · refine ok_aload_n 34 rfl rfl rfl (ok_getR 35 rfl rfl fl_X11_55 rfl rfl (ok_aload_n 36 rfl rfl rfl (ok_callVI (M' := M_Se_countFewest) (as := [_]) 37 rfl rfl ml_X11_205 (s_Se_countFewest ht hT h.2.2.1) rfl rfl (Nat.le_of_ble_eq_true rfl) ⟨Nat.le_of_ble_eq_true rfl, Nat.le_of_ble_eq_true rfl⟩ rfl (Nat.le_of_ble_eq_true rfl) (fun τ z4 f => ?_))))
          refine ok_goto 38 68 rfl rfl rfl (ok_iret 40 rfl rfl rfl ?_)
          first | exact ⟨_, rfl, QA_rf h⟩ | exact ⟨_, rfl, QA_S h (f.1.mono (fun c k w => by simp only [rgSe] at w; omega)) f.2.1 (f.2.2.mono (by decide))⟩
    · refine ok_aload_n 10 rfl rfl rfl (ok_callVI (M' := M_Ta_countAbove0) (as := []) 11 rfl rfl ml_X11_112 (s_Ta_countAbove0 ht hT) (sT ht) rfl (Nat.le_of_ble_eq_true rfl) ⟨Nat.le_of_ble_eq_true rfl, Nat.le_of_ble_eq_true rfl⟩ rfl (Nat.le_of_ble_eq_true rfl) (fun σ' z1 x1 => ?_))
      obtain ⟨hs_, x1⟩ := x1
      rw [hs_]; clear hs_ σ'
      refine ok_iconst 12 rfl rfl (by decide) (ok_aload_n 13 rfl rfl rfl (ok_getI 14 rfl rfl fl_X11_103 (sT ht) rfl (Or.inl rfl) (ok_imul 15 rfl rfl (by first | omega | (simp [up_if]; omega) | (simp [up_if] at *; omega)) (ok_isubW 16 rfl rfl (ok_aload_n 17 rfl rfl rfl (ok_iconst 18 rfl rfl (by decide) (ok_callVL (M' := M_Ta_joinedBy) (as := [_]) 19 rfl rfl ml_X11_119 (s_Ta_joinedBy ht hT) (sT ht) rfl (Nat.le_of_ble_eq_true rfl) ⟨Nat.le_of_ble_eq_true rfl, Nat.le_of_ble_eq_true rfl⟩ rfl (Nat.le_of_ble_eq_true rfl) (fun σ' z2 x2 => ?_))))))))
      obtain ⟨hs_, x2⟩ := x2
      rw [hs_]; clear hs_ σ'
      refine ok_aload_n 20 rfl rfl rfl (ok_getI 21 rfl rfl fl_X11_103 (sT ht) rfl (Or.inl rfl) (ok_callSI (M' := M_Jo_countGroups) (as := [_, _]) 22 rfl rfl ml_X11_123 (s_Jo_countGroups hT.2.1) ⟨Nat.le_of_ble_eq_true rfl, Nat.le_of_ble_eq_true rfl⟩ rfl (Nat.le_of_ble_eq_true rfl) (fun σ' z3 x3 => ?_)))
      obtain ⟨hs_, x3⟩ := x3
      rw [hs_]; clear hs_ σ'
      refine ok_iaddW 23 rfl rfl (ok_iconst 24 rfl rfl (by decide) (ok_iaddW 25 rfl rfl (ok_iret 26 rfl rfl rfl ?_)))
      first | exact ⟨_, rfl, QA_rf h⟩ | exact ⟨_, rfl, QA_S h (f.1.mono (fun c k w => by simp only [rgSe] at w; omega)) f.2.1 (f.2.2.mono (by decide))⟩
