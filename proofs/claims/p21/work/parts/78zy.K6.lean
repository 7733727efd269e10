/-! PEEL and SHOP, the reference -/
def mpB (σ σ' : eS) (kind rows m r z : Int) (W : Int → Int → Int) : Prop := QP σ σ' ∧ (σ' 0 30 = kind ∧ σ' 0 28 = rows ∧ σ' 0 27 = z ∧ σ' 0 29 = m) ∧ PE rows r W (fun q => σ' 12 q) (fun q i => σ' 13 (8 * q + i)) z
def XpB (σ : eS) (s r : Int) (σ' : eS) (z : Int) : Prop := (¬ okP (evB σ s) r ∧ σ' = σ ∧ z = -1) ∨ (okP (evB σ s) r ∧ mpB σ σ' 1 (σ 1 s) (rowB σ s 0) r z (cB σ s))
theorem t_Mo_peel {σ : eS} {s r : Int} (hB : iB1 σ) : MtI shB M_Mo_peel [vr 0, vi s, vi r] σ (XpB σ s r) := by
  refine Mt.of okM_Mo_peel (Nat.le_of_ble_eq_true rfl) (fun hk hg => ?_)
  refine ok_aload_n 0 rfl rfl rfl (ok_iload_n 1 rfl rfl rfl (ok_callVI (M' := M_Mo_isEven) (as := [_]) 2 rfl rfl ml_X12_202 (s_Mo_isEven hB) rfl rfl (Nat.le_of_ble_eq_true rfl) ⟨Nat.le_of_ble_eq_true rfl, Nat.le_of_ble_eq_true rfl⟩ rfl (Nat.le_of_ble_eq_true rfl) (fun σ' z1 a1 => ?_)))
  obtain ⟨hs_, a1⟩ := a1
  rw [hs_]; clear hs_ σ'
  refine ok_if_eq 3 15 rfl rfl rfl (fun h5 => ?_) (fun h5 => ?_)
  · refine ok_iconst 7 rfl rfl (by decide) (ok_iret 8 rfl rfl rfl ?_)
    exact ⟨_, rfl, Or.inl ⟨fun c => no1 a1 h5 c.1, rfl, rfl⟩⟩
  · refine ok_iload_n 4 rfl rfl rfl (ok_callSI (M' := M_Mo_isRule) (as := [_]) 5 rfl rfl ml_X12_291 (s_Mo_isRule) ⟨Nat.le_of_ble_eq_true rfl, Nat.le_of_ble_eq_true rfl⟩ rfl (Nat.le_of_ble_eq_true rfl) (fun σ' z2 a2 => ?_))
    obtain ⟨hs_, a2⟩ := a2
    rw [hs_]; clear hs_ σ'
    refine ok_if_ne 6 17 rfl rfl rfl (fun h12 => ?_) (fun h12 => ?_)
    · have he := yes1 a1 h5
      have hr := yes1 a2 h12
      obtain ⟨t1, t2, t3⟩ := id he.1
      have tn := hB.1 s t1 t2
      have rb := rowB_bd hB ⟨t1, t2⟩ (i := 0) ⟨by omega, by omega⟩
      have hev := wo_ev hB he
      have hag := wo_wkB hB he.1
      have f := wo_fr σ s (σ 1 s) (σ 1 s * σ 1 s)
      refine ok_aload_n 9 rfl rfl rfl (ok_iload_n 10 rfl rfl rfl (ok_callVV (M' := M_Mo_worksOn) (as := [_]) 11 rfl rfl ml_X12_294 (s_Mo_worksOn hB he.1) rfl rfl (Nat.le_of_ble_eq_true rfl) ⟨Nat.le_of_ble_eq_true rfl, Nat.le_of_ble_eq_true rfl⟩ rfl (Nat.le_of_ble_eq_true rfl) (fun σ' hz => ?_)))
      rw [hz]
      clear hz σ'
      obtain ⟨τ, eτ⟩ : ∃ τ, τ = wo σ s (σ 1 s) (σ 1 s * σ 1 s) := ⟨_, rfl⟩
      rw [← eτ] at hev hag f ⊢
      have e22 : τ 0 22 = σ 1 s := by rw [eτ]; simp [wo]
      have hB' : iB1 τ := hB.fr (fun c k q => f c k (by simp only [rgS]; omega))
      have er : rowB τ s 0 = rowB σ s 0 := by
        unfold rowB cB
        rw [f 1 s (by simp)]
        exact sm_cg (fun k _ _ => by rw [f 3 _ (by simp)])
      have hnW : nW τ := ⟨by omega, by omega⟩
      refine ok_aload_n 12 rfl rfl rfl (ok_iload_n 13 rfl rfl rfl (ok_iconst 14 rfl rfl (by decide) (ok_aload_n 15 rfl rfl rfl (ok_iload_n 16 rfl rfl rfl (ok_iconst 17 rfl rfl (by decide) (ok_callVL (M' := M_Mo_rowOf) (as := [_, _]) 18 rfl rfl ml_X12_114 (s_Mo_rowOf hB' ⟨t1, t2⟩ (by rw [f 1 s (by simp)]; omega)) rfl rfl (Nat.le_of_ble_eq_true rfl) ⟨Nat.le_of_ble_eq_true rfl, Nat.le_of_ble_eq_true rfl⟩ rfl (Nat.le_of_ble_eq_true rfl) (fun σ' z hz => ?_)))))))
      rw [hz.1, hz.2, er]; clear hz z σ'
      refine ok_l2i 19 rfl rfl (by first | omega | (simp [up_if]; omega) | (simp [up_if] at *; omega)) (ok_callVI (M' := M_Mo_keepsAll) (as := [_, _, _]) 20 rfl rfl ml_X12_297 (t_Mo_keepsAll hnW hr (by rw [e22]; exact hev) ⟨by have := he.2.1; omega, by omega⟩) rfl rfl (Nat.le_of_ble_eq_true rfl) ⟨Nat.le_of_ble_eq_true rfl, Nat.le_of_ble_eq_true rfl⟩ rfl (Nat.le_of_ble_eq_true rfl) (fun σ' z hz => ?_))
      obtain ⟨hz, hP⟩ := hz
      rw [e22] at hP
      refine ok_iret 21 rfl rfl rfl ?_
      exact ⟨_, rfl, Or.inr ⟨⟨he, hr⟩, ⟨(f.mono (fun c k q => by simp only [rgS, rgP] at q ⊢; omega)).tr (hz.1.mono (fun c k q => by simp only [rgK, rgP] at q ⊢; omega)), fun _ => hz.iK hnW ⟨by omega, by omega⟩ (fun q => by omega)⟩, ⟨hz.2.2.2.2.2.2.1, by rw [hz.2.2.2.2.1, e22], hz.2.1.symm, hz.2.2.2.2.2.1⟩, PE_w0 (fun i j a b c d => hag i j a b c d) hP⟩⟩
    · refine ok_iconst 7 rfl rfl (by decide) (ok_iret 8 rfl rfl rfl ?_)
      exact ⟨_, rfl, Or.inl ⟨fun c => no1 a2 h12 c.2, rfl, rfl⟩⟩
theorem cnt_no {σ : eS} {s : Int} (hn : 0 ≤ σ 1 s ∧ σ 1 s ≤ 8) (h : cntB σ s = 0) : ¬ anyP (σ 1 s) (cB σ s) := by
  rintro ⟨i, j, a, b, c⟩
  obtain ⟨y1, y2, y3, y4⟩ := ix8 (n := σ 1 s) (i := i) (j := j) hn a b
  have x := sm_le (f := fun k => if 0 < σ 3 (64 * s + k) then (1 : Int) else 0) (n := (σ 1 s * σ 1 s).toNat) (fun k _ _ => by (try dsimp only); split <;> omega) (σ 1 s * i + j) (by omega) (by omega)
  unfold cB at c
  try dsimp only at x
  rw [if_pos (by rw [← Int.add_assoc]; exact c)] at x
  unfold cntB at h
  omega
def shB' (σ : eS) (s L : Int) : Int → Int → Int := tg (σ 1 s) L (cB σ s) (rowB σ s) (colB σ s) (σ 1 s) 0
def XsB (σ : eS) (s r : Int) (σ' : eS) (z : Int) : Prop := (¬ okS (tabB σ s) (anyP (σ 1 s) (cB σ s)) (σ 1 s) r ∧ σ' = σ ∧ z = -1) ∨ (okS (tabB σ s) (anyP (σ 1 s) (cB σ s)) (σ 1 s) r ∧ ∃ L, grS (rowB σ s) (colB σ s) (σ 1 s) L ∧ mpB σ σ' 2 (2 * σ 1 s) L r z (shB' σ s L) ∧ σ' 0 31 = σ 1 s)
theorem t_Mo_shop {σ : eS} {s r : Int} (hB : iB1 σ) : MtI shB M_Mo_shop [vr 0, vi s, vi r] σ (XsB σ s r) := by
  refine Mt.of okM_Mo_shop (Nat.le_of_ble_eq_true rfl) (fun hk hg => ?_)
  refine ok_aload_n 0 rfl rfl rfl (ok_iload_n 1 rfl rfl rfl (ok_callVI (M' := M_Mo_isTable) (as := [_]) 2 rfl rfl ml_X12_111 (s_Mo_isTable_r) rfl rfl (Nat.le_of_ble_eq_true rfl) ⟨Nat.le_of_ble_eq_true rfl, Nat.le_of_ble_eq_true rfl⟩ rfl (Nat.le_of_ble_eq_true rfl) (fun σ' z1 a1 => ?_)))
  obtain ⟨hs_, a1⟩ := a1
  rw [hs_]; clear hs_ σ'
  refine ok_if_eq 3 33 rfl rfl rfl (fun h5 => ?_) (fun h5 => ?_)
  · refine ok_iconst 17 rfl rfl (by decide) (ok_iret 18 rfl rfl rfl ?_)
    exact ⟨_, rfl, Or.inl ⟨fun c => no1 a1 h5 c.1, rfl, rfl⟩⟩
  · obtain ⟨u1, u2, u3⟩ := yes1 a1 h5
    have tn := hB.1 s u1 u2
    refine ok_aload_n 4 rfl rfl rfl (ok_getR 5 rfl rfl fl_X12_7 rfl rfl (ok_iload_n 6 rfl rfl rfl (ok_iald 7 rfl rfl rfl (by first | omega | (simp [up_if]; omega) | (simp [up_if] at *; omega)) (ok_iconst 8 rfl rfl (by decide) (ok_icmp_gt 9 33 rfl rfl rfl (fun h15 => ?_) (fun h15 => ?_))))))
    · refine ok_iconst 17 rfl rfl (by decide) (ok_iret 18 rfl rfl rfl ?_)
      exact ⟨_, rfl, Or.inl ⟨fun c => by have := c.2.1; omega, rfl, rfl⟩⟩
    · refine ok_aload_n 10 rfl rfl rfl (ok_iload_n 11 rfl rfl rfl (ok_callVI (M' := M_Mo_aboveNought) (as := [_]) 12 rfl rfl ml_X12_205 (s_Mo_aboveNought hB ⟨u1, u2⟩) rfl rfl (Nat.le_of_ble_eq_true rfl) ⟨Nat.le_of_ble_eq_true rfl, Nat.le_of_ble_eq_true rfl⟩ rfl (Nat.le_of_ble_eq_true rfl) (fun σ' z hz => ?_)))
      rw [hz.1, hz.2]
      clear hz z σ'
      refine ok_if_eq 13 33 rfl rfl rfl (fun h23 => ?_) (fun h23 => ?_)
      · refine ok_iconst 17 rfl rfl (by decide) (ok_iret 18 rfl rfl rfl ?_)
        exact ⟨_, rfl, Or.inl ⟨fun c => cnt_no ⟨by omega, by omega⟩ h23 c.2.2.1, rfl, rfl⟩⟩
      · refine ok_iload_n 14 rfl rfl rfl (ok_callSI (M' := M_Mo_isRule) (as := [_]) 15 rfl rfl ml_X12_291 (s_Mo_isRule) ⟨Nat.le_of_ble_eq_true rfl, Nat.le_of_ble_eq_true rfl⟩ rfl (Nat.le_of_ble_eq_true rfl) (fun σ' z2 a2 => ?_))
        obtain ⟨hs_, a2⟩ := a2
        rw [hs_]; clear hs_ σ'
        refine ok_if_ne 16 35 rfl rfl rfl (fun h30 => ?_) (fun h30 => ?_)
        · refine ok_aload_n 19 rfl rfl rfl (ok_getR 20 rfl rfl fl_X12_7 rfl rfl (ok_iload_n 21 rfl rfl rfl (ok_iald 22 rfl rfl rfl (by first | omega | (simp [up_if]; omega) | (simp [up_if] at *; omega)) (ok_ist3 23 rfl rfl rfl (ok_lconst (w := 0) 24 rfl rfl rfl (by decide) (ok_lst4 25 rfl rfl rfl (ok_iconst 26 rfl rfl (by decide) (ok_ist6 27 rfl rfl rfl ?_))))))))
          obtain ⟨i0, j0, p1, p2, p3, p4, p5⟩ := cnt_ex ⟨by omega, by omega⟩ h23
          have hr := yes1 a2 h30
          obtain ⟨n, en⟩ : ∃ n, n = σ 1 s := ⟨_, rfl⟩
          rw [← en]
          have n1 : 1 ≤ n ∧ n ≤ 4 := by omega
          refine lpO2 (fun v i : Int => [some (vr 0), some (vi s), some (vi r), some (vi n), some (vl v), none, some (vi i), none]) (fun _ _ => σ) (fun v i => 0 ≤ i ∧ i ≤ n ∧ 0 ≤ v ∧ v ≤ 799999992 ∧ grS (rowB σ s) (colB σ s) i v) (fun _ i => (n - i).toNat) ?_ 0 0 ⟨by omega, by omega, by omega, by omega, fun k a b => by omega, Or.inl rfl⟩
          rintro v i ⟨i1, i2, v1, v2, vm, vx⟩ ih
          refine ok_iload 28 rfl rfl rfl (ok_iload_n 29 rfl rfl rfl (ok_icmp_ge 30 84 rfl rfl rfl (fun h51 => ?_) (fun h51 => ?_)))
          · have ei : i = n := by omega
            have vrow : ∀ k, 0 ≤ k → k < n → rowB σ s k ≤ v := fun k a b => (vm k a (by omega)).1
            have vcol : ∀ k, 0 ≤ k → k < n → colB σ s k ≤ v := fun k a b => (vm k a (by omega)).2
            have vp : 1 ≤ v := by
              have := sm_le (f := fun j => cB σ s i0 j) (n := (σ 1 s).toNat) (fun k a b => (cB_bd hB ⟨u1, u2⟩ ⟨p1, p2⟩ ⟨a, by omega⟩).1) j0 p3 (by omega)
              have h2 := vrow i0 p1 (by omega)
              unfold rowB at h2
              omega
            have hgr : grS (rowB σ s) (colB σ s) n v := by rw [← ei]; exact ⟨vm, vx⟩
            clear vm vx ih
            refine ok_aload_n 45 rfl rfl rfl (ok_iconst 46 rfl rfl (by decide) (ok_iload_n 47 rfl rfl rfl (ok_imul 48 rfl rfl (by first | omega | (simp [up_if]; omega) | (simp [up_if] at *; omega)) (ok_putI 49 rfl rfl fl_X12_234 rfl rfl rfl rfl (ok_iconst 50 rfl rfl (by decide) (ok_ist6 51 rfl rfl rfl ?_))))))
            refine lpO2 (fun (i : Int) (_ : eS) => [some (vr 0), some (vi s), some (vi r), some (vi n), some (vl v), none, some (vi i), none]) (fun _ ρ => ρ) (fun i ρ => 0 ≤ i ∧ i ≤ 64 ∧ fr rgS σ ρ ∧ ρ 0 22 = 2 * n ∧ ∀ k, 0 ≤ k → k < i → ρ 9 k = 0) (fun i _ => (64 - i).toNat) ?_ 0 _ ⟨by omega, by omega, fr_up fr.rf (by simp [rgS]), up_same _ _ _ _, fun k a b => by omega⟩
            rintro i ρ ⟨i1, i2, f, e22, hz⟩ ih
            refine ok_iload 52 rfl rfl rfl (ok_bipush 53 rfl rfl (by decide) (by decide) (ok_icmp_ge 54 115 rfl rfl rfl (fun h98 => ?_) (fun h98 => ?_)))
            · have w0 : ∀ a b, 0 ≤ a → a < 2 * n → 0 ≤ b → b < 2 * n → wk ρ a b = 0 := fun a b a1 a2 b1 b2 => by
                have g := ix8 (n := 2 * n) (i := a) (j := b) ⟨by omega, by omega⟩ ⟨a1, a2⟩ ⟨b1, b2⟩
                unfold wk
                rw [e22]
                exact hz _ (by omega) (by omega)
              clear hz ih
              refine ok_iconst 62 rfl rfl (by decide) (ok_ist6 63 rfl rfl rfl ?_)
              refine lpO2 (fun (i : Int) (_ : eS) => [some (vr 0), some (vi s), some (vi r), some (vi n), some (vl v), none, some (vi i), none]) (fun _ ρ => ρ) (fun i ρ => 0 ≤ i ∧ i ≤ n ∧ fr rgS σ ρ ∧ ρ 0 22 = 2 * n ∧ ∀ a b, 0 ≤ a → a < 2 * n → 0 ≤ b → b < 2 * n → wk ρ a b = tg n v (cB σ s) (rowB σ s) (colB σ s) i 0 a b) (fun i _ => (n - i).toNat) ?_ 0 _ ⟨by omega, by omega, f, e22, fun a b a1 a2 b1 b2 => by rw [w0 a b a1 a2 b1 b2, tg_0 ⟨a1, a2⟩ ⟨b1, b2⟩]⟩
              clear w0 f e22 i1 i2 ρ
              rintro i ρ ⟨i1, i2, f, e22, hw⟩ ih
              refine ok_iload 64 rfl rfl rfl (ok_iload_n 65 rfl rfl rfl (ok_icmp_ge 66 253 rfl rfl rfl (fun h121 => ?_) (fun h121 => ?_)))
              · have hagr : ag (2 * n) (wk (up ρ 0 31 n)) (tg n v (cB σ s) (rowB σ s) (colB σ s) n 0) := fun a b a1 a2 b1 b2 => by
                  have ei : i = n := by omega
                  have hw' := hw a b a1 a2 b1 b2
                  rw [ei] at hw'
                  rw [← hw']
                  unfold wk
                  rw [up_ne _ _ _ _ (show (9 : Nat) ≠ 0 by decide), up_nk _ _ _ _ (show (22 : Int) ≠ 31 by decide)]
                have hev : EvW (2 * n) (wk (up ρ 0 31 n)) v := by
                  refine EvW_cg (w := tg n v (cB σ s) (rowB σ s) (colB σ s) n 0) ?_ hagr
                  · have hr2 : rowB σ s = fun i => sm (fun j => cB σ s i j) n.toNat := by funext i; unfold rowB; rw [en]
                    have hc2 : colB σ s = fun j => sm (fun i => cB σ s i j) n.toNat := by funext i; unfold colB; rw [en]
                    rw [hr2] at vrow ⊢
                    rw [hc2] at vcol ⊢
                    exact tg_ev (by omega) (fun i j a b c d => (cB_bd hB ⟨u1, u2⟩ ⟨a, by omega⟩ ⟨c, by omega⟩).1) vrow vcol
                have f31 : fr rgP σ (up ρ 0 31 n) := fr_up (f.mono (fun c k q => by simp only [rgS, rgP] at q ⊢; omega)) (by simp [rgP])
                have e22' : up ρ 0 31 n 0 22 = 2 * n := by rw [up_nk _ _ _ _ (by decide)]; exact e22
                have e31 : up ρ 0 31 n 0 31 = n := up_same _ _ _ _
                have hnW : nW (up ρ 0 31 n) := ⟨by omega, by omega⟩
                refine ok_aload_n 144 rfl rfl rfl (ok_iload_n 145 rfl rfl rfl (ok_putI 146 rfl rfl fl_X12_363 rfl rfl rfl rfl (ok_aload_n 147 rfl rfl rfl (ok_iload_n 148 rfl rfl rfl (ok_iconst 149 rfl rfl (by decide) (ok_lload 150 rfl rfl rfl (ok_l2i 151 rfl rfl (by first | omega | (simp [up_if]; omega) | (simp [up_if] at *; omega)) (ok_callVI (M' := M_Mo_keepsAll) (as := [_, _, _]) 152 rfl rfl ml_X12_297 (t_Mo_keepsAll hnW hr (by rw [e22']; exact hev) ⟨vp, v2⟩) rfl rfl (Nat.le_of_ble_eq_true rfl) ⟨Nat.le_of_ble_eq_true rfl, Nat.le_of_ble_eq_true rfl⟩ rfl (Nat.le_of_ble_eq_true rfl) (fun σ' z hz => ?_)))))))))
                obtain ⟨hz, hP⟩ := hz
                rw [e22'] at hP
                refine ok_iret 153 rfl rfl rfl ?_
                refine ⟨_, rfl, Or.inr ⟨⟨⟨u1, u2, u3⟩, by omega, ⟨i0, j0, ⟨p1, p2⟩, ⟨p3, p4⟩, p5⟩, hr⟩, v, by rw [← en]; exact hgr, ⟨⟨f31.tr (hz.1.mono (fun c k q => by simp only [rgK, rgP] at q ⊢; omega)), fun _ => hz.iK hnW ⟨by omega, v2⟩ (fun _ => by rw [e31, e22']; omega)⟩, ⟨hz.2.2.2.2.2.2.1, by rw [hz.2.2.2.2.1, e22', en], hz.2.1.symm, hz.2.2.2.2.2.1⟩, ?_⟩, by rw [hz.1 0 31 (by simp [rgK]), e31, en]⟩⟩
                unfold shB'
                rw [← en]
                exact PE_w0 hagr hP
              · refine ok_iconst 67 rfl rfl (by decide) (ok_ist7 68 rfl rfl rfl ?_)
                refine lpO2 (fun (j : Int) (_ : eS) => [some (vr 0), some (vi s), some (vi r), some (vi n), some (vl v), none, some (vi i), some (vi j)]) (fun _ υ => υ) (fun j υ => 0 ≤ j ∧ j ≤ n ∧ fr rgS σ υ ∧ υ 0 22 = 2 * n ∧ ∀ a b, 0 ≤ a → a < 2 * n → 0 ≤ b → b < 2 * n → wk υ a b = tg n v (cB σ s) (rowB σ s) (colB σ s) i j a b) (fun j _ => (n - j).toNat) ?_ 0 _ ⟨by omega, by omega, f, e22, hw⟩
                clear hw f e22 ρ
                rintro j υ ⟨j1, j2, f, e22, hw⟩ ih2
                have bi1 := ix8 (n := 2 * n) (i := i) (j := j) ⟨by omega, by omega⟩ ⟨by omega, by omega⟩ ⟨by omega, by omega⟩
                have bi2 := ix8 (n := 2 * n) (i := i) (j := n + i) ⟨by omega, by omega⟩ ⟨by omega, by omega⟩ ⟨by omega, by omega⟩
                have bi3 := ix8 (n := 2 * n) (i := n + i) (j := i) ⟨by omega, by omega⟩ ⟨by omega, by omega⟩ ⟨by omega, by omega⟩
                have E : ∀ τ : eS, fr rgS σ τ → iB1 τ ∧ τ 1 s = n ∧ cB τ s = cB σ s ∧ rowB τ s = rowB σ s ∧ colB τ s = colB σ s := fun τ g => by
                  have e1 : ∀ k, τ 1 k = σ 1 k := fun k => g 1 k (by simp [rgS])
                  have e3 : ∀ k, τ 3 k = σ 3 k := fun k => g 3 k (by simp [rgS])
                  refine ⟨iB1_frS hB g (fun c k q => by simp only [rgS]; omega), by rw [e1, en], ?_, ?_, ?_⟩
                  · funext a b; unfold cB; rw [e1, e3]
                  · funext a; unfold rowB cB; simp only [e1, e3]
                  · funext a; unfold colB cB; simp only [e1, e3]
                refine ok_iload 69 rfl rfl rfl (ok_iload_n 70 rfl rfl rfl (ok_icmp_ge 71 191 rfl rfl rfl (fun h130 => ?_) (fun h130 => ?_)))
                · have ej : j = n := by omega
                  obtain ⟨eb, e1, ec, er, el⟩ := E υ f
                  have g1 := fun z => E (up υ 9 (2 * n * i + n + i) z) (fr_up f (by simp [rgS]))
                  have b1 := vrow i (by omega) (by omega)
                  have b2 := vcol i (by omega) (by omega)
                  have b3 := rowB_bd hB ⟨u1, u2⟩ (i := i) ⟨by omega, by omega⟩
                  have b4 := colB_bd hB ⟨u1, u2⟩ (j := i) ⟨by omega, by omega⟩
                  refine ok_aload_n 106 rfl rfl rfl (ok_getR 107 rfl rfl fl_X12_39 rfl rfl (ok_aload_n 108 rfl rfl rfl (ok_getI 109 rfl rfl fl_X12_234 rfl rfl (Or.inl rfl) ?_)))
                  rw [e22]
                  refine ok_iload 110 rfl rfl rfl (ok_imul 111 rfl rfl (by first | omega | (simp [up_if]; omega) | (simp [up_if] at *; omega)) (ok_iload_n 112 rfl rfl rfl (ok_iadd 113 rfl rfl (by first | omega | (simp [up_if]; omega) | (simp [up_if] at *; omega)) (ok_iload 114 rfl rfl rfl (ok_iadd 115 rfl rfl (by first | omega | (simp [up_if]; omega) | (simp [up_if] at *; omega)) (ok_lload 116 rfl rfl rfl (ok_aload_n 117 rfl rfl rfl (ok_iload_n 118 rfl rfl rfl (ok_iload 119 rfl rfl rfl (ok_callVL (M' := M_Mo_rowOf) (as := [_, _]) 120 rfl rfl ml_X12_114 (s_Mo_rowOf eb ⟨u1, u2⟩ ⟨by omega, by omega⟩) rfl rfl (Nat.le_of_ble_eq_true rfl) ⟨Nat.le_of_ble_eq_true rfl, Nat.le_of_ble_eq_true rfl⟩ rfl (Nat.le_of_ble_eq_true rfl) (fun σ' z hz => ?_)))))))))))
                  rw [hz.1, hz.2, er]; clear hz z σ'
                  refine ok_lsub 121 rfl rfl (by first | omega | (simp [up_if]; omega) | (simp [up_if] at *; omega)) (ok_l2i 122 rfl rfl (by first | omega | (simp [up_if]; omega) | (simp [up_if] at *; omega)) (ok_iast 123 rfl rfl rfl (by first | omega | (simp [up_if]; omega) | (simp [up_if] at *; omega)) (ok_aload_n 124 rfl rfl rfl (ok_getR 125 rfl rfl fl_X12_39 rfl rfl (ok_aload_n 126 rfl rfl rfl (ok_getI 127 rfl rfl fl_X12_234 rfl rfl (Or.inl rfl) ?_))))))
                  rw [up_ne _ _ _ _ (show (0 : Nat) ≠ 9 by decide), e22]
                  refine ok_iload_n 128 rfl rfl rfl (ok_iload 129 rfl rfl rfl (ok_iadd 130 rfl rfl (by first | omega | (simp [up_if]; omega) | (simp [up_if] at *; omega)) (ok_imul 131 rfl rfl (by first | omega | (simp [up_if]; omega) | (simp [up_if] at *; omega)) (ok_iload 132 rfl rfl rfl (ok_iadd 133 rfl rfl (by first | omega | (simp [up_if]; omega) | (simp [up_if] at *; omega)) (ok_lload 134 rfl rfl rfl (ok_aload_n 135 rfl rfl rfl (ok_iload_n 136 rfl rfl rfl (ok_iload 137 rfl rfl rfl (ok_callVL (M' := M_Mo_columnOf) (as := [_, _]) 138 rfl rfl ml_X12_122 (s_Mo_columnOf (g1 _).1 ⟨u1, u2⟩ ⟨by omega, by rw [(g1 _).2.1]; omega⟩) rfl rfl (Nat.le_of_ble_eq_true rfl) ⟨Nat.le_of_ble_eq_true rfl, Nat.le_of_ble_eq_true rfl⟩ rfl (Nat.le_of_ble_eq_true rfl) (fun σ' z hz => ?_)))))))))))
                  rw [hz.1, hz.2, (g1 _).2.2.2.2]; clear hz z σ'
                  refine ok_lsub 139 rfl rfl (by first | omega | (simp [up_if]; omega) | (simp [up_if] at *; omega)) (ok_l2i 140 rfl rfl (by first | omega | (simp [up_if]; omega) | (simp [up_if] at *; omega)) (ok_iast 141 rfl rfl rfl (by first | omega | (simp [up_if]; omega) | (simp [up_if] at *; omega)) (ok_inc6 142 rfl rfl rfl (by first | omega | (simp [up_if]; omega) | (simp [up_if] at *; omega)) (ok_goto 143 118 rfl rfl rfl ?_))))
                  rw [Int.add_assoc (2 * n * i) n i]
                  rw [ej] at hw
                  refine ok_fg [some (vr 0), some (vi s), some (vi r), some (vi n), some (vl v), none, some (vi (i + 1)), none] ⟨rfl, rfl, rfl, rfl, rfl, rfl, trivial⟩ (ih (i + 1) _ ⟨by omega, by omega, fr_up (fr_up f (by simp [rgS])) (by simp [rgS]), by rw [up_ne _ _ _ _ (by decide), up_ne _ _ _ _ (by decide)]; exact e22, fun a b a1 a2 b1 b2 => ?_⟩ (by omega))
                  rw [wk_up (by rw [up_ne _ _ _ _ (by decide)]; exact e22) ⟨by omega, by omega⟩ ⟨by omega, by omega⟩ ⟨b1, b2⟩, wk_up e22 ⟨by omega, by omega⟩ ⟨by omega, by omega⟩ ⟨b1, b2⟩, hw a b a1 a2 b1 b2]
                  exact tg_d ⟨by omega, by omega⟩ ⟨a1, a2⟩ ⟨b1, b2⟩
                · have bi4 := ix8 (n := 2 * n) (i := n + j) (j := n + i) ⟨by omega, by omega⟩ ⟨by omega, by omega⟩ ⟨by omega, by omega⟩
                  obtain ⟨eb, e1, ec, er, el⟩ := E υ f
                  have g1 := fun z => E (up υ 9 (2 * n * i + j) z) (fr_up f (by simp [rgS]))
                  refine ok_aload_n 72 rfl rfl rfl (ok_getR 73 rfl rfl fl_X12_39 rfl rfl (ok_aload_n 74 rfl rfl rfl (ok_getI 75 rfl rfl fl_X12_234 rfl rfl (Or.inl rfl) ?_)))
                  rw [e22]
                  refine ok_iload 76 rfl rfl rfl (ok_imul 77 rfl rfl (by first | omega | (simp [up_if]; omega) | (simp [up_if] at *; omega)) (ok_iload 78 rfl rfl rfl (ok_iadd 79 rfl rfl (by first | omega | (simp [up_if]; omega) | (simp [up_if] at *; omega)) (ok_aload_n 80 rfl rfl rfl (ok_iload_n 81 rfl rfl rfl (ok_iload 82 rfl rfl rfl (ok_iload 83 rfl rfl rfl (ok_callVI (M' := M_Mo_at) (as := [_, _, _]) 84 rfl rfl ml_X12_107 (s_Mo_at eb ⟨u1, u2⟩ ⟨by omega, by omega⟩ ⟨by omega, by omega⟩) rfl rfl (Nat.le_of_ble_eq_true rfl) ⟨Nat.le_of_ble_eq_true rfl, Nat.le_of_ble_eq_true rfl⟩ rfl (Nat.le_of_ble_eq_true rfl) (fun σ' z hz => ?_)))))))))
                  rw [hz.1, hz.2, ec]; clear hz z σ'
                  refine ok_iast 85 rfl rfl rfl (by first | omega | (simp [up_if]; omega) | (simp [up_if] at *; omega)) (ok_aload_n 86 rfl rfl rfl (ok_getR 87 rfl rfl fl_X12_39 rfl rfl (ok_aload_n 88 rfl rfl rfl (ok_getI 89 rfl rfl fl_X12_234 rfl rfl (Or.inl rfl) ?_))))
                  rw [up_ne _ _ _ _ (show (0 : Nat) ≠ 9 by decide), e22]
                  refine ok_iload_n 90 rfl rfl rfl (ok_iload 91 rfl rfl rfl (ok_iadd 92 rfl rfl (by first | omega | (simp [up_if]; omega) | (simp [up_if] at *; omega)) (ok_imul 93 rfl rfl (by first | omega | (simp [up_if]; omega) | (simp [up_if] at *; omega)) (ok_iload_n 94 rfl rfl rfl (ok_iadd 95 rfl rfl (by first | omega | (simp [up_if]; omega) | (simp [up_if] at *; omega)) (ok_iload 96 rfl rfl rfl (ok_iadd 97 rfl rfl (by first | omega | (simp [up_if]; omega) | (simp [up_if] at *; omega)) (ok_aload_n 98 rfl rfl rfl (ok_iload_n 99 rfl rfl rfl (ok_iload 100 rfl rfl rfl (ok_iload 101 rfl rfl rfl (ok_callVI (M' := M_Mo_at) (as := [_, _, _]) 102 rfl rfl ml_X12_107 (s_Mo_at (g1 _).1 ⟨u1, u2⟩ ⟨by omega, by rw [(g1 _).2.1]; omega⟩ ⟨by omega, by rw [(g1 _).2.1]; omega⟩) rfl rfl (Nat.le_of_ble_eq_true rfl) ⟨Nat.le_of_ble_eq_true rfl, Nat.le_of_ble_eq_true rfl⟩ rfl (Nat.le_of_ble_eq_true rfl) (fun σ' z hz => ?_)))))))))))))
                  rw [hz.1, hz.2, (g1 _).2.2.1]; clear hz z σ'
                  refine ok_iast 103 rfl rfl rfl (by first | omega | (simp [up_if]; omega) | (simp [up_if] at *; omega)) (ok_inc7 104 rfl rfl rfl (by first | omega | (simp [up_if]; omega) | (simp [up_if] at *; omega)) (ok_goto 105 127 rfl rfl rfl ?_))
                  rw [Int.add_assoc (2 * n * (n + j)) n i]
                  refine ih2 (j + 1) _ ⟨by omega, by omega, fr_up (fr_up f (by simp [rgS])) (by simp [rgS]), by rw [up_ne _ _ _ _ (by decide), up_ne _ _ _ _ (by decide)]; exact e22, fun a b a1 a2 b1 b2 => ?_⟩ (by omega)
                  rw [wk_up (by rw [up_ne _ _ _ _ (by decide)]; exact e22) ⟨by omega, by omega⟩ ⟨by omega, by omega⟩ ⟨b1, b2⟩, wk_up e22 ⟨by omega, by omega⟩ ⟨by omega, by omega⟩ ⟨b1, b2⟩, hw a b a1 a2 b1 b2]
                  exact tg_s ⟨by omega, by omega⟩ ⟨by omega, by omega⟩
            · refine ok_aload_n 55 rfl rfl rfl (ok_getR 56 rfl rfl fl_X12_39 rfl rfl (ok_iload 57 rfl rfl rfl (ok_iconst 58 rfl rfl (by decide) (ok_iast 59 rfl rfl rfl (by first | omega | (simp [up_if]; omega) | (simp [up_if] at *; omega)) (ok_inc6 60 rfl rfl rfl (by first | omega | (simp [up_if]; omega) | (simp [up_if] at *; omega)) (ok_goto 61 94 rfl rfl rfl ?_))))))
              refine ih (i + 1) _ ⟨by omega, by omega, fr_up f (by simp [rgS]), by rw [up_ne _ _ _ _ (by decide)]; exact e22, fun k a b => ?_⟩ (by omega)
              rw [up_if]
              by_cases q : k = i
              · rw [if_pos ⟨rfl, q⟩]
              · rw [if_neg (fun y => q y.2)]; exact hz k a (by omega)
          · have rb := rowB_bd hB ⟨u1, u2⟩ (i := i) ⟨i1, by omega⟩
            have cb := colB_bd hB ⟨u1, u2⟩ (j := i) ⟨i1, by omega⟩
            refine ok_lload 31 rfl rfl rfl (ok_aload_n 32 rfl rfl rfl (ok_iload_n 33 rfl rfl rfl (ok_iload 34 rfl rfl rfl (ok_callVL (M' := M_Mo_rowOf) (as := [_, _]) 35 rfl rfl ml_X12_114 (s_Mo_rowOf hB ⟨u1, u2⟩ ⟨by omega, by omega⟩) rfl rfl (Nat.le_of_ble_eq_true rfl) ⟨Nat.le_of_ble_eq_true rfl, Nat.le_of_ble_eq_true rfl⟩ rfl (Nat.le_of_ble_eq_true rfl) (fun σ' z hz => ?_)))))
            rw [hz.1, hz.2]
            clear hz z σ'
            refine ok_aload_n 36 rfl rfl rfl (ok_iload_n 37 rfl rfl rfl (ok_iload 38 rfl rfl rfl (ok_callVL (M' := M_Mo_columnOf) (as := [_, _]) 39 rfl rfl ml_X12_122 (s_Mo_columnOf hB ⟨u1, u2⟩ ⟨by omega, by omega⟩) rfl rfl (Nat.le_of_ble_eq_true rfl) ⟨Nat.le_of_ble_eq_true rfl, Nat.le_of_ble_eq_true rfl⟩ rfl (Nat.le_of_ble_eq_true rfl) (fun σ' z hz => ?_))))
            rw [hz.1, hz.2]
            clear hz z σ'
            refine ok_mmaxL 40 rfl rfl ml_X12_250 ⟨Nat.le_of_ble_eq_true rfl, Nat.le_of_ble_eq_true rfl⟩ (ok_mmaxL 41 rfl rfl ml_X12_250 ⟨Nat.le_of_ble_eq_true rfl, Nat.le_of_ble_eq_true rfl⟩ (ok_lst4 42 rfl rfl rfl (ok_inc6 43 rfl rfl rfl (by first | omega | (simp [up_if]; omega) | (simp [up_if] at *; omega)) (ok_goto 44 48 rfl rfl rfl ?_))))
            refine ih _ (i + 1) ⟨by omega, by omega, by omega, by omega, lt_ext (fun k a b => ?_) (by omega), grS_s i1 vx (by omega)⟩ (by omega)
            have := vm k a b
            omega
        · refine ok_iconst 17 rfl rfl (by decide) (ok_iret 18 rfl rfl rfl ?_)
          exact ⟨_, rfl, Or.inl ⟨fun c => no1 a2 h30 c.2.2.2, rfl, rfl⟩⟩
