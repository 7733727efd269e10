abbrev rgC : Nat → Int → Prop := fun c _ => c = 17
def capB (σ : eS) (B : Int) : Prop := ∀ k, 0 ≤ k → k < 400 → -B ≤ σ 17 k ∧ σ 17 k ≤ B
theorem capB_mono {σ : eS} {B B' : Int} (h : capB σ B) (hb : B ≤ B') : capB σ B' := fun k a b => by have := h k a b; omega
theorem capB_up {σ : eS} {B d k z : Int} (h : capB σ B) (hd : 0 ≤ d) (hz : -(B + d) ≤ z ∧ z ≤ B + d) : capB (up σ 17 k z) (B + d) := fun q a b => by
  rw [up_if]
  by_cases y : q = k
  · rw [if_pos ⟨rfl, y⟩]; exact hz
  · rw [if_neg (fun w => y w.2)]; have := h q a b; omega
theorem s_Mo_edge {σ : eS} {f t lo hi B : Int} (hf : 0 ≤ f ∧ f ≤ 17) (ht : 0 ≤ t ∧ t ≤ 19) (hl : 0 ≤ lo ∧ lo ≤ 64) (hh : 0 ≤ hi ∧ hi ≤ 64) (hB : capB σ B) (hB1 : 0 ≤ B ∧ B ≤ 1000000) : MtV shB M_Mo_edge [vr 0, vi f, vi t, vi lo, vi hi] σ (fun σ' => fr rgC σ σ' ∧ capB σ' (B + 192)) := by
  refine Mt.of okM_Mo_edge (Nat.le_of_ble_eq_true rfl) (fun hk hg => ?_)
  have c1 := hB (20 * f + t) (by omega) (by omega)
  have h1 := capB_up (d := 64) (k := 20 * f + t) (z := σ 17 (20 * f + t) + (hi - lo)) hB (by omega) ⟨by omega, by omega⟩
  obtain ⟨τ, eτ⟩ : ∃ τ, τ = up σ 17 (20 * f + t) (σ 17 (20 * f + t) + (hi - lo)) := ⟨_, rfl⟩
  rw [← eτ] at h1
  have c2 := h1 (360 + t) (by omega) (by omega)
  have h2 := capB_up (d := 64) (k := 360 + t) (z := τ 17 (360 + t) + lo) h1 (by omega) ⟨by omega, by omega⟩
  obtain ⟨υ, eυ⟩ : ∃ υ, υ = up τ 17 (360 + t) (τ 17 (360 + t) + lo) := ⟨_, rfl⟩
  rw [← eυ] at h2
  have c3 := h2 (20 * f + 19) (by omega) (by omega)
  have h3 := capB_up (d := 64) (k := 20 * f + 19) (z := υ 17 (20 * f + 19) + lo) h2 (by omega) ⟨by omega, by omega⟩
  have f1 : fr rgC σ τ := by rw [eτ]; exact fr_up fr.rf rfl
  have f2 : fr rgC σ υ := by rw [eυ]; exact fr_up f1 rfl
  refine ok_aload_n 0 rfl rfl rfl (ok_getR 1 rfl rfl fl_X12_63 rfl rfl (ok_bipush 2 rfl rfl (by decide) (by decide) (ok_iload_n 3 rfl rfl rfl (ok_imul 4 rfl rfl (by first | omega | (simp [up_if]; omega) | (simp [up_if] at *; omega)) (ok_iload_n 5 rfl rfl rfl (ok_iadd 6 rfl rfl (by first | omega | (simp [up_if]; omega) | (simp [up_if] at *; omega)) (ok_dup2 7 rfl rfl ⟨rfl, rfl⟩ (ok_iald 8 rfl rfl rfl (by first | omega | (simp [up_if]; omega) | (simp [up_if] at *; omega)) (ok_iload 9 rfl rfl rfl (ok_iload_n 10 rfl rfl rfl (ok_isub 11 rfl rfl (by first | omega | (simp [up_if]; omega) | (simp [up_if] at *; omega)) (ok_iadd 12 rfl rfl (by first | omega | (simp [up_if]; omega) | (simp [up_if] at *; omega)) (ok_iast 13 rfl rfl rfl (by first | omega | (simp [up_if]; omega) | (simp [up_if] at *; omega)) ?_)))))))))))))
  rw [← eτ]
  refine ok_aload_n 14 rfl rfl rfl (ok_getR 15 rfl rfl fl_X12_63 rfl rfl (ok_sipush 16 rfl rfl (by decide) (by decide) (ok_iload_n 17 rfl rfl rfl (ok_iadd 18 rfl rfl (by first | omega | (simp [up_if]; omega) | (simp [up_if] at *; omega)) (ok_dup2 19 rfl rfl ⟨rfl, rfl⟩ (ok_iald 20 rfl rfl rfl (by first | omega | (simp [up_if]; omega) | (simp [up_if] at *; omega)) (ok_iload_n 21 rfl rfl rfl (ok_iadd 22 rfl rfl (by first | omega | (simp [up_if]; omega) | (simp [up_if] at *; omega)) (ok_iast 23 rfl rfl rfl (by first | omega | (simp [up_if]; omega) | (simp [up_if] at *; omega)) ?_)))))))))
  rw [← eυ]
  refine ok_aload_n 24 rfl rfl rfl (ok_getR 25 rfl rfl fl_X12_63 rfl rfl (ok_bipush 26 rfl rfl (by decide) (by decide) (ok_iload_n 27 rfl rfl rfl (ok_imul 28 rfl rfl (by first | omega | (simp [up_if]; omega) | (simp [up_if] at *; omega)) (ok_bipush 29 rfl rfl (by decide) (by decide) (ok_iadd 30 rfl rfl (by first | omega | (simp [up_if]; omega) | (simp [up_if] at *; omega)) (ok_dup2 31 rfl rfl ⟨rfl, rfl⟩ (ok_iald 32 rfl rfl rfl (by first | omega | (simp [up_if]; omega) | (simp [up_if] at *; omega)) (ok_iload_n 33 rfl rfl rfl (ok_iadd 34 rfl rfl (by first | omega | (simp [up_if]; omega) | (simp [up_if] at *; omega)) (ok_iast 35 rfl rfl rfl (by first | omega | (simp [up_if]; omega) | (simp [up_if] at *; omega)) (ok_vret 36 rfl rfl rfl ?_))))))))))))
  exact ⟨rfl, fr_up f2 rfl, capB_mono h3 (by omega)⟩
def nD (τ : eS) : Int := sm (fun v => if τ 18 v = -1 then 0 else 1) 20
def TrB (τ : eS) (tl : Int) (rk : Int → Int) : Prop := (∀ v, 0 ≤ v → v < 20 → τ 18 v ≠ -1 → 0 ≤ rk v ∧ rk v < tl ∧ 0 ≤ τ 18 v ∧ τ 18 v < 20 ∧ (v ≠ 18 → τ 18 (τ 18 v) ≠ -1 ∧ rk (τ 18 v) < rk v ∧ 0 < τ 17 (20 * τ 18 v + v))) ∧ τ 18 18 = 18 ∧ (∀ q, 0 ≤ q → q < tl → 0 ≤ τ 19 q ∧ τ 19 q < 20 ∧ τ 18 (τ 19 q) ≠ -1) ∧ nD τ = tl ∧ 1 ≤ tl
abbrev rgY : Nat → Int → Prop := fun c _ => c = 18 ∨ c = 19
theorem nD_bd (τ : eS) : 0 ≤ nD τ ∧ nD τ ≤ 20 := by
  have := sm_bd (f := fun v => if τ 18 v = -1 then (0 : Int) else 1) (B := 1) (by decide) (n := 20) (fun k _ _ => by split <;> omega)
  unfold nD
  omega
theorem nD_up {τ : eS} {v z : Int} (hv : 0 ≤ v ∧ v < 20) (h : τ 18 v = -1) (hz : z ≠ -1) (x y : Int) : nD (up (up τ 18 v z) 19 x y) = nD τ + 1 := by
  have e : nD (up (up τ 18 v z) 19 x y) = nD τ + sm (fun k => if k = v then (1 : Int) else 0) 20 := by
    have key : ∀ n : Nat, sm (fun k => if up (up τ 18 v z) 19 x y 18 k = -1 then (0 : Int) else 1) n = sm (fun k => if τ 18 k = -1 then (0 : Int) else 1) n + sm (fun k => if k = v then (1 : Int) else 0) n := by
      intro n
      induction n with
      | zero => rfl
      | succ n ih =>
        have e1 : ∀ f : Int → Int, sm f (n + 1) = sm f n + f n := fun f => rfl
        rw [e1, e1, e1, ih, up_ne _ _ _ _ (by decide), up_if]
        by_cases q : (n : Int) = v
        · rw [if_pos (⟨rfl, q⟩ : (18 : Nat) = 18 ∧ (n : Int) = v), if_neg hz, if_pos q, q, if_pos h]; omega
        · rw [if_neg (fun w => q w.2 : ¬ ((18 : Nat) = 18 ∧ (n : Int) = v)), if_neg q]; omega
    exact key 20
  rw [e, sm_one _ hv.1 (by omega)]
theorem TrB_s {τ : eS} {tl h v : Int} {rk : Int → Int} (H : TrB τ tl rk) (hh : 0 ≤ h ∧ h < tl) (hv : 0 ≤ v ∧ v < 20) (hn : τ 18 v = -1) (hc : 0 < τ 17 (20 * τ 19 h + v)) : tl < 20 ∧ ∃ rk', TrB (up (up τ 18 v (τ 19 h)) 19 tl v) (tl + 1) rk' := by
  obtain ⟨rk', er⟩ : ∃ rk' : Int → Int, ∀ u, rk' u = if u = v then tl else rk u := ⟨fun u => if u = v then tl else rk u, fun _ => rfl⟩
  obtain ⟨h1, h2, h3, h4, h5⟩ := H
  obtain ⟨g1, g2, g3⟩ := h3 h hh.1 hh.2
  have hu := nD_up (τ := τ) (v := v) (z := τ 19 h) hv hn (by omega) tl v
  have hb := nD_bd (up (up τ 18 v (τ 19 h)) 19 tl v)
  have v18 : v ≠ 18 := by intro q; rw [q, h2] at hn; omega
  have e18 : ∀ k, up (up τ 18 v (τ 19 h)) 19 tl v 18 k = if k = v then τ 19 h else τ 18 k := fun k => by
    rw [up_ne _ _ _ _ (by decide), up_if]
    by_cases q : k = v
    · rw [if_pos ⟨rfl, q⟩, if_pos q]
    · rw [if_neg (fun w => q w.2), if_neg q]
  have e17 : ∀ k, up (up τ 18 v (τ 19 h)) 19 tl v 17 k = τ 17 k := fun k => by rw [up_ne _ _ _ _ (by decide), up_ne _ _ _ _ (by decide)]
  have e19 : ∀ k, up (up τ 18 v (τ 19 h)) 19 tl v 19 k = if k = tl then v else τ 19 k := fun k => by
    rw [up_if]
    by_cases q : k = tl
    · rw [if_pos ⟨rfl, q⟩, if_pos q]
    · rw [if_neg (fun w => q w.2), if_neg q, up_ne _ _ _ _ (by decide)]
  have hne : τ 19 h ≠ v := fun q => g3 (by rw [q]; exact hn)
  refine ⟨by omega, rk', fun u a b c => ?_, by rw [e18, if_neg (fun q => v18 q.symm)]; exact h2, fun q a b => ?_, by rw [hu]; omega, by omega⟩
  · rw [e18] at c ⊢
    by_cases q : u = v
    · rw [if_pos q]
      have r := h1 (τ 19 h) g1 g2 g3
      refine ⟨by rw [er, if_pos q]; omega, by rw [er, if_pos q]; omega, g1, g2, fun _ => ?_⟩
      rw [e18, if_neg hne, e17, er, er, if_neg hne, if_pos q, q]
      exact ⟨g3, by omega, hc⟩
    · rw [if_neg q] at c ⊢
      obtain ⟨r1, r2, r3, r4, r5⟩ := h1 u a b c
      refine ⟨by rw [er, if_neg q]; exact r1, by rw [er, if_neg q]; omega, r3, r4, fun w => ?_⟩
      obtain ⟨s1, s2, s3⟩ := r5 w
      have hne2 : τ 18 u ≠ v := fun q => s1 (by rw [q]; exact hn)
      rw [e18, if_neg hne2, e17, er, er, if_neg q, if_neg hne2]
      exact ⟨s1, s2, s3⟩
  · rw [e19, e18]
    by_cases w : q = tl
    · rw [if_pos w, if_pos rfl]; exact ⟨hv.1, hv.2, by omega⟩
    · rw [if_neg w]
      obtain ⟨s1, s2, s3⟩ := h3 q a (by omega)
      rw [if_neg (fun y => s3 (by rw [y]; exact hn))]
      exact ⟨s1, s2, s3⟩
def Qwy (σ σ' : eS) (z : Int) : Prop := fr rgY σ σ' ∧ (z = 0 ∨ (z = 1 ∧ σ' 18 19 ≠ -1 ∧ ∃ tl rk, tl ≤ 20 ∧ TrB σ' tl rk))
theorem s_Mo_isWay {σ : eS} : MtI shB M_Mo_isWay [vr 0] σ (Qwy σ) := by
  refine Mt.of okM_Mo_isWay (Nat.le_of_ble_eq_true rfl) (fun hk hg => ?_)
  refine ok_iconst 0 rfl rfl (by decide) (ok_ist1 1 rfl rfl rfl ?_)
  refine lpO2 (fun (k : Int) (_ : eS) => [some (vr 0), some (vi k), none, none]) (fun _ ρ => ρ) (fun k ρ => 0 ≤ k ∧ k ≤ 20 ∧ fr rgY σ ρ ∧ ∀ v, 0 ≤ v → v < k → ρ 18 v = -1) (fun k _ => (20 - k).toNat) ?_ 0 σ ⟨by omega, by omega, fr.rf, fun v a b => by omega⟩
  rintro k ρ ⟨k1, k2, f, hn⟩ ih
  refine ok_iload_n 2 rfl rfl rfl (ok_bipush 3 rfl rfl (by decide) (by decide) (ok_icmp_ge 4 21 rfl rfl rfl (fun h5 => ?_) (fun h5 => ?_)))
  · refine ok_iconst 12 rfl rfl (by decide) (ok_ist1 13 rfl rfl rfl (ok_aload_n 14 rfl rfl rfl (ok_getR 15 rfl rfl fl_X12_69 rfl rfl (ok_iconst 16 rfl rfl (by decide) (ok_bipush 17 rfl rfl (by decide) (by decide) (ok_iast 18 rfl rfl rfl (by first | omega | (simp [up_if]; omega) | (simp [up_if] at *; omega)) (ok_aload_n 19 rfl rfl rfl (ok_getR 20 rfl rfl fl_X12_66 rfl rfl (ok_bipush 21 rfl rfl (by decide) (by decide) (ok_bipush 22 rfl rfl (by decide) (by decide) (ok_iast 23 rfl rfl rfl (by first | omega | (simp [up_if]; omega) | (simp [up_if] at *; omega)) (ok_iconst 24 rfl rfl (by decide) (ok_ist2 25 rfl rfl rfl ?_)))))))))))))
    obtain ⟨τ, eτ⟩ : ∃ τ, τ = up (up ρ 19 0 18) 18 18 18 := ⟨_, rfl⟩
    have g : fr rgY σ τ := by rw [eτ]; exact fr_up (fr_up f (by simp [rgY])) (by simp [rgY])
    have H : TrB τ 1 (fun _ => 0) := by
      have e18 : ∀ v, 0 ≤ v → v < 20 → τ 18 v = if v = 18 then 18 else -1 := fun v a b => by
        rw [eτ, up_if]
        by_cases q : v = 18
        · rw [if_pos ⟨rfl, q⟩, if_pos q]
        · rw [if_neg (fun w => q w.2), if_neg q, up_ne _ _ _ _ (by decide)]; exact hn v a (by omega)
      have e0 : τ 19 0 = 18 := by rw [eτ]; simp [up_if]
      refine ⟨fun v a b c => ?_, by rw [e18 18 (by omega) (by omega)]; simp, fun q a b => ?_, ?_, by omega⟩
      · have : v = 18 := by
          by_cases q : v = 18
          · exact q
          · rw [e18 v a b, if_neg q] at c; exact absurd rfl c
        subst this
        rw [e18 18 (by omega) (by omega), if_pos rfl]
        exact ⟨by decide, by decide, by omega, by omega, fun w => absurd rfl w⟩
      · rw [show q = 0 by omega, e0, e18 18 (by omega) (by omega), if_pos rfl]; omega
      · unfold nD
        have : sm (fun v => if τ 18 v = -1 then (0 : Int) else 1) 20 = sm (fun v => if v = 18 then (1 : Int) else 0) 20 := sm_cg (fun v a b => by
          rw [e18 v a (by omega)]
          by_cases q : v = 18
          · rw [if_pos q, if_pos q, if_neg (by decide)]
          · rw [if_neg q, if_neg q, if_pos rfl])
        rw [this, sm_one _ (by omega) (by omega)]
    rw [← eτ]
    clear eτ
    refine lpO3 (fun (tl h : Int) (_ : eS) => [some (vr 0), some (vi tl), some (vi h), none]) (fun _ _ τ => τ) (fun tl h τ => 0 ≤ h ∧ h ≤ tl ∧ tl ≤ 20 ∧ fr rgY σ τ ∧ ∃ rk, TrB τ tl rk) (fun _ h _ => (20 - h).toNat) ?_ 1 0 τ ⟨by omega, by omega, by omega, g, _, H⟩
    clear H g τ ih hn f k1 k2 h5 k ρ
    rintro tl h τ ⟨i1, i2, i3, g, rk, H⟩ ih
    refine ok_iload_n 26 rfl rfl rfl (ok_iload_n 27 rfl rfl rfl (ok_icmp_ge 28 121 rfl rfl rfl (fun h44 => ?_) (fun h44 => ?_)))
    · refine ok_aload_n 71 rfl rfl rfl (ok_getR 72 rfl rfl fl_X12_66 rfl rfl (ok_bipush 73 rfl rfl (by decide) (by decide) (ok_iald 74 rfl rfl rfl (by first | omega | (simp [up_if]; omega) | (simp [up_if] at *; omega)) (ok_iconst 75 rfl rfl (by decide) (ok_icmp_eq 76 136 rfl rfl rfl (fun h129 => ?_) (fun h129 => ?_))))))
      · refine ok_iconst 79 rfl rfl (by decide) (ok_zret 80 rfl rfl rfl (by first | omega | (simp [up_if]; omega) | (simp [up_if] at *; omega)) ?_)
        refine ⟨_, rfl, g, ?_⟩
        first
          | exact Or.inl rfl
          | exact Or.inr ⟨rfl, by omega, tl, rk, i3, H⟩
      · refine ok_iconst 77 rfl rfl (by decide) (ok_goto 78 137 rfl rfl rfl (ok_zret 80 rfl rfl rfl (by first | omega | (simp [up_if]; omega) | (simp [up_if] at *; omega)) ?_))
        refine ⟨_, rfl, g, ?_⟩
        first
          | exact Or.inl rfl
          | exact Or.inr ⟨rfl, by omega, tl, rk, i3, H⟩
    · refine ok_iconst 29 rfl rfl (by decide) (ok_ist3 30 rfl rfl rfl ?_)
      have hl : h < tl := by omega
      refine lpO3 (fun (tl v : Int) (_ : eS) => [some (vr 0), some (vi tl), some (vi h), some (vi v)]) (fun _ _ τ => τ) (fun tl v τ => 0 ≤ v ∧ v ≤ 20 ∧ h < tl ∧ tl ≤ 20 ∧ fr rgY σ τ ∧ ∃ rk, TrB τ tl rk) (fun _ v _ => (20 - v).toNat) ?_ tl 0 τ ⟨by omega, by omega, hl, i3, g, rk, H⟩
      clear H g i2 i3 hl h44 τ tl rk
      rintro tl v τ ⟨v1, v2, hl, i3, g, rk, H⟩ ih2
      have hq := H.2.2.1 h i1 hl
      refine ok_iload_n 31 rfl rfl rfl (ok_bipush 32 rfl rfl (by decide) (by decide) (ok_icmp_ge 33 115 rfl rfl rfl (fun h52 => ?_) (fun h52 => ?_)))
      · refine ok_inc2 69 rfl rfl rfl (by first | omega | (simp [up_if]; omega) | (simp [up_if] at *; omega)) (ok_goto 70 42 rfl rfl rfl ?_)
        exact ok_fg [some (vr 0), some (vi _), some (vi (h + 1)), none] ⟨rfl, rfl, rfl, trivial⟩ (ih tl (h + 1) τ ⟨by omega, by omega, i3, g, rk, H⟩ (by omega))
      · refine ok_aload_n 34 rfl rfl rfl (ok_getR 35 rfl rfl fl_X12_66 rfl rfl (ok_iload_n 36 rfl rfl rfl (ok_iald 37 rfl rfl rfl (by first | omega | (simp [up_if]; omega) | (simp [up_if] at *; omega)) (ok_iconst 38 rfl rfl (by decide) (ok_icmp_ne 39 109 rfl rfl rfl (fun h62 => ?_) (fun h62 => ?_))))))
        · refine ok_inc3 67 rfl rfl rfl (by first | omega | (simp [up_if]; omega) | (simp [up_if] at *; omega)) (ok_goto 68 49 rfl rfl rfl ?_)
          exact ih2 tl (v + 1) τ ⟨by omega, by omega, hl, i3, g, rk, H⟩ (by omega)
        · refine ok_aload_n 40 rfl rfl rfl (ok_getR 41 rfl rfl fl_X12_63 rfl rfl (ok_bipush 42 rfl rfl (by decide) (by decide) (ok_aload_n 43 rfl rfl rfl (ok_getR 44 rfl rfl fl_X12_69 rfl rfl (ok_iload_n 45 rfl rfl rfl (ok_iald 46 rfl rfl rfl (by first | omega | (simp [up_if]; omega) | (simp [up_if] at *; omega)) (ok_imul 47 rfl rfl (by first | omega | (simp [up_if]; omega) | (simp [up_if] at *; omega)) (ok_iload_n 48 rfl rfl rfl (ok_iadd 49 rfl rfl (by first | omega | (simp [up_if]; omega) | (simp [up_if] at *; omega)) (ok_iald 50 rfl rfl rfl (by first | omega | (simp [up_if]; omega) | (simp [up_if] at *; omega)) (ok_if_gt 51 87 rfl rfl rfl (fun h81 => ?_) (fun h81 => ?_))))))))))))
          · obtain ⟨t1, rk', H'⟩ := TrB_s (h := h) (v := v) H ⟨i1, hl⟩ ⟨v1, by omega⟩ (by omega) (by omega)
            refine ok_aload_n 53 rfl rfl rfl (ok_getR 54 rfl rfl fl_X12_66 rfl rfl (ok_iload_n 55 rfl rfl rfl (ok_aload_n 56 rfl rfl rfl (ok_getR 57 rfl rfl fl_X12_69 rfl rfl (ok_iload_n 58 rfl rfl rfl (ok_iald 59 rfl rfl rfl (by first | omega | (simp [up_if]; omega) | (simp [up_if] at *; omega)) (ok_iast 60 rfl rfl rfl (by first | omega | (simp [up_if]; omega) | (simp [up_if] at *; omega)) (ok_aload_n 61 rfl rfl rfl (ok_getR 62 rfl rfl fl_X12_69 rfl rfl (ok_iload_n 63 rfl rfl rfl (ok_iload_n 64 rfl rfl rfl (ok_iast 65 rfl rfl rfl (by first | omega | (simp [up_if]; omega) | (simp [up_if] at *; omega)) (ok_inc1 66 rfl rfl rfl (by first | omega | (simp [up_if]; omega) | (simp [up_if] at *; omega)) (ok_inc3 67 rfl rfl rfl (by first | omega | (simp [up_if]; omega) | (simp [up_if] at *; omega)) (ok_goto 68 49 rfl rfl rfl ?_)))))))))))))))
            exact ih2 (tl + 1) (v + 1) _ ⟨by omega, by omega, by omega, by omega, fr_up (fr_up g (by simp [rgY])) (by simp [rgY]), rk', H'⟩ (by omega)
          · refine ok_goto 52 109 rfl rfl rfl (ok_inc3 67 rfl rfl rfl (by first | omega | (simp [up_if]; omega) | (simp [up_if] at *; omega)) (ok_goto 68 49 rfl rfl rfl ?_))
            exact ih2 tl (v + 1) τ ⟨by omega, by omega, hl, i3, g, rk, H⟩ (by omega)
  · refine ok_aload_n 5 rfl rfl rfl (ok_getR 6 rfl rfl fl_X12_66 rfl rfl (ok_iload_n 7 rfl rfl rfl (ok_iconst 8 rfl rfl (by decide) (ok_iast 9 rfl rfl rfl (by first | omega | (simp [up_if]; omega) | (simp [up_if] at *; omega)) (ok_inc1 10 rfl rfl rfl (by first | omega | (simp [up_if]; omega) | (simp [up_if] at *; omega)) (ok_goto 11 2 rfl rfl rfl ?_))))))
    refine ih (k + 1) _ ⟨by omega, by omega, fr_up f (by simp [rgY]), lt_ext (fun v a b => ?_) ?_⟩ (by omega)
    · rw [up_nk _ _ _ _ (by omega)]; exact hn v a b
    · rw [up_same]
