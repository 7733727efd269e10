section
theorem ph_dec {f f' : Int → Int} {v : Int} (hv : 0 ≤ v ∧ v < 20) (h1 : 0 < f v) (h : ∀ k, 0 ≤ k → k < 20 → f' k = if k = v then f k - 1 else f k) : sm (fun k => max 0 (f' k)) 20 = sm (fun k => max 0 (f k)) 20 - 1 := by
  have e : sm (fun k => max 0 (f' k)) 20 = sm (fun k => max 0 (f k) - if k = v then 1 else 0) 20 := sm_cg (fun k a b => by
    rw [h k a (by omega)]
    by_cases q : k = v
    · rw [if_pos q, if_pos q, q]; omega
    · rw [if_neg q, if_neg q]; omega)
  rw [e, sm_sub, sm_one _ hv.1 (by omega)]
def Ph (τ : eS) : Int := sm (fun k => max 0 (τ 17 (360 + k))) 20
abbrev rgQ : Nat → Int → Prop := fun c _ => c = 17 ∨ c = 18 ∨ c = 19
theorem Ph_bd {τ : eS} {B : Int} (h : capB τ B) (hB : 0 ≤ B) : 0 ≤ Ph τ ∧ Ph τ ≤ B * 20 := by
  have := sm_bd (f := fun k => max 0 (τ 17 (360 + k))) (B := B) hB (n := 20) (fun k a b => by have := h (360 + k) (by omega) (by omega); omega)
  unfold Ph
  omega
theorem Ph_nn (τ : eS) : 0 ≤ Ph τ := by
  have key : ∀ n, 0 ≤ sm (fun k => max 0 (τ 17 (360 + k))) n := by
    intro n
    induction n with
    | zero => exact Int.le_refl 0
    | succ n ih =>
      have e : sm (fun k => max 0 (τ 17 (360 + k))) (n + 1) = sm (fun k => max 0 (τ 17 (360 + k))) n + max 0 (τ 17 (360 + (n : Int))) := rfl
      rw [e]
      omega
  exact key 20
theorem Ph_cg {τ υ : eS} (h : ∀ k, υ 17 k = τ 17 k) : Ph υ = Ph τ := by unfold Ph; simp only [h]
theorem s_Mo_isKept {σ : eS} {n : Int} (hn : 1 ≤ n ∧ n ≤ 8) (hl : lhB σ n) (ht : lhT σ) : MtI shB M_Mo_isKept [vr 0, vi n] σ (fun σ' _ => fr rgQ σ σ') := by
  refine Mt.of okM_Mo_isKept (Nat.le_of_ble_eq_true rfl) (fun hk hg => ?_)
  have L : ∀ τ : eS, fr rgQ σ τ → (∀ k, τ 15 k = σ 15 k) ∧ ∀ k, τ 16 k = σ 16 k := fun τ g => ⟨fun k => g 15 k (by simp [rgQ]), fun k => g 16 k (by simp [rgQ])⟩
  have gC : ∀ (τ υ : eS), fr rgQ σ τ → fr rgC τ υ → fr rgQ σ υ := fun τ υ a b => a.tr (b.mono (fun c k q => Or.inl q))
  refine ok_iconst 0 rfl rfl (by decide) (ok_ist2 1 rfl rfl rfl ?_)
  refine lpO2 (fun (k : Int) (_ : eS) => [some (vr 0), some (vi n), some (vi k), none]) (fun _ ρ => ρ) (fun k ρ => 0 ≤ k ∧ k ≤ 400 ∧ fr rgQ σ ρ ∧ ∀ v, 0 ≤ v → v < k → ρ 17 v = 0) (fun k _ => (400 - k).toNat) ?_ 0 σ ⟨by omega, by omega, fr.rf, fun v a b => by omega⟩
  rintro k ρ ⟨k1, k2, f, hz⟩ ih
  refine ok_iload_n 2 rfl rfl rfl (ok_sipush 3 rfl rfl (by decide) (by decide) (ok_icmp_ge 4 22 rfl rfl rfl (fun h6 => ?_) (fun h6 => ?_)))
  · refine ok_iconst 12 rfl rfl (by decide) (ok_ist2 13 rfl rfl rfl ?_)
    have c0 : capB ρ (384 * 0) := fun q a b => by rw [hz q a (by omega)]; omega
    refine lpO2 (fun (i : Int) (_ : eS) => [some (vr 0), some (vi n), some (vi i), none]) (fun _ ρ => ρ) (fun i ρ => 0 ≤ i ∧ i ≤ n ∧ fr rgQ σ ρ ∧ capB ρ (384 * i)) (fun i _ => (n - i).toNat) ?_ 0 ρ ⟨by omega, by omega, f, c0⟩
    clear c0 hz ih f k1 k2 h6 k ρ
    rintro i ρ ⟨i1, i2, f, hc⟩ ih
    obtain ⟨l1, l2⟩ := L ρ f
    refine ok_iload_n 14 rfl rfl rfl (ok_iload_n 15 rfl rfl rfl (ok_icmp_ge 16 83 rfl rfl rfl (fun h26 => ?_) (fun h26 => ?_)))
    · obtain ⟨b1, b2, b3, b4⟩ := id ht
      rw [← l1] at b1 b2
      rw [← l2] at b3 b4
      refine ok_aload_n 51 rfl rfl rfl (ok_bipush 52 rfl rfl (by decide) (by decide) (ok_iconst 53 rfl rfl (by decide) (ok_aload_n 54 rfl rfl rfl (ok_getR 55 rfl rfl fl_X12_57 rfl rfl (ok_bipush 56 rfl rfl (by decide) (by decide) (ok_iald 57 rfl rfl rfl (by first | omega | (simp [up_if]; omega) | (simp [up_if] at *; omega)) (ok_aload_n 58 rfl rfl rfl (ok_getR 59 rfl rfl fl_X12_60 rfl rfl (ok_bipush 60 rfl rfl (by decide) (by decide) (ok_iald 61 rfl rfl rfl (by first | omega | (simp [up_if]; omega) | (simp [up_if] at *; omega)) (ok_callVV (M' := M_Mo_edge) (as := [_, _, _, _]) 62 rfl rfl ml_X12_330 (s_Mo_edge ⟨by omega, by omega⟩ ⟨by omega, by omega⟩ ⟨by omega, by omega⟩ ⟨by omega, by omega⟩ hc ⟨by omega, by omega⟩) rfl rfl (Nat.le_of_ble_eq_true rfl) ⟨Nat.le_of_ble_eq_true rfl, Nat.le_of_ble_eq_true rfl⟩ rfl (Nat.le_of_ble_eq_true rfl) (fun τ hz => ?_))))))))))))
      have g := gC ρ τ f hz.1
      have gc := capB_mono hz.2 (show 384 * i + 192 ≤ 192 * (17 + 8 * 0) by omega)
      refine ok_iconst 63 rfl rfl (by decide) (ok_ist2 64 rfl rfl rfl ?_)
      refine lpO2 (fun (i : Int) (_ : eS) => [some (vr 0), some (vi n), some (vi i), none]) (fun _ ρ => ρ) (fun i ρ => 0 ≤ i ∧ i ≤ n ∧ fr rgQ σ ρ ∧ capB ρ (192 * (17 + 8 * i))) (fun i _ => (n - i).toNat) ?_ 0 τ ⟨by omega, by omega, g, gc⟩
      clear ih gc g hz τ f hc l1 l2 b1 b2 b3 b4 ρ
      clear h26 i1 i2 i
      rintro i ρ ⟨i1, i2, f, hc⟩ ih
      refine ok_iload_n 65 rfl rfl rfl (ok_iload_n 66 rfl rfl rfl (ok_icmp_ge 67 184 rfl rfl rfl (fun h108 => ?_) (fun h108 => ?_)))
      · refine ok_iconst 112 rfl rfl (by decide) (ok_ist2 113 rfl rfl rfl (ok_iconst 114 rfl rfl (by decide) (ok_ist3 115 rfl rfl rfl ?_)))
        replace hc := capB_mono hc (show 192 * (17 + 8 * i) ≤ 15552 by omega)
        clear ih i1 i2 h108 i
        refine lpO2 (fun (x k : Int) => [some (vr 0), some (vi n), some (vi x), some (vi k)]) (fun _ _ => ρ) (fun x k => 0 ≤ k ∧ k ≤ 20 ∧ -(15552 * k) ≤ x ∧ x ≤ 15552 * k) (fun _ k => (20 - k).toNat) ?_ 0 0 ⟨by omega, by omega, by omega, by omega⟩
        rintro x k ⟨k1, k2, x1, x2⟩ ih
        refine ok_iload_n 116 rfl rfl rfl (ok_bipush 117 rfl rfl (by decide) (by decide) (ok_icmp_ge 118 213 rfl rfl rfl (fun h191 => ?_) (fun h191 => ?_)))
        · have ph := Ph_bd hc (by omega)
          obtain ⟨P, eP⟩ : ∃ P, P = Ph ρ := ⟨_, rfl⟩
          rw [← eP] at ph
          refine ok_fg [some (vr 0), some (vi n), some (vi x), none] ⟨rfl, rfl, rfl, trivial⟩ (lpO2 (fun (x : Int) (_ : eS) => [some (vr 0), some (vi n), some (vi x), none]) (fun _ τ => τ) (fun x τ => fr rgQ σ τ ∧ capB τ (15552 + 40 * (P - Ph τ)) ∧ Ph τ ≤ P ∧ -(311040 + (P - Ph τ)) ≤ x ∧ x ≤ 311040) (fun _ τ => (Ph τ).toNat) ?_ x ρ ⟨f, capB_mono hc (by omega), by omega, by omega, by omega⟩)
          clear ih x1 x2 k1 k2 h191 x f hc k eP ρ
          rintro x τ ⟨f, hc, p1, x1, x2⟩ ih
          have p0 := Ph_nn τ
          refine ok_aload_n 130 rfl rfl rfl (ok_callVI (M' := M_Mo_isWay) (as := []) 131 rfl rfl ml_X12_334 (s_Mo_isWay) rfl rfl (Nat.le_of_ble_eq_true rfl) ⟨Nat.le_of_ble_eq_true rfl, Nat.le_of_ble_eq_true rfl⟩ rfl (Nat.le_of_ble_eq_true rfl) (fun τ' z hz => ?_))
          obtain ⟨g1, g2⟩ := hz
          have g : fr rgQ σ τ' := f.tr (g1.mono (fun c k q => Or.inr q))
          have e17 : ∀ k, τ' 17 k = τ 17 k := fun k => g1 17 k (by simp [rgY])
          have ep := Ph_cg e17
          have hc' : capB τ' (15552 + 40 * (P - Ph τ)) := fun k a b => by rw [e17]; exact hc k a b
          refine ok_if_eq 132 285 rfl rfl rfl (fun h217 => ?_) (fun h217 => ?_)
          · clear g2
            refine ok_iload_n 176 rfl rfl rfl (ok_if_ne 177 293 rfl rfl rfl (fun h286 => ?_) (fun h286 => ?_))
            · refine ok_iconst 180 rfl rfl (by decide) (ok_zret 181 rfl rfl rfl (by first | omega | (simp [up_if]; omega) | (simp [up_if] at *; omega)) ?_)
              exact ⟨_, rfl, g⟩
            · refine ok_iconst 178 rfl rfl (by decide) (ok_goto 179 294 rfl rfl rfl (ok_zret 181 rfl rfl rfl (by first | omega | (simp [up_if]; omega) | (simp [up_if] at *; omega)) ?_))
              exact ⟨_, rfl, g⟩
          · obtain ⟨hf, tl, rk, t20, T1, T2, T3, T4, T5⟩ : τ' 18 19 ≠ -1 ∧ ∃ tl rk, tl ≤ 20 ∧ TrB τ' tl rk := by
              rcases g2 with q | q
              · exact absurd q h217
              · exact q.2
            clear g2 T3 T4 T5
            refine ok_bipush 133 rfl rfl (by decide) (by decide) (ok_ist3 134 rfl rfl rfl ?_)
            have r19 := T1 19 (by omega) (by omega) hf
            refine lpO2 (fun (v : Int) (_ : eS) => [some (vr 0), some (vi n), some (vi x), some (vi v)]) (fun _ υ => υ) (fun v υ => 0 ≤ v ∧ v < 20 ∧ τ' 18 v ≠ -1 ∧ fr rgC τ' υ ∧ capB υ (15552 + 40 * (P - Ph τ) + 2 * (19 - rk v)) ∧ (v ≠ 18 → ∀ k, 0 ≤ k → k < 20 → υ 17 (360 + k) = τ' 17 (360 + k)) ∧ (v = 18 → Ph υ = Ph τ - 1)) (fun v _ => (rk v).toNat) ?_ 19 τ' ⟨by omega, by omega, hf, fr.rf, capB_mono hc' (by omega), fun _ k _ _ => rfl, fun q => by omega⟩
            clear r19 hf
            rintro v υ ⟨v1, v2, v3, fu, hu, s1, s2⟩ ih2
            obtain ⟨r1, r2, r3, r4, r5⟩ := T1 v v1 v2 v3
            have e18 : ∀ k, υ 18 k = τ' 18 k := fun k => fu 18 k (by simp [rgC])
            have e18v := e18 v
            refine ok_iload_n 135 rfl rfl rfl (ok_bipush 136 rfl rfl (by decide) (by decide) (ok_icmp_eq 137 279 rfl rfl rfl (fun h226 => ?_) (fun h226 => ?_)))
            · have e : v = 18 := by omega
              have hp := s2 e
              clear s1 s2 r5
              refine ok_inc2 174 rfl rfl rfl (by first | omega | (simp [up_if]; omega) | (simp [up_if] at *; omega)) (ok_goto 175 213 rfl rfl rfl ?_)
              exact ok_fg [some (vr 0), some (vi n), some (vi (x - 1)), none] ⟨rfl, rfl, rfl, trivial⟩ (ih (x - 1) υ ⟨gC τ' υ g fu, capB_mono hu (by omega), by omega, by omega, by omega⟩ (by have := Ph_nn υ; omega))
            · have vne : v ≠ 18 := by omega
              obtain ⟨q1, q2, q3⟩ := r5 vne
              have s1 := s1 vne
              clear r5 s2
              obtain ⟨w, ew⟩ : ∃ w, w = τ' 18 v := ⟨_, rfl⟩
              rw [← ew] at e18v r3 r4 q1 q2 q3
              have cb1 := hu (20 * w + v) (by omega) (by omega)
              have hA := capB_up (d := 1) (k := 20 * w + v) (z := υ 17 (20 * w + v) - 1) hu (by omega) ⟨by omega, by omega⟩
              obtain ⟨A, eA⟩ : ∃ A, A = up υ 17 (20 * w + v) (υ 17 (20 * w + v) - 1) := ⟨_, rfl⟩
              rw [← eA] at hA
              have cb2 := hA (20 * v + w) (by omega) (by omega)
              have hA2 := capB_up (d := 1) (k := 20 * v + w) (z := A 17 (20 * v + w) + 1) hA (by omega) ⟨by omega, by omega⟩
              have fA : fr rgC τ' A := by rw [eA]; exact fr_up fu rfl
              have a18 : A 18 v = w := by rw [eA, up_ne _ _ _ _ (by decide)]; exact e18v
              refine ok_aload_n 138 rfl rfl rfl (ok_getR 139 rfl rfl fl_X12_63 rfl rfl (ok_bipush 140 rfl rfl (by decide) (by decide) (ok_aload_n 141 rfl rfl rfl (ok_getR 142 rfl rfl fl_X12_66 rfl rfl (ok_iload_n 143 rfl rfl rfl (ok_iald 144 rfl rfl rfl (by first | omega | (simp [up_if]; omega) | (simp [up_if] at *; omega)) ?_))))))
              rw [e18v]
              refine ok_imul 145 rfl rfl (by first | omega | (simp [up_if]; omega) | (simp [up_if] at *; omega)) (ok_iload_n 146 rfl rfl rfl (ok_iadd 147 rfl rfl (by first | omega | (simp [up_if]; omega) | (simp [up_if] at *; omega)) (ok_dup2 148 rfl rfl ⟨rfl, rfl⟩ (ok_iald 149 rfl rfl rfl (by first | omega | (simp [up_if]; omega) | (simp [up_if] at *; omega)) (ok_iconst 150 rfl rfl (by decide) (ok_isub 151 rfl rfl (by first | omega | (simp [up_if]; omega) | (simp [up_if] at *; omega)) (ok_iast 152 rfl rfl rfl (by first | omega | (simp [up_if]; omega) | (simp [up_if] at *; omega)) ?_)))))))
              rw [← eA]
              refine ok_aload_n 153 rfl rfl rfl (ok_getR 154 rfl rfl fl_X12_63 rfl rfl (ok_bipush 155 rfl rfl (by decide) (by decide) (ok_iload_n 156 rfl rfl rfl (ok_imul 157 rfl rfl (by first | omega | (simp [up_if]; omega) | (simp [up_if] at *; omega)) (ok_aload_n 158 rfl rfl rfl (ok_getR 159 rfl rfl fl_X12_66 rfl rfl (ok_iload_n 160 rfl rfl rfl (ok_iald 161 rfl rfl rfl (by first | omega | (simp [up_if]; omega) | (simp [up_if] at *; omega)) ?_))))))))
              rw [a18]
              refine ok_iadd 162 rfl rfl (by first | omega | (simp [up_if]; omega) | (simp [up_if] at *; omega)) (ok_dup2 163 rfl rfl ⟨rfl, rfl⟩ (ok_iald 164 rfl rfl rfl (by first | omega | (simp [up_if]; omega) | (simp [up_if] at *; omega)) (ok_iconst 165 rfl rfl (by decide) (ok_iadd 166 rfl rfl (by first | omega | (simp [up_if]; omega) | (simp [up_if] at *; omega)) (ok_iast 167 rfl rfl rfl (by first | omega | (simp [up_if]; omega) | (simp [up_if] at *; omega)) (ok_aload_n 168 rfl rfl rfl (ok_getR 169 rfl rfl fl_X12_66 rfl rfl (ok_iload_n 170 rfl rfl rfl (ok_iald 171 rfl rfl rfl (by first | omega | (simp [up_if]; omega) | (simp [up_if] at *; omega)) ?_)))))))))
              rw [up_ne _ _ _ _ (show (18 : Nat) ≠ 17 by decide), a18]
              refine ok_ist3 172 rfl rfl rfl (ok_goto 173 223 rfl rfl rfl ?_)
              have r6 := (T1 w r3 r4 q1).1
              refine ih2 w _ ⟨r3, r4, q1, fr_up fA rfl, capB_mono hA2 (by omega), fun w18 k a b => ?_, fun w18 => ?_⟩ (by omega)
              · rw [up_nk _ _ _ _ (by omega), eA, up_nk _ _ _ _ (by omega)]; exact s1 k a b
              · rw [← ep]
                rw [w18] at q3 eA ⊢
                refine ph_dec (f := fun k => τ' 17 (360 + k)) (f' := fun k => up A 17 (20 * v + 18) (A 17 (20 * v + 18) + 1) 17 (360 + k)) ⟨v1, v2⟩ q3 (fun k a b => ?_)
                show up A 17 (20 * v + 18) (A 17 (20 * v + 18) + 1) 17 (360 + k) = if k = v then τ' 17 (360 + k) - 1 else τ' 17 (360 + k)
                rw [up_nk _ _ _ _ (by omega), eA, up_if, show (20 : Int) * 18 + v = 360 + v by omega]
                by_cases q : k = v
                · rw [if_pos ⟨rfl, by omega⟩, if_pos q, q, s1 v v1 v2]
                · rw [if_neg (by omega), if_neg q, s1 k a b]
        · have cb := hc (360 + k) (by omega) (by omega)
          refine ok_iload_n 119 rfl rfl rfl (ok_aload_n 120 rfl rfl rfl (ok_getR 121 rfl rfl fl_X12_63 rfl rfl (ok_sipush 122 rfl rfl (by decide) (by decide) (ok_iload_n 123 rfl rfl rfl (ok_iadd 124 rfl rfl (by first | omega | (simp [up_if]; omega) | (simp [up_if] at *; omega)) (ok_iald 125 rfl rfl rfl (by first | omega | (simp [up_if]; omega) | (simp [up_if] at *; omega)) (ok_iadd 126 rfl rfl (by first | omega | (simp [up_if]; omega) | (simp [up_if] at *; omega)) (ok_ist2 127 rfl rfl rfl (ok_inc3 128 rfl rfl rfl (by first | omega | (simp [up_if]; omega) | (simp [up_if] at *; omega)) (ok_goto 129 188 rfl rfl rfl ?_))))))))))
          exact ih _ (k + 1) ⟨by omega, by omega, by omega, by omega⟩ (by omega)
      · refine ok_iconst 68 rfl rfl (by decide) (ok_ist3 69 rfl rfl rfl ?_)
        refine lpO2 (fun (j : Int) (_ : eS) => [some (vr 0), some (vi n), some (vi i), some (vi j)]) (fun _ ρ => ρ) (fun j ρ => 0 ≤ j ∧ j ≤ n ∧ fr rgQ σ ρ ∧ capB ρ (192 * (17 + 8 * i + j))) (fun j _ => (n - j).toNat) ?_ 0 ρ ⟨by omega, by omega, f, capB_mono hc (by omega)⟩
        clear f hc ρ
        rintro j ρ ⟨j1, j2, f, hc⟩ ih2
        refine ok_iload_n 70 rfl rfl rfl (ok_iload_n 71 rfl rfl rfl (ok_icmp_ge 72 178 rfl rfl rfl (fun h115 => ?_) (fun h115 => ?_)))
        · refine ok_inc2 110 rfl rfl rfl (by first | omega | (simp [up_if]; omega) | (simp [up_if] at *; omega)) (ok_goto 111 106 rfl rfl rfl ?_)
          exact ok_fg [some (vr 0), some (vi n), some (vi (i + 1)), none] ⟨rfl, rfl, rfl, trivial⟩ (ih (i + 1) ρ ⟨by omega, by omega, f, capB_mono hc (by omega)⟩ (by omega))
        · have bm := ix8 (n := n) (i := i) (j := j) ⟨by omega, by omega⟩ ⟨by omega, by omega⟩ ⟨by omega, by omega⟩
          refine ok_aload_n 73 rfl rfl rfl (ok_iconst 74 rfl rfl (by decide) (ok_iload_n 75 rfl rfl rfl (ok_iadd 76 rfl rfl (by first | omega | (simp [up_if]; omega) | (simp [up_if] at *; omega)) (ok_bipush 77 rfl rfl (by decide) (by decide) (ok_iload_n 78 rfl rfl rfl (ok_iadd 79 rfl rfl (by first | omega | (simp [up_if]; omega) | (simp [up_if] at *; omega)) (ok_aload_n 80 rfl rfl rfl (ok_getR 81 rfl rfl fl_X12_54 rfl rfl (ok_iload_n 82 rfl rfl rfl (ok_iload_n 83 rfl rfl rfl (ok_imul 84 rfl rfl (by first | omega | (simp [up_if]; omega) | (simp [up_if] at *; omega)) (ok_iload_n 85 rfl rfl rfl (ok_iadd 86 rfl rfl (by first | omega | (simp [up_if]; omega) | (simp [up_if] at *; omega)) (ok_iald 87 rfl rfl rfl (by first | omega | (simp [up_if]; omega) | (simp [up_if] at *; omega)) (ok_iconst 88 rfl rfl (by decide) (ok_icmp_ne 89 144 rfl rfl rfl (fun h137 => ?_) (fun h137 => ?_)))))))))))))))))
          · refine ok_iconst 92 rfl rfl (by decide) (ok_callSI (M' := M_Mo_one) (as := [_]) 93 rfl rfl ml_X12_192 (s_Mo_one) ⟨Nat.le_of_ble_eq_true rfl, Nat.le_of_ble_eq_true rfl⟩ rfl (Nat.le_of_ble_eq_true rfl) (fun σ' y1 p1 => ?_))
            obtain ⟨hs_, p1⟩ := p1
            rw [hs_]; clear hs_ σ'
            have p1 : 0 ≤ y1 ∧ y1 ≤ 1 := by rw [p1]; split <;> omega
            refine ok_aload_n 94 rfl rfl rfl (ok_getR 95 rfl rfl fl_X12_54 rfl rfl (ok_iload_n 96 rfl rfl rfl (ok_iload_n 97 rfl rfl rfl (ok_imul 98 rfl rfl (by first | omega | (simp [up_if]; omega) | (simp [up_if] at *; omega)) (ok_iload_n 99 rfl rfl rfl (ok_iadd 100 rfl rfl (by first | omega | (simp [up_if]; omega) | (simp [up_if] at *; omega)) (ok_iald 101 rfl rfl rfl (by first | omega | (simp [up_if]; omega) | (simp [up_if] at *; omega)) (ok_if_le 102 165 rfl rfl rfl (fun h158 => ?_) (fun h158 => ?_)))))))))
            · refine ok_iconst 105 rfl rfl (by decide) (ok_callSI (M' := M_Mo_one) (as := [_]) 106 rfl rfl ml_X12_192 (s_Mo_one) ⟨Nat.le_of_ble_eq_true rfl, Nat.le_of_ble_eq_true rfl⟩ rfl (Nat.le_of_ble_eq_true rfl) (fun σ' y2 p2 => ?_))
              obtain ⟨hs_, p2⟩ := p2
              rw [hs_]; clear hs_ σ'
              have p2 : 0 ≤ y2 ∧ y2 ≤ 1 := by rw [p2]; split <;> omega
              refine ok_callVV (M' := M_Mo_edge) (as := [_, _, _, _]) 107 rfl rfl ml_X12_330 (s_Mo_edge ⟨by omega, by omega⟩ ⟨by omega, by omega⟩ ⟨by omega, by omega⟩ ⟨by omega, by omega⟩ hc ⟨by omega, by omega⟩) rfl rfl (Nat.le_of_ble_eq_true rfl) ⟨Nat.le_of_ble_eq_true rfl, Nat.le_of_ble_eq_true rfl⟩ rfl (Nat.le_of_ble_eq_true rfl) (fun τ hz => ?_)
              refine ok_inc3 108 rfl rfl rfl (by first | omega | (simp [up_if]; omega) | (simp [up_if] at *; omega)) (ok_goto 109 113 rfl rfl rfl ?_)
              exact ih2 (j + 1) τ ⟨by omega, by omega, gC ρ τ f hz.1, capB_mono hz.2 (by omega)⟩ (by omega)
            · refine ok_iconst 103 rfl rfl (by decide) (ok_goto 104 166 rfl rfl rfl (ok_callSI (M' := M_Mo_one) (as := [_]) 106 rfl rfl ml_X12_192 (s_Mo_one) ⟨Nat.le_of_ble_eq_true rfl, Nat.le_of_ble_eq_true rfl⟩ rfl (Nat.le_of_ble_eq_true rfl) (fun σ' y2 p2 => ?_)))
              obtain ⟨hs_, p2⟩ := p2
              rw [hs_]; clear hs_ σ'
              have p2 : 0 ≤ y2 ∧ y2 ≤ 1 := by rw [p2]; split <;> omega
              refine ok_callVV (M' := M_Mo_edge) (as := [_, _, _, _]) 107 rfl rfl ml_X12_330 (s_Mo_edge ⟨by omega, by omega⟩ ⟨by omega, by omega⟩ ⟨by omega, by omega⟩ ⟨by omega, by omega⟩ hc ⟨by omega, by omega⟩) rfl rfl (Nat.le_of_ble_eq_true rfl) ⟨Nat.le_of_ble_eq_true rfl, Nat.le_of_ble_eq_true rfl⟩ rfl (Nat.le_of_ble_eq_true rfl) (fun τ hz => ?_)
              refine ok_inc3 108 rfl rfl rfl (by first | omega | (simp [up_if]; omega) | (simp [up_if] at *; omega)) (ok_goto 109 113 rfl rfl rfl ?_)
              exact ih2 (j + 1) τ ⟨by omega, by omega, gC ρ τ f hz.1, capB_mono hz.2 (by omega)⟩ (by omega)
          · refine ok_iconst 90 rfl rfl (by decide) (ok_goto 91 145 rfl rfl rfl (ok_callSI (M' := M_Mo_one) (as := [_]) 93 rfl rfl ml_X12_192 (s_Mo_one) ⟨Nat.le_of_ble_eq_true rfl, Nat.le_of_ble_eq_true rfl⟩ rfl (Nat.le_of_ble_eq_true rfl) (fun σ' y1 p1 => ?_)))
            obtain ⟨hs_, p1⟩ := p1
            rw [hs_]; clear hs_ σ'
            have p1 : 0 ≤ y1 ∧ y1 ≤ 1 := by rw [p1]; split <;> omega
            refine ok_aload_n 94 rfl rfl rfl (ok_getR 95 rfl rfl fl_X12_54 rfl rfl (ok_iload_n 96 rfl rfl rfl (ok_iload_n 97 rfl rfl rfl (ok_imul 98 rfl rfl (by first | omega | (simp [up_if]; omega) | (simp [up_if] at *; omega)) (ok_iload_n 99 rfl rfl rfl (ok_iadd 100 rfl rfl (by first | omega | (simp [up_if]; omega) | (simp [up_if] at *; omega)) (ok_iald 101 rfl rfl rfl (by first | omega | (simp [up_if]; omega) | (simp [up_if] at *; omega)) (ok_if_le 102 165 rfl rfl rfl (fun h158 => ?_) (fun h158 => ?_)))))))))
            · refine ok_iconst 105 rfl rfl (by decide) (ok_callSI (M' := M_Mo_one) (as := [_]) 106 rfl rfl ml_X12_192 (s_Mo_one) ⟨Nat.le_of_ble_eq_true rfl, Nat.le_of_ble_eq_true rfl⟩ rfl (Nat.le_of_ble_eq_true rfl) (fun σ' y2 p2 => ?_))
              obtain ⟨hs_, p2⟩ := p2
              rw [hs_]; clear hs_ σ'
              have p2 : 0 ≤ y2 ∧ y2 ≤ 1 := by rw [p2]; split <;> omega
              refine ok_callVV (M' := M_Mo_edge) (as := [_, _, _, _]) 107 rfl rfl ml_X12_330 (s_Mo_edge ⟨by omega, by omega⟩ ⟨by omega, by omega⟩ ⟨by omega, by omega⟩ ⟨by omega, by omega⟩ hc ⟨by omega, by omega⟩) rfl rfl (Nat.le_of_ble_eq_true rfl) ⟨Nat.le_of_ble_eq_true rfl, Nat.le_of_ble_eq_true rfl⟩ rfl (Nat.le_of_ble_eq_true rfl) (fun τ hz => ?_)
              refine ok_inc3 108 rfl rfl rfl (by first | omega | (simp [up_if]; omega) | (simp [up_if] at *; omega)) (ok_goto 109 113 rfl rfl rfl ?_)
              exact ih2 (j + 1) τ ⟨by omega, by omega, gC ρ τ f hz.1, capB_mono hz.2 (by omega)⟩ (by omega)
            · refine ok_iconst 103 rfl rfl (by decide) (ok_goto 104 166 rfl rfl rfl (ok_callSI (M' := M_Mo_one) (as := [_]) 106 rfl rfl ml_X12_192 (s_Mo_one) ⟨Nat.le_of_ble_eq_true rfl, Nat.le_of_ble_eq_true rfl⟩ rfl (Nat.le_of_ble_eq_true rfl) (fun σ' y2 p2 => ?_)))
              obtain ⟨hs_, p2⟩ := p2
              rw [hs_]; clear hs_ σ'
              have p2 : 0 ≤ y2 ∧ y2 ≤ 1 := by rw [p2]; split <;> omega
              refine ok_callVV (M' := M_Mo_edge) (as := [_, _, _, _]) 107 rfl rfl ml_X12_330 (s_Mo_edge ⟨by omega, by omega⟩ ⟨by omega, by omega⟩ ⟨by omega, by omega⟩ ⟨by omega, by omega⟩ hc ⟨by omega, by omega⟩) rfl rfl (Nat.le_of_ble_eq_true rfl) ⟨Nat.le_of_ble_eq_true rfl, Nat.le_of_ble_eq_true rfl⟩ rfl (Nat.le_of_ble_eq_true rfl) (fun τ hz => ?_)
              refine ok_inc3 108 rfl rfl rfl (by first | omega | (simp [up_if]; omega) | (simp [up_if] at *; omega)) (ok_goto 109 113 rfl rfl rfl ?_)
              exact ih2 (j + 1) τ ⟨by omega, by omega, gC ρ τ f hz.1, capB_mono hz.2 (by omega)⟩ (by omega)
    · have b1 := hl i (by omega)
      have b2 := hl (8 + i) (by omega)
      rw [← l1, ← l2] at b1
      refine ok_aload_n 17 rfl rfl rfl (ok_iconst 18 rfl rfl (by decide) (ok_iconst 19 rfl rfl (by decide) (ok_iload_n 20 rfl rfl rfl (ok_iadd 21 rfl rfl (by first | omega | (simp [up_if]; omega) | (simp [up_if] at *; omega)) (ok_aload_n 22 rfl rfl rfl (ok_getR 23 rfl rfl fl_X12_57 rfl rfl (ok_iload_n 24 rfl rfl rfl (ok_iald 25 rfl rfl rfl (by first | omega | (simp [up_if]; omega) | (simp [up_if] at *; omega)) (ok_aload_n 26 rfl rfl rfl (ok_getR 27 rfl rfl fl_X12_60 rfl rfl (ok_iload_n 28 rfl rfl rfl (ok_iald 29 rfl rfl rfl (by first | omega | (simp [up_if]; omega) | (simp [up_if] at *; omega)) (ok_callVV (M' := M_Mo_edge) (as := [_, _, _, _]) 30 rfl rfl ml_X12_330 (s_Mo_edge ⟨by omega, by omega⟩ ⟨by omega, by omega⟩ ⟨by omega, by omega⟩ ⟨by omega, by omega⟩ hc ⟨by omega, by omega⟩) rfl rfl (Nat.le_of_ble_eq_true rfl) ⟨Nat.le_of_ble_eq_true rfl, Nat.le_of_ble_eq_true rfl⟩ rfl (Nat.le_of_ble_eq_true rfl) (fun τ hz => ?_))))))))))))))
      have g := gC ρ τ f hz.1
      obtain ⟨l3, l4⟩ := L τ g
      rw [← l3, ← l4] at b2
      refine ok_aload_n 31 rfl rfl rfl (ok_bipush 32 rfl rfl (by decide) (by decide) (ok_iload_n 33 rfl rfl rfl (ok_iadd 34 rfl rfl (by first | omega | (simp [up_if]; omega) | (simp [up_if] at *; omega)) (ok_bipush 35 rfl rfl (by decide) (by decide) (ok_aload_n 36 rfl rfl rfl (ok_getR 37 rfl rfl fl_X12_57 rfl rfl (ok_bipush 38 rfl rfl (by decide) (by decide) (ok_iload_n 39 rfl rfl rfl (ok_iadd 40 rfl rfl (by first | omega | (simp [up_if]; omega) | (simp [up_if] at *; omega)) (ok_iald 41 rfl rfl rfl (by first | omega | (simp [up_if]; omega) | (simp [up_if] at *; omega)) (ok_aload_n 42 rfl rfl rfl (ok_getR 43 rfl rfl fl_X12_60 rfl rfl (ok_bipush 44 rfl rfl (by decide) (by decide) (ok_iload_n 45 rfl rfl rfl (ok_iadd 46 rfl rfl (by first | omega | (simp [up_if]; omega) | (simp [up_if] at *; omega)) (ok_iald 47 rfl rfl rfl (by first | omega | (simp [up_if]; omega) | (simp [up_if] at *; omega)) (ok_callVV (M' := M_Mo_edge) (as := [_, _, _, _]) 48 rfl rfl ml_X12_330 (s_Mo_edge ⟨by omega, by omega⟩ ⟨by omega, by omega⟩ ⟨by omega, by omega⟩ ⟨by omega, by omega⟩ hz.2 ⟨by omega, by omega⟩) rfl rfl (Nat.le_of_ble_eq_true rfl) ⟨Nat.le_of_ble_eq_true rfl, Nat.le_of_ble_eq_true rfl⟩ rfl (Nat.le_of_ble_eq_true rfl) (fun υ hz2 => ?_))))))))))))))))))
      refine ok_inc2 49 rfl rfl rfl (by first | omega | (simp [up_if]; omega) | (simp [up_if] at *; omega)) (ok_goto 50 24 rfl rfl rfl ?_)
      exact ih (i + 1) υ ⟨by omega, by omega, gC τ υ g hz2.1, capB_mono hz2.2 (by omega)⟩ (by omega)
  · refine ok_aload_n 5 rfl rfl rfl (ok_getR 6 rfl rfl fl_X12_63 rfl rfl (ok_iload_n 7 rfl rfl rfl (ok_iconst 8 rfl rfl (by decide) (ok_iast 9 rfl rfl rfl (by first | omega | (simp [up_if]; omega) | (simp [up_if] at *; omega)) (ok_inc2 10 rfl rfl rfl (by first | omega | (simp [up_if]; omega) | (simp [up_if] at *; omega)) (ok_goto 11 2 rfl rfl rfl ?_))))))
    refine ih (k + 1) _ ⟨by omega, by omega, fr_up f (by simp [rgQ]), lt_ext (fun v a b => ?_) ?_⟩ (by omega)
    · rw [up_nk _ _ _ _ (by omega)]; exact hz v a b
    · rw [up_same]
end
section
abbrev rgN : Nat → Int → Prop := fun c _ => 14 ≤ c ∧ c ≤ 19
theorem s_Mo_rounded {σ : eS} {s r c : Int} (hB : iB1 σ) : MtI shB M_Mo_rounded [vr 0, vi s, vi r, vi c] σ (fun σ' _ => fr rgN σ σ') := by
  refine Mt.of okM_Mo_rounded (Nat.le_of_ble_eq_true rfl) (fun hk hg => ?_)
  refine ok_aload_n 0 rfl rfl rfl (ok_iload_n 1 rfl rfl rfl (ok_iload_n 2 rfl rfl rfl (ok_iload_n 3 rfl rfl rfl (ok_callVI (M' := M_Mo_isCell) (as := [_, _, _]) 4 rfl rfl ml_X12_211 (s_Mo_isCell hB) rfl rfl (Nat.le_of_ble_eq_true rfl) ⟨Nat.le_of_ble_eq_true rfl, Nat.le_of_ble_eq_true rfl⟩ rfl (Nat.le_of_ble_eq_true rfl) (fun σ' z1 a1 => ?_)))))
  obtain ⟨hs_, a1⟩ := a1
  rw [hs_]; clear hs_ σ'
  refine ok_if_ne 5 12 rfl rfl rfl (fun h7 => ?_) (fun h7 => ?_)
  · obtain ⟨⟨u1, u2, u3⟩, c1, c2, c3, c4⟩ := yes1 a1 h7
    have tn := hB.1 s u1 u2
    obtain ⟨n, en⟩ : ∃ n, n = σ 1 s := ⟨_, rfl⟩
    obtain ⟨b, eb⟩ : ∃ b, b = σ 2 s := ⟨_, rfl⟩
    have hb : 1 ≤ b ∧ b ≤ 999999 := by have := tn.2.2 (by omega); omega
    have n1 : 1 ≤ n ∧ n ≤ 8 := by omega
    have bm := ix8 (n := n) (i := r) (j := c) ⟨by omega, by omega⟩ ⟨by omega, by omega⟩ ⟨by omega, by omega⟩
    refine ok_aload_n 8 rfl rfl rfl (ok_getR 9 rfl rfl fl_X12_7 rfl rfl (ok_iload_n 10 rfl rfl rfl (ok_iald 11 rfl rfl rfl (by first | omega | (simp [up_if]; omega) | (simp [up_if] at *; omega)) ?_)))
    rw [← en]
    refine ok_ist4 12 rfl rfl rfl (ok_aload_n 13 rfl rfl rfl (ok_iload_n 14 rfl rfl rfl (ok_callVV (M' := M_Mo_laysBounds) (as := [_]) 15 rfl rfl ml_X12_337 (s_Mo_laysBounds hB ⟨u1, u2, u3⟩) rfl rfl (Nat.le_of_ble_eq_true rfl) ⟨Nat.le_of_ble_eq_true rfl, Nat.le_of_ble_eq_true rfl⟩ rfl (Nat.le_of_ble_eq_true rfl) (fun τ hz => ?_))))
    obtain ⟨f, hl, ht⟩ := hz
    rw [← en] at hl
    replace f : fr rgN σ τ := f.mono (fun c k q => by simp only [rgH, rgN] at q ⊢; omega)
    refine ok_iconst 16 rfl rfl (by decide) (ok_ist5 17 rfl rfl rfl ?_)
    have E : ∀ υ : eS, fr rgN σ υ → iB1 υ ∧ υ 1 s = n ∧ υ 2 s = b := fun υ g => ⟨iB1_frS hB g (fun c k q => by simp only [rgN]; omega), by rw [g 1 s (by simp [rgN]), en], by rw [g 2 s (by simp [rgN]), eb]⟩
    refine lpO2 (fun (k : Int) (_ : eS) => [some (vr 0), some (vi s), some (vi r), some (vi c), some (vi n), some (vi k)]) (fun _ υ => υ) (fun k υ => 0 ≤ k ∧ k ≤ n * n ∧ fr rgN σ υ ∧ lhB υ n ∧ lhT υ) (fun k _ => (n * n - k).toNat) ?_ 0 τ ⟨by omega, by omega, f, hl, ht⟩
    clear f hl ht τ
    rintro k υ ⟨k1, k2, f, hl, ht⟩ ih
    obtain ⟨e1, e2, e3⟩ := E υ f
    refine ok_iload 18 rfl rfl rfl (ok_iload 19 rfl rfl rfl (ok_iload 20 rfl rfl rfl (ok_imul 21 rfl rfl (by first | omega | (simp [up_if]; omega) | (simp [up_if] at *; omega)) (ok_icmp_ge 22 78 rfl rfl rfl (fun h35 => ?_) (fun h35 => ?_)))))
    · refine ok_iconst 46 rfl rfl (by decide) (ok_ist5 47 rfl rfl rfl ?_)
      clear ih k1 k2 h35 e1 e2 e3
      refine lpO2 (fun (k : Int) (_ : eS) => [some (vr 0), some (vi s), some (vi r), some (vi c), some (vi n), some (vi k)]) (fun _ υ => υ) (fun k υ => 0 ≤ k ∧ k ≤ n * r + c + 1 ∧ fr rgN σ υ ∧ lhB υ n ∧ lhT υ) (fun k _ => (n * r + c + 1 - k).toNat) ?_ 0 υ ⟨by omega, by omega, f, hl, ht⟩
      clear f hl ht k υ
      rintro k υ ⟨k1, k2, f, hl, ht⟩ ih
      obtain ⟨e1, e2, e3⟩ := E υ f
      have U : ∀ (ρ : eS) (z : Int), fr rgN σ ρ → lhB ρ n → lhT ρ → fr rgN σ (up ρ 14 k z) ∧ lhB (up ρ 14 k z) n ∧ lhT (up ρ 14 k z) := fun ρ z g1 g2 g3 => ⟨fr_up g1 (by simp [rgN]), fun q w => by rw [up_ne _ _ _ _ (by decide), up_ne _ _ _ _ (by decide)]; exact g2 q w, by unfold lhT; rw [up_ne _ _ _ _ (by decide), up_ne _ _ _ _ (by decide)]; exact g3⟩
      refine ok_iload 48 rfl rfl rfl (ok_iload 49 rfl rfl rfl (ok_iload_n 50 rfl rfl rfl (ok_imul 51 rfl rfl (by first | omega | (simp [up_if]; omega) | (simp [up_if] at *; omega)) (ok_iload_n 52 rfl rfl rfl (ok_iadd 53 rfl rfl (by first | omega | (simp [up_if]; omega) | (simp [up_if] at *; omega)) (ok_icmp_gt 54 136 rfl rfl rfl (fun h89 => ?_) (fun h89 => ?_)))))))
      · have cb := cB_bd e1 ⟨u1, u2⟩ (i := r) (j := c) ⟨by omega, by omega⟩ ⟨by omega, by omega⟩
        refine ok_aload_n 77 rfl rfl rfl (ok_iload_n 78 rfl rfl rfl (ok_iload_n 79 rfl rfl rfl (ok_iload_n 80 rfl rfl rfl (ok_callVI (M' := M_Mo_at) (as := [_, _, _]) 81 rfl rfl ml_X12_107 (s_Mo_at e1 ⟨u1, u2⟩ ⟨by omega, by omega⟩ ⟨by omega, by omega⟩) rfl rfl (Nat.le_of_ble_eq_true rfl) ⟨Nat.le_of_ble_eq_true rfl, Nat.le_of_ble_eq_true rfl⟩ rfl (Nat.le_of_ble_eq_true rfl) (fun σ' z hz => ?_)))))
        rw [hz.1, hz.2]
        clear hz z σ'
        refine ok_aload_n 82 rfl rfl rfl (ok_getR 83 rfl rfl fl_X12_13 rfl rfl (ok_iload_n 84 rfl rfl rfl (ok_iald 85 rfl rfl rfl (by first | omega | (simp [up_if]; omega) | (simp [up_if] at *; omega)) ?_)))
        rw [e3]
        refine ok_idiv 86 rfl rfl (by first | omega | (simp [up_if]; omega) | (simp [up_if] at *; omega)) (by first | omega | (simp [up_if]; omega) | (simp [up_if] at *; omega)) (ok_aload_n 87 rfl rfl rfl (ok_getR 88 rfl rfl fl_X12_54 rfl rfl (ok_iload 89 rfl rfl rfl (ok_iload_n 90 rfl rfl rfl (ok_imul 91 rfl rfl (by first | omega | (simp [up_if]; omega) | (simp [up_if] at *; omega)) (ok_iload_n 92 rfl rfl rfl (ok_iadd 93 rfl rfl (by first | omega | (simp [up_if]; omega) | (simp [up_if] at *; omega)) (ok_iald 94 rfl rfl rfl (by first | omega | (simp [up_if]; omega) | (simp [up_if] at *; omega)) (ok_iaddW 95 rfl rfl (ok_iret 96 rfl rfl rfl ?_))))))))))
        exact ⟨_, rfl, f⟩
      · refine ok_aload_n 55 rfl rfl rfl (ok_getR 56 rfl rfl fl_X12_54 rfl rfl (ok_iload 57 rfl rfl rfl (ok_iald 58 rfl rfl rfl (by first | omega | (simp [up_if]; omega) | (simp [up_if] at *; omega)) (ok_if_ne 59 105 rfl rfl rfl (fun h99 => ?_) (fun h99 => ?_)))))
        · obtain ⟨v1, v2, v3⟩ := U υ 0 f hl ht
          refine ok_aload_n 61 rfl rfl rfl (ok_getR 62 rfl rfl fl_X12_54 rfl rfl (ok_iload 63 rfl rfl rfl (ok_iconst 64 rfl rfl (by decide) (ok_iast 65 rfl rfl rfl (by first | omega | (simp [up_if]; omega) | (simp [up_if] at *; omega)) (ok_aload_n 66 rfl rfl rfl (ok_iload 67 rfl rfl rfl (ok_callVI (M' := M_Mo_isKept) (as := [_]) 68 rfl rfl ml_X12_340 (s_Mo_isKept n1 v2 v3) rfl rfl (Nat.le_of_ble_eq_true rfl) ⟨Nat.le_of_ble_eq_true rfl, Nat.le_of_ble_eq_true rfl⟩ rfl (Nat.le_of_ble_eq_true rfl) (fun ρ z hz => ?_))))))))
          have w1 : fr rgN σ ρ := v1.tr (hz.mono (fun c k q => by simp only [rgQ, rgN] at q ⊢; omega))
          have w2 : lhB ρ n := fun q w => by rw [hz 15 q (by simp [rgQ]), hz 16 q (by simp [rgQ])]; exact v2 q w
          have w3 : lhT ρ := by unfold lhT; rw [hz 15 16 (by simp [rgQ]), hz 16 16 (by simp [rgQ])]; exact v3
          refine ok_if_ne 69 130 rfl rfl rfl (fun h119 => ?_) (fun h119 => ?_)
          · refine ok_inc5 75 rfl rfl rfl (by first | omega | (simp [up_if]; omega) | (simp [up_if] at *; omega)) (ok_goto 76 81 rfl rfl rfl ?_)
            exact ih (k + 1) ρ ⟨by omega, by omega, w1, w2, w3⟩ (by omega)
          · obtain ⟨y1, y2, y3⟩ := U ρ 1 w1 w2 w3
            refine ok_aload_n 70 rfl rfl rfl (ok_getR 71 rfl rfl fl_X12_54 rfl rfl (ok_iload 72 rfl rfl rfl (ok_iconst 73 rfl rfl (by decide) (ok_iast 74 rfl rfl rfl (by first | omega | (simp [up_if]; omega) | (simp [up_if] at *; omega)) (ok_inc5 75 rfl rfl rfl (by first | omega | (simp [up_if]; omega) | (simp [up_if] at *; omega)) (ok_goto 76 81 rfl rfl rfl ?_))))))
            exact ih (k + 1) _ ⟨by omega, by omega, y1, y2, y3⟩ (by omega)
        · refine ok_goto 60 130 rfl rfl rfl (ok_inc5 75 rfl rfl rfl (by first | omega | (simp [up_if]; omega) | (simp [up_if] at *; omega)) (ok_goto 76 81 rfl rfl rfl ?_))
          exact ih (k + 1) υ ⟨by omega, by omega, f, hl, ht⟩ (by omega)
    · have cb := e1.2.1 (64 * s + k) (by omega) (by omega)
      refine ok_aload_n 23 rfl rfl rfl (ok_getR 24 rfl rfl fl_X12_54 rfl rfl (ok_iload 25 rfl rfl rfl (ok_aload_n 26 rfl rfl rfl (ok_getR 27 rfl rfl fl_X12_16 rfl rfl (ok_bipush 28 rfl rfl (by decide) (by decide) (ok_iload_n 29 rfl rfl rfl (ok_imul 30 rfl rfl (by first | omega | (simp [up_if]; omega) | (simp [up_if] at *; omega)) (ok_iload 31 rfl rfl rfl (ok_iadd 32 rfl rfl (by first | omega | (simp [up_if]; omega) | (simp [up_if] at *; omega)) (ok_iald 33 rfl rfl rfl (by first | omega | (simp [up_if]; omega) | (simp [up_if] at *; omega)) (ok_aload_n 34 rfl rfl rfl (ok_getR 35 rfl rfl fl_X12_13 rfl rfl (ok_iload_n 36 rfl rfl rfl (ok_iald 37 rfl rfl rfl (by first | omega | (simp [up_if]; omega) | (simp [up_if] at *; omega)) (ok_irem 38 rfl rfl (by first | omega | (simp [up_if]; omega) | (simp [up_if] at *; omega)) (by first | omega | (simp [up_if]; omega) | (simp [up_if] at *; omega)) (ok_if_ne 39 70 rfl rfl rfl (fun h63 => ?_) (fun h63 => ?_)))))))))))))))))
      · refine ok_iconst 42 rfl rfl (by decide) (ok_iast 43 rfl rfl rfl (by first | omega | (simp [up_if]; omega) | (simp [up_if] at *; omega)) (ok_inc5 44 rfl rfl rfl (by first | omega | (simp [up_if]; omega) | (simp [up_if] at *; omega)) (ok_goto 45 28 rfl rfl rfl ?_)))
        exact ih (k + 1) _ ⟨by omega, by omega, fr_up f (by simp [rgN]), fun q w => by rw [up_ne _ _ _ _ (by decide), up_ne _ _ _ _ (by decide)]; exact hl q w, by unfold lhT; rw [up_ne _ _ _ _ (by decide), up_ne _ _ _ _ (by decide)]; exact ht⟩ (by omega)
      · refine ok_iconst 40 rfl rfl (by decide) (ok_goto 41 71 rfl rfl rfl (ok_iast 43 rfl rfl rfl (by first | omega | (simp [up_if]; omega) | (simp [up_if] at *; omega)) (ok_inc5 44 rfl rfl rfl (by first | omega | (simp [up_if]; omega) | (simp [up_if] at *; omega)) (ok_goto 45 28 rfl rfl rfl ?_))))
        exact ih (k + 1) _ ⟨by omega, by omega, fr_up f (by simp [rgN]), fun q w => by rw [up_ne _ _ _ _ (by decide), up_ne _ _ _ _ (by decide)]; exact hl q w, by unfold lhT; rw [up_ne _ _ _ _ (by decide), up_ne _ _ _ _ (by decide)]; exact ht⟩ (by omega)
  · refine ok_iconst 6 rfl rfl (by decide) (ok_iret 7 rfl rfl rfl ?_)
    exact ⟨_, rfl, fr.rf⟩
end
section
def gK (x y : Int) (k : Nat) : Prop := y < x ∧ x * y * 2 ^ k ≤ 2 ^ 126
theorem gK_0 {a b : Int} (hb : 0 < b) (hb2 : b ≤ 9223372036854775807) : gK b (a % b) 0 := by
  have h5 := Int.emod_lt_of_pos a hb
  have h4 := Int.emod_nonneg a (by omega : b ≠ 0)
  refine ⟨h5, ?_⟩
  have m : b * (a % b) ≤ 9223372036854775807 * 9223372036854775807 := Int.mul_le_mul hb2 (by omega) h4 (by decide)
  rw [Int.pow_zero, Int.mul_one]
  exact Int.le_trans m (by decide)
theorem gK_s {x y : Int} {k : Nat} (hy : 0 < y) (h : gK x y k) : gK y (x % y) (k + 1) := by
  obtain ⟨h1, h2⟩ := h
  have h5 := Int.emod_lt_of_pos x hy
  have h4 := Int.emod_nonneg x (by omega : y ≠ 0)
  have h6 := Int.mul_ediv_add_emod x y
  have h7 : 1 ≤ x / y := Int.le_ediv_of_mul_le hy (by omega)
  have h8 : y * 1 ≤ y * (x / y) := Int.mul_le_mul_of_nonneg_left h7 (by omega)
  refine ⟨h5, ?_⟩
  have m : y * (x % y) * 2 ≤ x * y := by
    rw [Int.mul_assoc, Int.mul_comm x y]
    exact Int.mul_le_mul_of_nonneg_left (by omega) (by omega)
  have p : (0 : Int) ≤ 2 ^ k := Int.le_of_lt (Int.pow_pos (by decide))
  have e : y * (x % y) * 2 ^ (k + 1) = y * (x % y) * 2 * 2 ^ k := by rw [Int.pow_succ, Int.mul_comm (2 ^ k) 2, ← Int.mul_assoc]
  rw [e]
  exact Int.le_trans (Int.mul_le_mul_of_nonneg_right m p) h2
theorem gK_e {x y : Int} (hy : 0 < y) (h : gK x y 199) : False := by
  obtain ⟨h1, h2⟩ := h
  have m : 1 * 1 ≤ x * y := Int.mul_le_mul (by omega) (by omega) (by decide) (by omega)
  have m2 : 1 * 1 * 2 ^ 199 ≤ x * y * 2 ^ 199 := Int.mul_le_mul_of_nonneg_right m (by decide)
  have := Int.le_trans m2 h2
  exact absurd this (by decide)
theorem s_Nu_greatestDivisor {σ : eS} {a b : Int} (ha : 0 ≤ a) (hb : 0 ≤ b ∧ b ≤ 9223372036854775807) : MtL shA M_Nu_greatestDivisor [vl a, vl b] σ (fun σ' z => σ' = σ ∧ z = (Int.gcd a b : Int)) := by
  refine Mt.of okM_Nu_greatestDivisor (Nat.le_of_ble_eq_true rfl) (fun hk hg => ?_)
  refine ok_lload_n 0 rfl rfl rfl (ok_lst4 1 rfl rfl rfl (ok_lload_n 2 rfl rfl rfl (ok_lst6 3 rfl rfl rfl (ok_iconst 4 rfl rfl (by decide) (ok_ist8 5 rfl rfl rfl ?_)))))
  refine lpO3 (fun x y k : Int => [some (vl a), none, some (vl b), none, some (vl x), none, some (vl y), none, some (vi k), none, none]) (fun _ _ _ => σ) (fun x y k => 0 ≤ x ∧ 0 ≤ y ∧ y ≤ 9223372036854775807 ∧ 0 ≤ k ∧ k ≤ 200 ∧ (Int.gcd x y : Int) = (Int.gcd a b : Int) ∧ (1 ≤ k → gK x y (k - 1).toNat)) (fun _ _ k => (200 - k).toNat) ?_ a b 0 ⟨ha, hb.1, hb.2, by omega, by omega, rfl, fun q => by omega⟩
  rintro x y k ⟨h1, h2, h3, k1, k2, hg2, hK⟩ ih
  refine ok_iload 6 rfl rfl rfl (ok_sipush 7 rfl rfl (by decide) (by decide) (ok_icmp_ge 8 45 rfl rfl rfl (fun h14 => ?_) (fun h14 => ?_)))
  · refine ok_lload 23 rfl rfl rfl (ok_lret 24 rfl rfl rfl ?_)
    have y0 : y = 0 := by
      rcases (show y = 0 ∨ 0 < y by omega) with q | q
      · exact q
      · have hK := hK (by omega)
        rw [show (k - 1).toNat = 199 by omega] at hK
        exact (gK_e q hK).elim
    exact ⟨_, rfl, rfl, by rw [← hg2, y0, gcd_0 h1]⟩
  · refine ok_lload 9 rfl rfl rfl (ok_lconst (w := 0) 10 rfl rfl rfl (by decide) (ok_lcmp_eq 11 12 45 rfl rfl rfl rfl rfl (fun h20 => ?_) (fun h20 => ?_)))
    · refine ok_lload 23 rfl rfl rfl (ok_lret 24 rfl rfl rfl ?_)
      have y0 : y = 0 := by
        rcases (show y = 0 ∨ 0 < y by omega) with q | q
        · exact q
        · have hK := hK (by omega)
          rw [show (k - 1).toNat = 199 by omega] at hK
          exact (gK_e q hK).elim
      exact ⟨_, rfl, rfl, by rw [← hg2, y0, gcd_0 h1]⟩
    · have h4 := Int.emod_nonneg x (by omega : y ≠ 0)
      have h5 := Int.emod_lt_of_pos x (by omega : 0 < y)
      refine ok_lload 13 rfl rfl rfl (ok_lload 14 rfl rfl rfl (ok_lrem 15 rfl rfl (by first | omega | (simp [up_if]; omega) | (simp [up_if] at *; omega)) (by first | omega | (simp [up_if]; omega) | (simp [up_if] at *; omega)) (ok_lst9 16 rfl rfl rfl (ok_lload 17 rfl rfl rfl (ok_lst4 18 rfl rfl rfl (ok_lload 19 rfl rfl rfl (ok_lst6 20 rfl rfl rfl (ok_inc8 21 rfl rfl rfl (by first | omega | (simp [up_if]; omega) | (simp [up_if] at *; omega)) (ok_goto 22 9 rfl rfl rfl ?_)))))))))
      refine ok_fg [some (vl a), none, some (vl b), none, some (vl y), none, some (vl (x % y)), none, some (vi (k + 1)), none, none] ⟨rfl, rfl, rfl, rfl, rfl, trivial⟩ (ih y (x % y) (k + 1) ⟨h2, h4, by omega, by omega, by omega, by rw [← hg2, gcd_step h1 (by omega)], fun _ => ?_⟩ (by omega))
      rcases (show k = 0 ∨ 1 ≤ k by omega) with q | q
      · rw [show (k + 1 - 1).toNat = 0 by omega]; exact gK_0 (by omega) h3
      · rw [show (k + 1 - 1).toNat = (k - 1).toNat + 1 by omega]; exact gK_s (by omega) (hK q)
end
section
def tA (t : Nat) : Prop := t = 2 ∨ t = 3 ∨ t = 4 ∨ t = 5
theorem sT {t : Nat} (h : tA t) : nth shA t = some (0, 7, [t + 4 + 3, 0, 0, 0, 2, 1, 2, 0, 0]) := by rcases h with q | q | q | q <;> subst q <;> rfl
theorem sC {t : Nat} (h : tA t) : nth shA (t + 4) = some (1, 64, []) := by rcases h with q | q | q | q <;> subst q <;> rfl
def cT (σ : eS) (t : Nat) (i j : Int) : Int := σ (t + 4) (i * 8 + j)
def iT (σ : eS) (t : Nat) : Prop := 0 ≤ σ t 1 ∧ σ t 1 ≤ 8 ∧ (0 < σ t 1 → 1 ≤ σ t 2 ∧ σ t 2 ≤ 999999) ∧ ∀ k : Int, 0 ≤ k → k < 64 → 0 ≤ σ (t + 4) k ∧ σ (t + 4) k ≤ 99999999
def rowT (σ : eS) (t : Nat) (i : Int) : Int := sm (fun j => cT σ t i j) (σ t 1).toNat
def colT (σ : eS) (t : Nat) (j : Int) : Int := sm (fun i => cT σ t i j) (σ t 1).toNat
theorem cT_bd {σ : eS} {t : Nat} {i j : Int} (hT : iT σ t) (hi : 0 ≤ i ∧ i < 8) (hj : 0 ≤ j ∧ j < 8) : 0 ≤ cT σ t i j ∧ cT σ t i j ≤ 99999999 := hT.2.2.2 _ (by omega) (by omega)
theorem s_Ta_has {σ : eS} {t : Nat} {i : Int} (ht : tA t) : MtI shA M_Ta_has [vr t, vi i] σ (fun σ' z => σ' = σ ∧ ((z = 1 ∧ 0 ≤ i ∧ i < σ t 1) ∨ (z = 0 ∧ ¬ (0 ≤ i ∧ i < σ t 1)))) := by
  refine Mt.of okM_Ta_has (Nat.le_of_ble_eq_true rfl) (fun hk hg => ?_)
  refine ok_iload_n 0 rfl rfl rfl (ok_if_lt 1 16 rfl rfl rfl (fun h1 => ?_) (fun h1 => ?_))
  · refine ok_iconst 8 rfl rfl (by decide) (ok_zret 9 rfl rfl rfl (by first | omega | (simp [up_if]; omega) | (simp [up_if] at *; omega)) ?_)
    exact ⟨_, rfl, rfl, by omega⟩
  · refine ok_iload_n 2 rfl rfl rfl (ok_aload_n 3 rfl rfl rfl (ok_getI 4 rfl rfl fl_X9_15 (sT ht) rfl (Or.inl rfl) (ok_icmp_ge 5 16 rfl rfl rfl (fun h9 => ?_) (fun h9 => ?_))))
    · refine ok_iconst 8 rfl rfl (by decide) (ok_zret 9 rfl rfl rfl (by first | omega | (simp [up_if]; omega) | (simp [up_if] at *; omega)) ?_)
      exact ⟨_, rfl, rfl, by omega⟩
    · refine ok_iconst 6 rfl rfl (by decide) (ok_goto 7 17 rfl rfl rfl (ok_zret 9 rfl rfl rfl (by first | omega | (simp [up_if]; omega) | (simp [up_if] at *; omega)) ?_))
      exact ⟨_, rfl, rfl, by omega⟩
theorem s_Ta_sumOfRow {σ : eS} {t : Nat} {i : Int} (ht : tA t) (hT : iT σ t) (hi : 0 ≤ i ∧ i < 8) : MtI shA M_Ta_sumOfRow [vr t, vi i] σ (fun σ' z => σ' = σ ∧ z = rowT σ t i) := by
  refine Mt.of okM_Ta_sumOfRow (Nat.le_of_ble_eq_true rfl) (fun hk hg => ?_)
  have hn := hT.1
  have hn2 := hT.2.1
  refine ok_iconst 0 rfl rfl (by decide) (ok_ist2 1 rfl rfl rfl (ok_iconst 2 rfl rfl (by decide) (ok_ist3 3 rfl rfl rfl ?_)))
  refine lpO2 (fun v j : Int => [some (vr t), some (vi i), some (vi v), some (vi j)]) (fun _ _ => σ) (fun v j => 0 ≤ j ∧ j ≤ σ t 1 ∧ v = sm (fun j => cT σ t i j) j.toNat) (fun _ j => (8 - j).toNat) ?_ 0 0 ⟨by omega, by omega, rfl⟩
  rintro v j ⟨j1, j2, ev⟩ ih
  have sb := sm_bd (f := fun j => cT σ t i j) (B := 99999999) (by decide) (n := j.toNat) (fun k a b => cT_bd hT hi ⟨a, by omega⟩)
  rw [← ev] at sb
  have e := sm_s (fun j => cT σ t i j) j1
  refine ok_iload_n 4 rfl rfl rfl (ok_aload_n 5 rfl rfl rfl (ok_getI 6 rfl rfl fl_X9_15 (sT ht) rfl (Or.inl rfl) (ok_icmp_ge 7 32 rfl rfl rfl (fun h9 => ?_) (fun h9 => ?_))))
  · refine ok_iload_n 21 rfl rfl rfl (ok_iret 22 rfl rfl rfl ?_)
    exact ⟨_, rfl, rfl, by rw [ev, show j = σ t 1 by omega]; rfl⟩
  · have cb := cT_bd hT hi (j := j) ⟨j1, by omega⟩
    unfold cT at cb
    refine ok_iload_n 8 rfl rfl rfl (ok_aload_n 9 rfl rfl rfl (ok_getR 10 rfl rfl fl_X9_9 (sT ht) rfl (ok_iload_n 11 rfl rfl rfl (ok_bipush 12 rfl rfl (by decide) (by decide) (ok_imul 13 rfl rfl (by first | omega | (simp [up_if]; omega) | (simp [up_if] at *; omega)) (ok_iload_n 14 rfl rfl rfl (ok_iadd 15 rfl rfl (by first | omega | (simp [up_if]; omega) | (simp [up_if] at *; omega)) (ok_iald 16 rfl rfl (sC ht) (by first | omega | (simp [up_if]; omega) | (simp [up_if] at *; omega)) (ok_iadd 17 rfl rfl (by first | omega | (simp [up_if]; omega) | (simp [up_if] at *; omega)) (ok_ist2 18 rfl rfl rfl (ok_inc3 19 rfl rfl rfl (by first | omega | (simp [up_if]; omega) | (simp [up_if] at *; omega)) (ok_goto 20 4 rfl rfl rfl ?_))))))))))))
    exact ih _ (j + 1) ⟨by omega, by omega, by rw [e, ev]; rfl⟩ (by omega)
theorem s_Ta_sumOfColumn {σ : eS} {t : Nat} {i : Int} (ht : tA t) (hT : iT σ t) (hi : 0 ≤ i ∧ i < 8) : MtI shA M_Ta_sumOfColumn [vr t, vi i] σ (fun σ' z => σ' = σ ∧ z = colT σ t i) := by
  refine Mt.of okM_Ta_sumOfColumn (Nat.le_of_ble_eq_true rfl) (fun hk hg => ?_)
  have hn := hT.1
  have hn2 := hT.2.1
  refine ok_iconst 0 rfl rfl (by decide) (ok_ist2 1 rfl rfl rfl (ok_iconst 2 rfl rfl (by decide) (ok_ist3 3 rfl rfl rfl ?_)))
  refine lpO2 (fun v j : Int => [some (vr t), some (vi i), some (vi v), some (vi j)]) (fun _ _ => σ) (fun v j => 0 ≤ j ∧ j ≤ σ t 1 ∧ v = sm (fun j => cT σ t j i) j.toNat) (fun _ j => (8 - j).toNat) ?_ 0 0 ⟨by omega, by omega, rfl⟩
  rintro v j ⟨j1, j2, ev⟩ ih
  have sb := sm_bd (f := fun j => cT σ t j i) (B := 99999999) (by decide) (n := j.toNat) (fun k a b => cT_bd hT ⟨a, by omega⟩ hi)
  rw [← ev] at sb
  have e := sm_s (fun j => cT σ t j i) j1
  refine ok_iload_n 4 rfl rfl rfl (ok_aload_n 5 rfl rfl rfl (ok_getI 6 rfl rfl fl_X9_15 (sT ht) rfl (Or.inl rfl) (ok_icmp_ge 7 32 rfl rfl rfl (fun h9 => ?_) (fun h9 => ?_))))
  · refine ok_iload_n 21 rfl rfl rfl (ok_iret 22 rfl rfl rfl ?_)
    exact ⟨_, rfl, rfl, by rw [ev, show j = σ t 1 by omega]; rfl⟩
  · have cb := cT_bd hT (i := j) ⟨j1, by omega⟩ hi
    unfold cT at cb
    refine ok_iload_n 8 rfl rfl rfl (ok_aload_n 9 rfl rfl rfl (ok_getR 10 rfl rfl fl_X9_9 (sT ht) rfl (ok_iload_n 11 rfl rfl rfl (ok_bipush 12 rfl rfl (by decide) (by decide) (ok_imul 13 rfl rfl (by first | omega | (simp [up_if]; omega) | (simp [up_if] at *; omega)) (ok_iload_n 14 rfl rfl rfl (ok_iadd 15 rfl rfl (by first | omega | (simp [up_if]; omega) | (simp [up_if] at *; omega)) (ok_iald 16 rfl rfl (sC ht) (by first | omega | (simp [up_if]; omega) | (simp [up_if] at *; omega)) (ok_iadd 17 rfl rfl (by first | omega | (simp [up_if]; omega) | (simp [up_if] at *; omega)) (ok_ist2 18 rfl rfl rfl (ok_inc3 19 rfl rfl rfl (by first | omega | (simp [up_if]; omega) | (simp [up_if] at *; omega)) (ok_goto 20 4 rfl rfl rfl ?_))))))))))))
    exact ih _ (j + 1) ⟨by omega, by omega, by rw [e, ev]; rfl⟩ (by omega)
end
section
theorem s_Tp_hasRoom {σ : eS} (h : 0 ≤ σ 10 3 ∧ σ 10 3 ≤ 600) : MtI shA M_Tp_hasRoom [vr 10] σ (fun σ' z => σ' = σ ∧ ((z = 1 ∧ σ 10 3 + 20 ≤ 600) ∨ (z = 0 ∧ ¬ (σ 10 3 + 20 ≤ 600)))) := by
  refine Mt.of okM_Tp_hasRoom (Nat.le_of_ble_eq_true rfl) (fun hk hg => ?_)
  refine ok_aload_n 0 rfl rfl rfl (ok_getI 1 rfl rfl fl_X10_21 rfl rfl (Or.inl rfl) (ok_bipush 2 rfl rfl (by decide) (by decide) (ok_iadd 3 rfl rfl (by first | omega | (simp [up_if]; omega) | (simp [up_if] at *; omega)) (ok_sipush 4 rfl rfl (by decide) (by decide) (ok_icmp_gt 5 17 rfl rfl rfl (fun h10 => ?_) (fun h10 => ?_))))))
  · refine ok_iconst 8 rfl rfl (by decide) (ok_zret 9 rfl rfl rfl (by first | omega | (simp [up_if]; omega) | (simp [up_if] at *; omega)) ?_)
    exact ⟨_, rfl, rfl, by omega⟩
  · refine ok_iconst 6 rfl rfl (by decide) (ok_goto 7 18 rfl rfl rfl (ok_zret 9 rfl rfl rfl (by first | omega | (simp [up_if]; omega) | (simp [up_if] at *; omega)) ?_))
    exact ⟨_, rfl, rfl, by omega⟩
theorem s_Tp_drop {σ : eS} : MtV shA M_Tp_drop [vr 10] σ (fun σ' => fr (fun c k => c = 10 ∧ (k = 3 ∨ k = 4 ∨ k = 5)) σ σ' ∧ σ' 10 3 = 0) := by
  refine Mt.of okM_Tp_drop (Nat.le_of_ble_eq_true rfl) (fun hk hg => ?_)
  refine ok_aload_n 0 rfl rfl rfl (ok_iconst 1 rfl rfl (by decide) (ok_putI 2 rfl rfl fl_X10_21 rfl rfl rfl rfl (ok_aload_n 3 rfl rfl rfl (ok_iconst 4 rfl rfl (by decide) (ok_putI 5 rfl rfl fl_X10_25 rfl rfl rfl rfl (ok_aload_n 6 rfl rfl rfl (ok_iconst 7 rfl rfl (by decide) (ok_putI 8 rfl rfl fl_X10_28 rfl rfl rfl rfl (ok_vret 9 rfl rfl rfl ?_)))))))))
  exact ⟨rfl, fr_up (fr_up (fr_up fr.rf (by simp)) (by simp)) (by simp), by simp [up_if]⟩
theorem s_Ev_end {σ : eS} {n : Int} : MtI shA M_Ev_end [vr 0, vi n] σ (fun σ' z => (0 ≤ n ∧ n ≤ σ 10 3 ∧ σ' = up σ 10 3 n ∧ z = 1) ∨ (¬ (0 ≤ n ∧ n ≤ σ 10 3) ∧ σ' = σ ∧ z = 0)) := by
  refine Mt.of okM_Ev_end (Nat.le_of_ble_eq_true rfl) (fun hk hg => ?_)
  refine ok_iload_n 0 rfl rfl rfl (ok_if_lt 1 15 rfl rfl rfl (fun h1 => ?_) (fun h1 => ?_))
  · refine ok_iconst 7 rfl rfl (by decide) (ok_zret 8 rfl rfl rfl (by first | omega | (simp [up_if]; omega) | (simp [up_if] at *; omega)) ?_)
    exact ⟨_, rfl, Or.inr ⟨by omega, rfl, rfl⟩⟩
  · refine ok_iload_n 2 rfl rfl rfl (ok_aload_n 3 rfl rfl rfl (ok_getR 4 rfl rfl fl_X11_18 rfl rfl (ok_getI 5 rfl rfl fl_X11_82 rfl rfl (Or.inl rfl) (ok_icmp_le 6 17 rfl rfl rfl (fun h12 => ?_) (fun h12 => ?_)))))
    · refine ok_aload_n 9 rfl rfl rfl (ok_getR 10 rfl rfl fl_X11_18 rfl rfl (ok_iload_n 11 rfl rfl rfl (ok_putI 12 rfl rfl fl_X11_82 rfl rfl rfl rfl (ok_iconst 13 rfl rfl (by decide) (ok_zret 14 rfl rfl rfl (by first | omega | (simp [up_if]; omega) | (simp [up_if] at *; omega)) ?_)))))
      exact ⟨_, rfl, Or.inl ⟨by omega, by omega, rfl, rfl⟩⟩
    · refine ok_iconst 7 rfl rfl (by decide) (ok_zret 8 rfl rfl rfl (by first | omega | (simp [up_if]; omega) | (simp [up_if] at *; omega)) ?_)
      exact ⟨_, rfl, Or.inr ⟨by omega, rfl, rfl⟩⟩
end
section
def byA (v k : Int) : Int := iand (iushr v (24 - 8 * k)) 255
def pA (σ : eS) (L v i : Int) (σ' : eS) : Prop := fr (fun c k => (c = 10 ∧ k = 3) ∨ (c = 11 ∧ L ≤ k ∧ k < L + 4)) σ σ' ∧ σ' 10 3 = L + i ∧ ∀ q, 0 ≤ q → q < i → σ' 11 (L + q) = byA v q
theorem s_Tp_putNumber {σ : eS} {v L : Int} (hL : σ 10 3 = L) (h : 0 ≤ L ∧ L ≤ 596) : MtV shA M_Tp_putNumber [vr 10, vi v] σ (fun σ' => pA σ L v 4 σ') := by
  refine Mt.of okM_Tp_putNumber (Nat.le_of_ble_eq_true rfl) (fun hk hg => ?_)
  refine ok_bipush 0 rfl rfl (by decide) (by decide) (ok_ist2 1 rfl rfl rfl ?_)
  refine lpO3 (fun (s _ : Int) (_ : eS) => [some (vr 10), some (vi v), some (vi s)]) (fun _ _ ρ => ρ) (fun s i ρ => 0 ≤ i ∧ i ≤ 4 ∧ s = 24 - 8 * i ∧ pA σ L v i ρ) (fun _ i _ => (4 - i).toNat) ?_ 24 0 σ ⟨by omega, by omega, by omega, fr.rf, by omega, fun q a b => by omega⟩
  rintro s i ρ ⟨i1, i2, es, f, e3, hq⟩ ih
  refine ok_iload_n 2 rfl rfl rfl (ok_if_lt 3 49 rfl rfl rfl (fun h4 => ?_) (fun h4 => ?_))
  · refine ok_vret 26 rfl rfl rfl ?_
    exact ⟨rfl, f, by rw [e3, show i = 4 by omega], fun q a b => hq q a (by omega)⟩
  · refine ok_aload_n 4 rfl rfl rfl (ok_getI 5 rfl rfl fl_X10_21 rfl rfl (Or.inl rfl) (ok_sipush 6 rfl rfl (by decide) (by decide) (ok_icmp_ge 7 49 rfl rfl rfl (fun h14 => ?_) (fun h14 => ?_))))
    · refine ok_vret 26 rfl rfl rfl ?_
      exact ⟨rfl, f, by rw [e3, show i = 4 by omega], fun q a b => hq q a (by omega)⟩
    · refine ok_aload_n 8 rfl rfl rfl (ok_getR 9 rfl rfl fl_X10_11 rfl rfl (ok_aload_n 10 rfl rfl rfl (ok_getI 11 rfl rfl fl_X10_21 rfl rfl (Or.inl rfl) (ok_iload_n 12 rfl rfl rfl (ok_iload_n 13 rfl rfl rfl (ok_iushr 14 rfl rfl (ok_sipush 15 rfl rfl (by decide) (by decide) (ok_iand 16 rfl rfl (ok_iast 17 rfl rfl rfl (by first | omega | (simp [up_if]; omega) | (simp [up_if] at *; omega)) (ok_aload_n 18 rfl rfl rfl (ok_dup 19 rfl rfl rfl (ok_getI 20 rfl rfl fl_X10_21 rfl rfl (Or.inl rfl) (ok_iconst 21 rfl rfl (by decide) (ok_iadd 22 rfl rfl (by first | omega | (simp [up_if]; omega) | (simp [up_if] at *; omega)) (ok_putI 23 rfl rfl fl_X10_21 rfl rfl rfl rfl (ok_inc2 24 rfl rfl rfl (by first | omega | (simp [up_if]; omega) | (simp [up_if] at *; omega)) (ok_goto 25 3 rfl rfl rfl ?_)))))))))))))))))
      refine ih _ (i + 1) _ ⟨by omega, by omega, by omega, fr_up (fr_up f (Or.inr ⟨rfl, by omega, by omega⟩)) (Or.inl ⟨rfl, rfl⟩), by rw [up_same, up_ne _ _ _ _ (by decide), e3]; omega, fun q a b => ?_⟩ (by omega)
      rw [up_ne _ _ _ _ (by decide), up_if, e3]
      by_cases w : q = i
      · rw [if_pos ⟨rfl, by rw [w]⟩, es, w]; rfl
      · rw [if_neg (by omega)]; exact hq q a (by omega)
end
section
abbrev rgG : Nat → Int → Prop := fun c k => (c = 10 ∧ k = 3) ∨ c = 11
def fdA (σ : eS) (L a b c d e : Int) (σ' : eS) : Prop := fr rgG σ σ' ∧ σ' 10 3 = L + 20 ∧ (∀ k, k < L → σ' 11 k = σ 11 k) ∧ ∀ q, 0 ≤ q → q < 4 → σ' 11 (L + q) = byA a q ∧ σ' 11 (L + 4 + q) = byA b q ∧ σ' 11 (L + 8 + q) = byA c q ∧ σ' 11 (L + 12 + q) = byA d q ∧ σ' 11 (L + 16 + q) = byA e q
theorem pA_fr {σ σ' : eS} {L v : Int} (h : pA σ L v 4 σ') : fr rgG σ σ' ∧ (∀ k, k < L → σ' 11 k = σ 11 k) ∧ ∀ k, 0 ≤ k → ¬ (k = 3) → σ' 10 k = σ 10 k :=
  ⟨h.1.mono (fun c k q => by simp only [rgG]; omega), fun k q => h.1 11 k (by omega), fun k _ q => h.1 10 k (by omega)⟩
theorem s_Ev_feed {σ : eS} {a b c d e : Int} (h : 0 ≤ σ 10 3 ∧ σ 10 3 ≤ 600) : MtI shA M_Ev_feed [vr 0, vi a, vi b, vi c, vi d, vi e] σ (fun σ' z => (σ 10 3 + 20 ≤ 600 ∧ fdA σ (σ 10 3) a b c d e σ' ∧ z = σ 10 3 + 20) ∨ (600 < σ 10 3 + 20 ∧ σ' = σ ∧ z = -1)) := by
  refine Mt.of okM_Ev_feed (Nat.le_of_ble_eq_true rfl) (fun hk hg => ?_)
  obtain ⟨L, eL⟩ : ∃ L, L = σ 10 3 := ⟨_, rfl⟩
  rw [← eL] at h ⊢
  refine ok_aload_n 0 rfl rfl rfl (ok_getR 1 rfl rfl fl_X11_18 rfl rfl (ok_callVI (M' := M_Tp_hasRoom) (as := []) 2 rfl rfl ml_X11_74 (s_Tp_hasRoom (by omega)) rfl rfl (Nat.le_of_ble_eq_true rfl) ⟨Nat.le_of_ble_eq_true rfl, Nat.le_of_ble_eq_true rfl⟩ rfl (Nat.le_of_ble_eq_true rfl) (fun σ' z1 a1 => ?_)))
  obtain ⟨hs_, a1⟩ := a1
  rw [hs_]; clear hs_ σ'
  refine ok_if_ne 3 12 rfl rfl rfl (fun h7 => ?_) (fun h7 => ?_)
  · refine ok_aload_n 6 rfl rfl rfl (ok_getR 7 rfl rfl fl_X11_18 rfl rfl (ok_iload_n 8 rfl rfl rfl (ok_callVV (M' := M_Tp_putNumber) (as := [_]) 9 rfl rfl ml_X11_78 (s_Tp_putNumber (L := L) eL.symm ⟨by omega, by omega⟩) rfl rfl (Nat.le_of_ble_eq_true rfl) ⟨Nat.le_of_ble_eq_true rfl, Nat.le_of_ble_eq_true rfl⟩ rfl (Nat.le_of_ble_eq_true rfl) (fun σ1 p1 => ?_))))
    refine ok_aload_n 10 rfl rfl rfl (ok_getR 11 rfl rfl fl_X11_18 rfl rfl (ok_iload_n 12 rfl rfl rfl (ok_callVV (M' := M_Tp_putNumber) (as := [_]) 13 rfl rfl ml_X11_78 (s_Tp_putNumber (L := L + 4) p1.2.1 ⟨by omega, by omega⟩) rfl rfl (Nat.le_of_ble_eq_true rfl) ⟨Nat.le_of_ble_eq_true rfl, Nat.le_of_ble_eq_true rfl⟩ rfl (Nat.le_of_ble_eq_true rfl) (fun σ2 p2 => ?_))))
    refine ok_aload_n 14 rfl rfl rfl (ok_getR 15 rfl rfl fl_X11_18 rfl rfl (ok_iload_n 16 rfl rfl rfl (ok_callVV (M' := M_Tp_putNumber) (as := [_]) 17 rfl rfl ml_X11_78 (s_Tp_putNumber (L := L + 8) (by have := p2.2.1; omega) ⟨by omega, by omega⟩) rfl rfl (Nat.le_of_ble_eq_true rfl) ⟨Nat.le_of_ble_eq_true rfl, Nat.le_of_ble_eq_true rfl⟩ rfl (Nat.le_of_ble_eq_true rfl) (fun σ3 p3 => ?_))))
    refine ok_aload_n 18 rfl rfl rfl (ok_getR 19 rfl rfl fl_X11_18 rfl rfl (ok_iload 20 rfl rfl rfl (ok_callVV (M' := M_Tp_putNumber) (as := [_]) 21 rfl rfl ml_X11_78 (s_Tp_putNumber (L := L + 12) (by have := p3.2.1; omega) ⟨by omega, by omega⟩) rfl rfl (Nat.le_of_ble_eq_true rfl) ⟨Nat.le_of_ble_eq_true rfl, Nat.le_of_ble_eq_true rfl⟩ rfl (Nat.le_of_ble_eq_true rfl) (fun σ4 p4 => ?_))))
    refine ok_aload_n 22 rfl rfl rfl (ok_getR 23 rfl rfl fl_X11_18 rfl rfl (ok_iload 24 rfl rfl rfl (ok_callVV (M' := M_Tp_putNumber) (as := [_]) 25 rfl rfl ml_X11_78 (s_Tp_putNumber (L := L + 16) (by have := p4.2.1; omega) ⟨by omega, by omega⟩) rfl rfl (Nat.le_of_ble_eq_true rfl) ⟨Nat.le_of_ble_eq_true rfl, Nat.le_of_ble_eq_true rfl⟩ rfl (Nat.le_of_ble_eq_true rfl) (fun σ5 p5 => ?_))))
    refine ok_aload_n 26 rfl rfl rfl (ok_getR 27 rfl rfl fl_X11_18 rfl rfl (ok_getI 28 rfl rfl fl_X11_82 rfl rfl (Or.inl rfl) (ok_iret 29 rfl rfl rfl ?_)))
    have e5 : σ5 10 3 = L + 20 := by have := p5.2.1; omega
    obtain ⟨f1, g1, -⟩ := pA_fr p1
    obtain ⟨f2, g2, -⟩ := pA_fr p2
    obtain ⟨f3, g3, -⟩ := pA_fr p3
    obtain ⟨f4, g4, -⟩ := pA_fr p4
    obtain ⟨f5, g5, -⟩ := pA_fr p5
    refine ⟨_, rfl, Or.inl ⟨by omega, ⟨(((f1.tr f2).tr f3).tr f4).tr f5, e5, fun k q => ?_, fun q q1 q2 => ⟨?_, ?_, ?_, ?_, ?_⟩⟩, e5⟩⟩
    · rw [g5 k (by omega), g4 k (by omega), g3 k (by omega), g2 k (by omega), g1 k (by omega)]
    · rw [g5 _ (by omega), g4 _ (by omega), g3 _ (by omega), g2 _ (by omega)]; exact p1.2.2 q q1 q2
    · rw [g5 _ (by omega), g4 _ (by omega), g3 _ (by omega)]; exact p2.2.2 q q1 q2
    · rw [g5 _ (by omega), g4 _ (by omega)]; exact p3.2.2 q q1 q2
    · rw [g5 _ (by omega)]; exact p4.2.2 q q1 q2
    · exact p5.2.2 q q1 q2
  · refine ok_iconst 4 rfl rfl (by decide) (ok_iret 5 rfl rfl rfl ?_)
    exact ⟨_, rfl, Or.inr ⟨by omega, rfl, rfl⟩⟩
end
section
theorem rowT_bd {σ : eS} {t : Nat} {i : Int} (hT : iT σ t) (hi : 0 ≤ i ∧ i < 8) : 0 ≤ rowT σ t i ∧ rowT σ t i ≤ 799999992 := by
  have h1 := hT.1
  have h2 := hT.2.1
  have sb := sm_bd (f := fun j => cT σ t i j) (B := 99999999) (by decide) (n := (σ t 1).toNat) (fun k a b => cT_bd hT hi ⟨a, by omega⟩)
  unfold rowT
  omega
theorem colT_bd {σ : eS} {t : Nat} {i : Int} (hT : iT σ t) (hi : 0 ≤ i ∧ i < 8) : 0 ≤ colT σ t i ∧ colT σ t i ≤ 799999992 := by
  have h1 := hT.1
  have h2 := hT.2.1
  have sb := sm_bd (f := fun j => cT σ t j i) (B := 99999999) (by decide) (n := (σ t 1).toNat) (fun k a b => cT_bd hT ⟨a, by omega⟩ hi)
  unfold colT
  omega
theorem s_Ta_greatestSum {σ : eS} {t : Nat} (ht : tA t) (hT : iT σ t) : MtI shA M_Ta_greatestSum [vr t] σ (fun σ' z => σ' = σ ∧ 0 ≤ z ∧ z ≤ 799999992 ∧ ∀ k, 0 ≤ k → k < σ t 1 → rowT σ t k ≤ z ∧ colT σ t k ≤ z) := by
  refine Mt.of okM_Ta_greatestSum (Nat.le_of_ble_eq_true rfl) (fun hk hg => ?_)
  have hn := hT.1
  have hn2 := hT.2.1
  refine ok_iconst 0 rfl rfl (by decide) (ok_ist1 1 rfl rfl rfl (ok_iconst 2 rfl rfl (by decide) (ok_ist2 3 rfl rfl rfl ?_)))
  refine lpO2 (fun v i : Int => [some (vr t), some (vi v), some (vi i)]) (fun _ _ => σ) (fun v i => 0 ≤ i ∧ i ≤ σ t 1 ∧ 0 ≤ v ∧ v ≤ 799999992 ∧ ∀ k, 0 ≤ k → k < i → rowT σ t k ≤ v ∧ colT σ t k ≤ v) (fun _ i => (8 - i).toNat) ?_ 0 0 ⟨by omega, by omega, by omega, by omega, fun k a b => by omega⟩
  rintro v i ⟨i1, i2, v1, v2, vm⟩ ih
  refine ok_iload_n 4 rfl rfl rfl (ok_aload_n 5 rfl rfl rfl (ok_getI 6 rfl rfl fl_X9_15 (sT ht) rfl (Or.inl rfl) (ok_icmp_ge 7 36 rfl rfl rfl (fun h9 => ?_) (fun h9 => ?_))))
  · refine ok_iload_n 20 rfl rfl rfl (ok_iret 21 rfl rfl rfl ?_)
    exact ⟨_, rfl, rfl, v1, v2, fun k a b => vm k a (by omega)⟩
  · have rb := rowT_bd hT (i := i) ⟨i1, by omega⟩
    have cb := colT_bd hT (i := i) ⟨i1, by omega⟩
    refine ok_iload_n 8 rfl rfl rfl (ok_aload_n 9 rfl rfl rfl (ok_iload_n 10 rfl rfl rfl (ok_callVI (M' := M_Ta_sumOfRow) (as := [_]) 11 rfl rfl ml_X9_52 (s_Ta_sumOfRow ht hT ⟨by omega, by omega⟩) (sT ht) rfl (Nat.le_of_ble_eq_true rfl) ⟨Nat.le_of_ble_eq_true rfl, Nat.le_of_ble_eq_true rfl⟩ rfl (Nat.le_of_ble_eq_true rfl) (fun σ' z hz => ?_))))
    rw [hz.1, hz.2]
    clear hz z σ'
    refine ok_aload_n 12 rfl rfl rfl (ok_iload_n 13 rfl rfl rfl (ok_callVI (M' := M_Ta_sumOfColumn) (as := [_]) 14 rfl rfl ml_X9_62 (s_Ta_sumOfColumn ht hT ⟨by omega, by omega⟩) (sT ht) rfl (Nat.le_of_ble_eq_true rfl) ⟨Nat.le_of_ble_eq_true rfl, Nat.le_of_ble_eq_true rfl⟩ rfl (Nat.le_of_ble_eq_true rfl) (fun σ' z hz => ?_)))
    rw [hz.1, hz.2]
    clear hz z σ'
    refine ok_mmax 15 rfl rfl ml_X9_42 ⟨Nat.le_of_ble_eq_true rfl, Nat.le_of_ble_eq_true rfl⟩ (ok_mmax 16 rfl rfl ml_X9_42 ⟨Nat.le_of_ble_eq_true rfl, Nat.le_of_ble_eq_true rfl⟩ (ok_ist1 17 rfl rfl rfl (ok_inc2 18 rfl rfl rfl (by first | omega | (simp [up_if]; omega) | (simp [up_if] at *; omega)) (ok_goto 19 4 rfl rfl rfl ?_))))
    refine ih _ (i + 1) ⟨by omega, by omega, by omega, by omega, lt_ext (fun k a b => ?_) (by omega)⟩ (by omega)
    have := vm k a b
    omega
theorem s_Ta_firstUneven {σ : eS} {t : Nat} (ht : tA t) (hT : iT σ t) : MtI shA M_Ta_firstUneven [vr t] σ (fun σ' z => σ' = σ ∧ unev (rowT σ t) (colT σ t) (σ t 1) z) := by
  refine Mt.of okM_Ta_firstUneven (Nat.le_of_ble_eq_true rfl) (fun hk hg => ?_)
  have hn := hT.1
  have hn2 := hT.2.1
  refine ok_aload_n 0 rfl rfl rfl (ok_iconst 1 rfl rfl (by decide) (ok_callVI (M' := M_Ta_sumOfRow) (as := [_]) 2 rfl rfl ml_X9_52 (s_Ta_sumOfRow ht hT ⟨by omega, by omega⟩) (sT ht) rfl (Nat.le_of_ble_eq_true rfl) ⟨Nat.le_of_ble_eq_true rfl, Nat.le_of_ble_eq_true rfl⟩ rfl (Nat.le_of_ble_eq_true rfl) (fun σ' z hz => ?_)))
  rw [hz.1, hz.2]
  clear hz z σ'
  refine ok_ist1 3 rfl rfl rfl (ok_iconst 4 rfl rfl (by decide) (ok_ist2 5 rfl rfl rfl ?_))
  refine lpO (fun i : Int => [some (vr t), some (vi (rowT σ t 0)), some (vi i)]) (fun _ => σ) (fun i => 1 ≤ i ∧ i ≤ 8 ∧ ∀ k, 1 ≤ k → k < i → rowT σ t k = rowT σ t 0) (fun i => (8 - i).toNat) ?_ 1 ⟨by omega, by omega, fun k a b => by omega⟩
  rintro i ⟨i1, i2, hr⟩ ih
  refine ok_iload_n 6 rfl rfl rfl (ok_aload_n 7 rfl rfl rfl (ok_getI 8 rfl rfl fl_X9_15 (sT ht) rfl (Or.inl rfl) (ok_icmp_ge 9 33 rfl rfl rfl (fun h13 => ?_) (fun h13 => ?_))))
  · refine ok_iconst 19 rfl rfl (by decide) (ok_ist2 20 rfl rfl rfl ?_)
    refine lpO (fun i : Int => [some (vr t), some (vi (rowT σ t 0)), some (vi i)]) (fun _ => σ) (fun j => 0 ≤ j ∧ j ≤ 8 ∧ ∀ k, 0 ≤ k → k < j → colT σ t k = rowT σ t 0) (fun i => (8 - i).toNat) ?_ 0 ⟨by omega, by omega, fun k a b => by omega⟩
    rintro j ⟨j1, j2, hc⟩ ih2
    refine ok_iload_n 21 rfl rfl rfl (ok_aload_n 22 rfl rfl rfl (ok_getI 23 rfl rfl fl_X9_15 (sT ht) rfl (Or.inl rfl) (ok_icmp_ge 24 63 rfl rfl rfl (fun h40 => ?_) (fun h40 => ?_))))
    · refine ok_iconst 36 rfl rfl (by decide) (ok_iret 37 rfl rfl rfl ?_)
      exact ⟨_, rfl, rfl, Or.inr ⟨fun k a b => hr k a (by omega), Or.inr ⟨rfl, fun k a b => hc k a (by omega)⟩⟩⟩
    · refine ok_aload_n 25 rfl rfl rfl (ok_iload_n 26 rfl rfl rfl (ok_callVI (M' := M_Ta_sumOfColumn) (as := [_]) 27 rfl rfl ml_X9_62 (s_Ta_sumOfColumn ht hT ⟨by omega, by omega⟩) (sT ht) rfl (Nat.le_of_ble_eq_true rfl) ⟨Nat.le_of_ble_eq_true rfl, Nat.le_of_ble_eq_true rfl⟩ rfl (Nat.le_of_ble_eq_true rfl) (fun σ' z hz => ?_)))
      rw [hz.1, hz.2]
      clear hz z σ'
      refine ok_iload_n 28 rfl rfl rfl (ok_icmp_eq 29 57 rfl rfl rfl (fun h49 => ?_) (fun h49 => ?_))
      · refine ok_inc2 34 rfl rfl rfl (by first | omega | (simp [up_if]; omega) | (simp [up_if] at *; omega)) (ok_goto 35 35 rfl rfl rfl ?_)
        exact ih2 (j + 1) ⟨by omega, by omega, lt_ext hc (by omega)⟩ (by omega)
      · refine ok_bipush 30 rfl rfl (by decide) (by decide) (ok_iload_n 31 rfl rfl rfl (ok_iadd 32 rfl rfl (by first | omega | (simp [up_if]; omega) | (simp [up_if] at *; omega)) (ok_iret 33 rfl rfl rfl ?_)))
        exact ⟨_, rfl, rfl, Or.inr ⟨fun k a b => hr k a (by omega), Or.inl ⟨j, j1, by omega, by omega, by omega, hc⟩⟩⟩
  · refine ok_aload_n 10 rfl rfl rfl (ok_iload_n 11 rfl rfl rfl (ok_callVI (M' := M_Ta_sumOfRow) (as := [_]) 12 rfl rfl ml_X9_52 (s_Ta_sumOfRow ht hT ⟨by omega, by omega⟩) (sT ht) rfl (Nat.le_of_ble_eq_true rfl) ⟨Nat.le_of_ble_eq_true rfl, Nat.le_of_ble_eq_true rfl⟩ rfl (Nat.le_of_ble_eq_true rfl) (fun σ' z hz => ?_)))
    rw [hz.1, hz.2]
    clear hz z σ'
    refine ok_iload_n 13 rfl rfl rfl (ok_icmp_eq 14 27 rfl rfl rfl (fun h22 => ?_) (fun h22 => ?_))
    · refine ok_inc2 17 rfl rfl rfl (by first | omega | (simp [up_if]; omega) | (simp [up_if] at *; omega)) (ok_goto 18 8 rfl rfl rfl ?_)
      exact ih (i + 1) ⟨by omega, by omega, lt_ext hr (by omega)⟩ (by omega)
    · refine ok_iload_n 15 rfl rfl rfl (ok_iret 16 rfl rfl rfl ?_)
      exact ⟨_, rfl, rfl, Or.inl ⟨i, by omega, by omega, rfl, by omega, hr⟩⟩
end
section
def tL (σ : eS) : Prop := 0 ≤ σ 10 3 ∧ σ 10 3 ≤ 600
def tP (σ : eS) : Prop := 0 ≤ σ 10 3 ∧ σ 10 3 ≤ 600 ∧ 0 ≤ σ 10 6 ∧ σ 10 6 ≤ σ 10 3
theorem s_Tp_isBlank {σ : eS} {k : Int} (h : tL σ) (hk : 0 ≤ k) : MtI shA M_Tp_isBlank [vr 10, vi k] σ (fun σ' z => σ' = σ ∧ ((z = 1 ∧ k < σ 10 3 ∧ (σ 11 k = 32 ∨ σ 11 k = 10)) ∨ (z = 0 ∧ ¬ (k < σ 10 3 ∧ (σ 11 k = 32 ∨ σ 11 k = 10))))) := by
  refine Mt.of okM_Tp_isBlank (Nat.le_of_ble_eq_true rfl) (fun hk hg => ?_)
  obtain ⟨h1, h2⟩ := h
  refine ok_iload_n 0 rfl rfl rfl (ok_aload_n 1 rfl rfl rfl (ok_getI 2 rfl rfl fl_X10_21 rfl rfl (Or.inl rfl) (ok_icmp_ge 3 34 rfl rfl rfl (fun h5 => ?_) (fun h5 => ?_))))
  · refine ok_iconst 18 rfl rfl (by decide) (ok_zret 19 rfl rfl rfl (by first | omega | (simp [up_if]; omega) | (simp [up_if] at *; omega)) ?_)
    exact ⟨_, rfl, rfl, by omega⟩
  · refine ok_aload_n 4 rfl rfl rfl (ok_getR 5 rfl rfl fl_X10_11 rfl rfl (ok_iload_n 6 rfl rfl rfl (ok_iald 7 rfl rfl rfl (by first | omega | (simp [up_if]; omega) | (simp [up_if] at *; omega)) (ok_bipush 8 rfl rfl (by decide) (by decide) (ok_icmp_eq 9 30 rfl rfl rfl (fun h16 => ?_) (fun h16 => ?_))))))
    · refine ok_iconst 16 rfl rfl (by decide) (ok_goto 17 35 rfl rfl rfl (ok_zret 19 rfl rfl rfl (by first | omega | (simp [up_if]; omega) | (simp [up_if] at *; omega)) ?_))
      exact ⟨_, rfl, rfl, by omega⟩
    · refine ok_aload_n 10 rfl rfl rfl (ok_getR 11 rfl rfl fl_X10_11 rfl rfl (ok_iload_n 12 rfl rfl rfl (ok_iald 13 rfl rfl rfl (by first | omega | (simp [up_if]; omega) | (simp [up_if] at *; omega)) (ok_bipush 14 rfl rfl (by decide) (by decide) (ok_icmp_ne 15 34 rfl rfl rfl (fun h27 => ?_) (fun h27 => ?_))))))
      · refine ok_iconst 18 rfl rfl (by decide) (ok_zret 19 rfl rfl rfl (by first | omega | (simp [up_if]; omega) | (simp [up_if] at *; omega)) ?_)
        exact ⟨_, rfl, rfl, by omega⟩
      · refine ok_iconst 16 rfl rfl (by decide) (ok_goto 17 35 rfl rfl rfl (ok_zret 19 rfl rfl rfl (by first | omega | (simp [up_if]; omega) | (simp [up_if] at *; omega)) ?_))
        exact ⟨_, rfl, rfl, by omega⟩
theorem s_Tp_isDigit {σ : eS} {k : Int} (h : tL σ) (hk : 0 ≤ k) : MtI shA M_Tp_isDigit [vr 10, vi k] σ (fun σ' z => σ' = σ ∧ ((z = 1 ∧ k < σ 10 3 ∧ 48 ≤ σ 11 k ∧ σ 11 k ≤ 57) ∨ (z = 0 ∧ ¬ (k < σ 10 3 ∧ 48 ≤ σ 11 k ∧ σ 11 k ≤ 57)))) := by
  refine Mt.of okM_Tp_isDigit (Nat.le_of_ble_eq_true rfl) (fun hk hg => ?_)
  obtain ⟨h1, h2⟩ := h
  refine ok_iload_n 0 rfl rfl rfl (ok_aload_n 1 rfl rfl rfl (ok_getI 2 rfl rfl fl_X10_21 rfl rfl (Or.inl rfl) (ok_icmp_ge 3 34 rfl rfl rfl (fun h5 => ?_) (fun h5 => ?_))))
  · refine ok_iconst 18 rfl rfl (by decide) (ok_zret 19 rfl rfl rfl (by first | omega | (simp [up_if]; omega) | (simp [up_if] at *; omega)) ?_)
    exact ⟨_, rfl, rfl, by omega⟩
  · refine ok_aload_n 4 rfl rfl rfl (ok_getR 5 rfl rfl fl_X10_11 rfl rfl (ok_iload_n 6 rfl rfl rfl (ok_iald 7 rfl rfl rfl (by first | omega | (simp [up_if]; omega) | (simp [up_if] at *; omega)) (ok_bipush 8 rfl rfl (by decide) (by decide) (ok_icmp_lt 9 34 rfl rfl rfl (fun h16 => ?_) (fun h16 => ?_))))))
    · refine ok_iconst 18 rfl rfl (by decide) (ok_zret 19 rfl rfl rfl (by first | omega | (simp [up_if]; omega) | (simp [up_if] at *; omega)) ?_)
      exact ⟨_, rfl, rfl, by omega⟩
    · refine ok_aload_n 10 rfl rfl rfl (ok_getR 11 rfl rfl fl_X10_11 rfl rfl (ok_iload_n 12 rfl rfl rfl (ok_iald 13 rfl rfl rfl (by first | omega | (simp [up_if]; omega) | (simp [up_if] at *; omega)) (ok_bipush 14 rfl rfl (by decide) (by decide) (ok_icmp_gt 15 34 rfl rfl rfl (fun h27 => ?_) (fun h27 => ?_))))))
      · refine ok_iconst 18 rfl rfl (by decide) (ok_zret 19 rfl rfl rfl (by first | omega | (simp [up_if]; omega) | (simp [up_if] at *; omega)) ?_)
        exact ⟨_, rfl, rfl, by omega⟩
      · refine ok_iconst 16 rfl rfl (by decide) (ok_goto 17 35 rfl rfl rfl (ok_zret 19 rfl rfl rfl (by first | omega | (simp [up_if]; omega) | (simp [up_if] at *; omega)) ?_))
        exact ⟨_, rfl, rfl, by omega⟩
theorem s_Tp_isSign {σ : eS} {k c : Int} (h : tL σ) (hk : 0 ≤ k) : MtI shA M_Tp_isSign [vr 10, vi k, vi c] σ (fun σ' z => σ' = σ ∧ ((z = 1 ∧ k < σ 10 3 ∧ σ 11 k = c) ∨ (z = 0 ∧ ¬ (k < σ 10 3 ∧ σ 11 k = c)))) := by
  refine Mt.of okM_Tp_isSign (Nat.le_of_ble_eq_true rfl) (fun hk hg => ?_)
  obtain ⟨h1, h2⟩ := h
  refine ok_iload_n 0 rfl rfl rfl (ok_aload_n 1 rfl rfl rfl (ok_getI 2 rfl rfl fl_X10_21 rfl rfl (Or.inl rfl) (ok_icmp_ge 3 22 rfl rfl rfl (fun h5 => ?_) (fun h5 => ?_))))
  · refine ok_iconst 12 rfl rfl (by decide) (ok_zret 13 rfl rfl rfl (by first | omega | (simp [up_if]; omega) | (simp [up_if] at *; omega)) ?_)
    exact ⟨_, rfl, rfl, by omega⟩
  · refine ok_aload_n 4 rfl rfl rfl (ok_getR 5 rfl rfl fl_X10_11 rfl rfl (ok_iload_n 6 rfl rfl rfl (ok_iald 7 rfl rfl rfl (by first | omega | (simp [up_if]; omega) | (simp [up_if] at *; omega)) (ok_iload_n 8 rfl rfl rfl (ok_icmp_ne 9 22 rfl rfl rfl (fun h15 => ?_) (fun h15 => ?_))))))
    · refine ok_iconst 12 rfl rfl (by decide) (ok_zret 13 rfl rfl rfl (by first | omega | (simp [up_if]; omega) | (simp [up_if] at *; omega)) ?_)
      exact ⟨_, rfl, rfl, by omega⟩
    · refine ok_iconst 10 rfl rfl (by decide) (ok_goto 11 23 rfl rfl rfl (ok_zret 13 rfl rfl rfl (by first | omega | (simp [up_if]; omega) | (simp [up_if] at *; omega)) ?_))
      exact ⟨_, rfl, rfl, by omega⟩
theorem s_Tp_fail {σ : eS} {a b : Int} : MtV shA M_Tp_fail [vr 10, vi a, vi b] σ (fun σ' => σ' = up (up σ 10 4 a) 10 5 b) := by
  refine Mt.of okM_Tp_fail (Nat.le_of_ble_eq_true rfl) (fun hk hg => ?_)
  refine ok_aload_n 0 rfl rfl rfl (ok_iload_n 1 rfl rfl rfl (ok_putI 2 rfl rfl fl_X10_25 rfl rfl rfl rfl (ok_aload_n 3 rfl rfl rfl (ok_iload_n 4 rfl rfl rfl (ok_putI 5 rfl rfl fl_X10_28 rfl rfl rfl rfl (ok_vret 6 rfl rfl rfl ?_))))))
  exact ⟨rfl, rfl⟩
theorem s_Tp_skipBlanks {σ : eS} (h : tP σ) : MtV shA M_Tp_skipBlanks [vr 10] σ (fun σ' => fr (fun c k => c = 10 ∧ k = 6) σ σ' ∧ σ 10 6 ≤ σ' 10 6 ∧ σ' 10 6 ≤ σ 10 3) := by
  refine Mt.of okM_Tp_skipBlanks (Nat.le_of_ble_eq_true rfl) (fun hk hg => ?_)
  obtain ⟨h1, h2, h3, h4⟩ := h
  refine ok_iconst 0 rfl rfl (by decide) (ok_ist1 1 rfl rfl rfl ?_)
  refine lpO2 (fun (i : Int) (_ : eS) => [some (vr 10), some (vi i)]) (fun _ ρ => ρ) (fun i ρ => 0 ≤ i ∧ i ≤ 600 ∧ fr (fun c k => c = 10 ∧ k = 6) σ ρ ∧ σ 10 6 ≤ ρ 10 6 ∧ ρ 10 6 ≤ σ 10 3) (fun i _ => (600 - i).toNat) ?_ 0 σ ⟨by omega, by omega, fr.rf, by omega, by omega⟩
  rintro i ρ ⟨i1, i2, f, a1, a2⟩ ih
  have e3 : ρ 10 3 = σ 10 3 := f 10 3 (by omega)
  refine ok_iload_n 2 rfl rfl rfl (ok_sipush 3 rfl rfl (by decide) (by decide) (ok_icmp_ge 4 36 rfl rfl rfl (fun h6 => ?_) (fun h6 => ?_)))
  · refine ok_vret 18 rfl rfl rfl ?_
    exact ⟨rfl, f, a1, a2⟩
  · refine ok_aload_n 5 rfl rfl rfl (ok_aload_n 6 rfl rfl rfl (ok_getI 7 rfl rfl fl_X10_31 rfl rfl (Or.inl rfl) (ok_callVI (M' := M_Tp_isBlank) (as := [_]) 8 rfl rfl ml_X10_58 (s_Tp_isBlank ⟨by omega, by omega⟩ (by omega)) rfl rfl (Nat.le_of_ble_eq_true rfl) ⟨Nat.le_of_ble_eq_true rfl, Nat.le_of_ble_eq_true rfl⟩ rfl (Nat.le_of_ble_eq_true rfl) (fun σ' z hz => ?_))))
    obtain ⟨hs_, hz⟩ := hz
    rw [hs_]; clear hs_ σ'
    refine ok_if_eq 9 36 rfl rfl rfl (fun h17 => ?_) (fun h17 => ?_)
    · refine ok_vret 18 rfl rfl rfl ?_
      exact ⟨rfl, f, a1, a2⟩
    · refine ok_aload_n 10 rfl rfl rfl (ok_dup 11 rfl rfl rfl (ok_getI 12 rfl rfl fl_X10_31 rfl rfl (Or.inl rfl) (ok_iconst 13 rfl rfl (by decide) (ok_iadd 14 rfl rfl (by first | omega | (simp [up_if]; omega) | (simp [up_if] at *; omega)) (ok_putI 15 rfl rfl fl_X10_31 rfl rfl rfl rfl (ok_inc1 16 rfl rfl rfl (by first | omega | (simp [up_if]; omega) | (simp [up_if] at *; omega)) (ok_goto 17 2 rfl rfl rfl ?_)))))))
      exact ih (i + 1) _ ⟨by omega, by omega, fr_up f ⟨rfl, rfl⟩, by rw [up_same]; omega, by rw [up_same]; omega⟩ (by omega)
theorem s_Tp_countDigits {σ : eS} (h : tP σ) : MtI shA M_Tp_countDigits [vr 10] σ (fun σ' z => σ' = σ ∧ 0 ≤ z ∧ z ≤ 600) := by
  refine Mt.of okM_Tp_countDigits (Nat.le_of_ble_eq_true rfl) (fun hk hg => ?_)
  obtain ⟨h1, h2, h3, h4⟩ := h
  refine ok_iconst 0 rfl rfl (by decide) (ok_ist1 1 rfl rfl rfl (ok_aload_n 2 rfl rfl rfl (ok_getI 3 rfl rfl fl_X10_31 rfl rfl (Or.inl rfl) (ok_ist2 4 rfl rfl rfl ?_))))
  refine lpO2 (fun (n k : Int) => [some (vr 10), some (vi n), some (vi k)]) (fun _ _ => σ) (fun n k => σ 10 6 ≤ k ∧ k ≤ σ 10 3 ∧ n = k - σ 10 6) (fun _ k => (600 - k).toNat) ?_ 0 (σ 10 6) ⟨by omega, by omega, by omega⟩
  rintro n k ⟨k1, k2, en⟩ ih
  refine ok_iload_n 5 rfl rfl rfl (ok_aload_n 6 rfl rfl rfl (ok_getI 7 rfl rfl fl_X10_21 rfl rfl (Or.inl rfl) (ok_icmp_ge 8 32 rfl rfl rfl (fun h12 => ?_) (fun h12 => ?_))))
  · refine ok_iload_n 16 rfl rfl rfl (ok_iret 17 rfl rfl rfl ?_)
    exact ⟨_, rfl, rfl, by omega, by omega⟩
  · refine ok_aload_n 9 rfl rfl rfl (ok_iload_n 10 rfl rfl rfl (ok_callVI (M' := M_Tp_isDigit) (as := [_]) 11 rfl rfl ml_X10_69 (s_Tp_isDigit ⟨by omega, by omega⟩ (by omega)) rfl rfl (Nat.le_of_ble_eq_true rfl) ⟨Nat.le_of_ble_eq_true rfl, Nat.le_of_ble_eq_true rfl⟩ rfl (Nat.le_of_ble_eq_true rfl) (fun σ' z hz => ?_)))
    obtain ⟨hs_, hz⟩ := hz
    rw [hs_]; clear hs_ σ'
    refine ok_if_eq 12 32 rfl rfl rfl (fun h20 => ?_) (fun h20 => ?_)
    · refine ok_iload_n 16 rfl rfl rfl (ok_iret 17 rfl rfl rfl ?_)
      exact ⟨_, rfl, rfl, by omega, by omega⟩
    · refine ok_inc1 13 rfl rfl rfl (by first | omega | (simp [up_if]; omega) | (simp [up_if] at *; omega)) (ok_inc2 14 rfl rfl rfl (by first | omega | (simp [up_if]; omega) | (simp [up_if] at *; omega)) (ok_goto 15 7 rfl rfl rfl ?_))
      exact ih _ (k + 1) ⟨by omega, by omega, by omega⟩ (by omega)
end
section
theorem s_Tp_readNumber {σ : eS} (h : tP σ) : MtI shA M_Tp_readNumber [vr 10] σ (fun σ' z => fr (fun c k => c = 10 ∧ k = 6) σ σ' ∧ σ 10 6 ≤ σ' 10 6 ∧ σ' 10 6 ≤ σ 10 3 ∧ 0 ≤ z ∧ z ≤ 999999) := by
  refine Mt.of okM_Tp_readNumber (Nat.le_of_ble_eq_true rfl) (fun hk hg => ?_)
  obtain ⟨h1, h2, h3, h4⟩ := h
  refine ok_iconst 0 rfl rfl (by decide) (ok_ist1 1 rfl rfl rfl (ok_iconst 2 rfl rfl (by decide) (ok_ist2 3 rfl rfl rfl ?_)))
  refine lpO3 (fun (v i : Int) (_ : eS) => [some (vr 10), some (vi v), some (vi i)]) (fun _ _ ρ => ρ) (fun v i ρ => 0 ≤ i ∧ i ≤ 6 ∧ fr (fun c k => c = 10 ∧ k = 6) σ ρ ∧ σ 10 6 ≤ ρ 10 6 ∧ ρ 10 6 ≤ σ 10 3 ∧ 0 ≤ v ∧ v ≤ p10 i) (fun _ i _ => (6 - i).toNat) ?_ 0 0 σ ⟨by omega, by omega, fr.rf, by omega, by omega, by omega, by decide⟩
  rintro v i ρ ⟨i1, i2, f, a1, a2, v1, v2⟩ ih
  have e3 : ρ 10 3 = σ 10 3 := f 10 3 (by omega)
  have pl := p10_le i
  refine ok_iload_n 4 rfl rfl rfl (ok_bipush 5 rfl rfl (by decide) (by decide) (ok_icmp_ge 6 55 rfl rfl rfl (fun h7 => ?_) (fun h7 => ?_)))
  · refine ok_iload_n 32 rfl rfl rfl (ok_iret 33 rfl rfl rfl ?_)
    exact ⟨_, rfl, f, a1, a2, v1, by omega⟩
  · refine ok_aload_n 7 rfl rfl rfl (ok_aload_n 8 rfl rfl rfl (ok_getI 9 rfl rfl fl_X10_31 rfl rfl (Or.inl rfl) (ok_callVI (M' := M_Tp_isDigit) (as := [_]) 10 rfl rfl ml_X10_69 (s_Tp_isDigit ⟨by omega, by omega⟩ (by omega)) rfl rfl (Nat.le_of_ble_eq_true rfl) ⟨Nat.le_of_ble_eq_true rfl, Nat.le_of_ble_eq_true rfl⟩ rfl (Nat.le_of_ble_eq_true rfl) (fun σ' z hz => ?_))))
    obtain ⟨hs_, hz⟩ := hz
    rw [hs_]; clear hs_ σ'
    refine ok_if_eq 11 55 rfl rfl rfl (fun h18 => ?_) (fun h18 => ?_)
    · refine ok_iload_n 32 rfl rfl rfl (ok_iret 33 rfl rfl rfl ?_)
      exact ⟨_, rfl, f, a1, a2, v1, by omega⟩
    · have ps := p10_s (d := i) (x := v) (c := ρ 11 (ρ 10 6) - 48) i1 (by omega) v2 (by omega)
      refine ok_iload_n 12 rfl rfl rfl (ok_bipush 13 rfl rfl (by decide) (by decide) (ok_imul 14 rfl rfl (by first | omega | (simp [up_if]; omega) | (simp [up_if] at *; omega)) (ok_aload_n 15 rfl rfl rfl (ok_getR 16 rfl rfl fl_X10_11 rfl rfl (ok_aload_n 17 rfl rfl rfl (ok_getI 18 rfl rfl fl_X10_31 rfl rfl (Or.inl rfl) (ok_iald 19 rfl rfl rfl (by first | omega | (simp [up_if]; omega) | (simp [up_if] at *; omega)) (ok_iadd 20 rfl rfl (by first | omega | (simp [up_if]; omega) | (simp [up_if] at *; omega)) (ok_bipush 21 rfl rfl (by decide) (by decide) (ok_isub 22 rfl rfl (by first | omega | (simp [up_if]; omega) | (simp [up_if] at *; omega)) (ok_ist1 23 rfl rfl rfl (ok_aload_n 24 rfl rfl rfl (ok_dup 25 rfl rfl rfl (ok_getI 26 rfl rfl fl_X10_31 rfl rfl (Or.inl rfl) (ok_iconst 27 rfl rfl (by decide) (ok_iadd 28 rfl rfl (by first | omega | (simp [up_if]; omega) | (simp [up_if] at *; omega)) (ok_putI 29 rfl rfl fl_X10_31 rfl rfl rfl rfl (ok_inc2 30 rfl rfl rfl (by first | omega | (simp [up_if]; omega) | (simp [up_if] at *; omega)) (ok_goto 31 4 rfl rfl rfl ?_)))))))))))))))))))
      exact ih _ (i + 1) _ ⟨by omega, by omega, fr_up f ⟨rfl, rfl⟩, by rw [up_same]; omega, by rw [up_same]; omega, by omega, by omega⟩ (by omega)
end
section
abbrev rgD : Nat → Int → Prop := fun c k => c = 10 ∧ (k = 4 ∨ k = 5 ∨ k = 6)
def QD (σ σ' : eS) : Prop := fr rgD σ σ' ∧ σ 10 6 ≤ σ' 10 6 ∧ σ' 10 6 ≤ σ 10 3
theorem QD_6 {σ σ' : eS} (f : fr (fun c k => c = 10 ∧ k = 6) σ σ') (h : σ 10 6 ≤ σ' 10 6 ∧ σ' 10 6 ≤ σ 10 3) : QD σ σ' := ⟨f.mono (fun c k q => by simp only [rgD]; omega), h.1, h.2⟩
theorem QD_tr {σ τ υ : eS} (h : QD σ τ) (g : QD τ υ) : QD σ υ := ⟨h.1.tr g.1, Int.le_trans h.2.1 g.2.1, by have := h.1 10 3 (by simp [rgD]); have := g.2.2; omega⟩
theorem QD_P {σ τ : eS} (hp : tP σ) (h : QD σ τ) : tP τ := by
  have := h.1 10 3 (by simp [rgD])
  obtain ⟨a, b, c, d⟩ := hp
  exact ⟨by omega, by omega, by have := h.2.1; omega, by have := h.2.2; omega⟩
theorem QD_f {σ : eS} (hp : tP σ) (a b : Int) : QD σ (up (up σ 10 4 a) 10 5 b) := ⟨fr_up (fr_up fr.rf (by simp [rgD])) (by simp [rgD]), by simp [up_if], by simp [up_if]; exact hp.2.2.2⟩
theorem s_Tp_readDivisor {σ : eS} (h : tP σ) : MtI shA M_Tp_readDivisor [vr 10] σ (fun σ' z => QD σ σ' ∧ 1 ≤ z ∧ z ≤ 999999) := by
  refine Mt.of okM_Tp_readDivisor (Nat.le_of_ble_eq_true rfl) (fun hk hg => ?_)
  refine ok_aload_n 0 rfl rfl rfl (ok_callVV (M' := M_Tp_skipBlanks) (as := []) 1 rfl rfl ml_X10_92 (s_Tp_skipBlanks h) rfl rfl (Nat.le_of_ble_eq_true rfl) ⟨Nat.le_of_ble_eq_true rfl, Nat.le_of_ble_eq_true rfl⟩ rfl (Nat.le_of_ble_eq_true rfl) (fun τ hz => ?_))
  have q1 : QD σ τ := QD_6 hz.1 hz.2
  have p1 := QD_P h q1
  obtain ⟨b1, b2, b3, b4⟩ := id p1
  clear hz
  refine ok_aload_n 2 rfl rfl rfl (ok_aload_n 3 rfl rfl rfl (ok_getI 4 rfl rfl fl_X10_31 rfl rfl (Or.inl rfl) (ok_bipush 5 rfl rfl (by decide) (by decide) (ok_callVI (M' := M_Tp_isSign) (as := [_, _]) 6 rfl rfl ml_X10_62 (s_Tp_isSign ⟨b1, b2⟩ b3) rfl rfl (Nat.le_of_ble_eq_true rfl) ⟨Nat.le_of_ble_eq_true rfl, Nat.le_of_ble_eq_true rfl⟩ rfl (Nat.le_of_ble_eq_true rfl) (fun σ' z hz => ?_)))))
  obtain ⟨hs_, hz⟩ := hz
  rw [hs_]; clear hs_ σ'
  refine ok_if_ne 7 19 rfl rfl rfl (fun h14 => ?_) (fun h14 => ?_)
  · refine ok_aload_n 10 rfl rfl rfl (ok_dup 11 rfl rfl rfl (ok_getI 12 rfl rfl fl_X10_31 rfl rfl (Or.inl rfl) (ok_iconst 13 rfl rfl (by decide) (ok_iadd 14 rfl rfl (by first | omega | (simp [up_if]; omega) | (simp [up_if] at *; omega)) (ok_putI 15 rfl rfl fl_X10_31 rfl rfl rfl rfl ?_)))))
    have q2 : QD τ (up τ 10 6 (τ 10 6 + 1)) := ⟨fr_up fr.rf (by simp [rgD]), by rw [up_same]; omega, by rw [up_same]; omega⟩
    have p2 := QD_P p1 q2
    have q3 := QD_tr q1 q2
    refine ok_aload_n 16 rfl rfl rfl (ok_callVV (M' := M_Tp_skipBlanks) (as := []) 17 rfl rfl ml_X10_92 (s_Tp_skipBlanks p2) rfl rfl (Nat.le_of_ble_eq_true rfl) ⟨Nat.le_of_ble_eq_true rfl, Nat.le_of_ble_eq_true rfl⟩ rfl (Nat.le_of_ble_eq_true rfl) (fun υ hy => ?_))
    have q4 : QD σ υ := QD_tr q3 (QD_6 hy.1 hy.2)
    have p4 := QD_P h q4
    obtain ⟨c1, c2, c3, c4⟩ := id p4
    clear hy
    refine ok_aload_n 18 rfl rfl rfl (ok_aload_n 19 rfl rfl rfl (ok_getI 20 rfl rfl fl_X10_31 rfl rfl (Or.inl rfl) (ok_callVI (M' := M_Tp_isDigit) (as := [_]) 21 rfl rfl ml_X10_69 (s_Tp_isDigit ⟨c1, c2⟩ c3) rfl rfl (Nat.le_of_ble_eq_true rfl) ⟨Nat.le_of_ble_eq_true rfl, Nat.le_of_ble_eq_true rfl⟩ rfl (Nat.le_of_ble_eq_true rfl) (fun σ' y hy => ?_))))
    obtain ⟨hs_, hy⟩ := hy
    rw [hs_]; clear hs_ σ'
    refine ok_if_eq 22 53 rfl rfl rfl (fun h41 => ?_) (fun h41 => ?_)
    · refine ok_aload_n 27 rfl rfl rfl (ok_iconst 28 rfl rfl (by decide) (ok_aload_n 29 rfl rfl rfl (ok_getI 30 rfl rfl fl_X10_31 rfl rfl (Or.inl rfl) (ok_callVV (M' := M_Tp_fail) (as := [_, _]) 31 rfl rfl ml_X10_75 (s_Tp_fail) rfl rfl (Nat.le_of_ble_eq_true rfl) ⟨Nat.le_of_ble_eq_true rfl, Nat.le_of_ble_eq_true rfl⟩ rfl (Nat.le_of_ble_eq_true rfl) (fun σ' hz => ?_)))))
      rw [hz]
      clear hz σ'
      refine ok_iconst 32 rfl rfl (by decide) (ok_iret 33 rfl rfl rfl ?_)
      exact ⟨_, rfl, QD_tr q4 (QD_f p4 _ _), by omega, by omega⟩
    · refine ok_aload_n 23 rfl rfl rfl (ok_callVI (M' := M_Tp_countDigits) (as := []) 24 rfl rfl ml_X10_79 (s_Tp_countDigits p4) rfl rfl (Nat.le_of_ble_eq_true rfl) ⟨Nat.le_of_ble_eq_true rfl, Nat.le_of_ble_eq_true rfl⟩ rfl (Nat.le_of_ble_eq_true rfl) (fun σ' x hx => ?_))
      obtain ⟨hs_, hx⟩ := hx
      rw [hs_]; clear hs_ σ'
      refine ok_bipush 25 rfl rfl (by decide) (by decide) (ok_icmp_le 26 64 rfl rfl rfl (fun h50 => ?_) (fun h50 => ?_))
      · refine ok_aload_n 34 rfl rfl rfl (ok_getI 35 rfl rfl fl_X10_31 rfl rfl (Or.inl rfl) (ok_ist1 36 rfl rfl rfl (ok_aload_n 37 rfl rfl rfl (ok_callVI (M' := M_Tp_readNumber) (as := []) 38 rfl rfl ml_X10_83 (s_Tp_readNumber p4) rfl rfl (Nat.le_of_ble_eq_true rfl) ⟨Nat.le_of_ble_eq_true rfl, Nat.le_of_ble_eq_true rfl⟩ rfl (Nat.le_of_ble_eq_true rfl) (fun ω w hw => ?_)))))
        have q5 := QD_tr q4 (QD_6 hw.1 ⟨hw.2.1, hw.2.2.1⟩)
        have hw2 := hw.2.2.2
        refine ok_ist2 39 rfl rfl rfl (ok_iload_n 40 rfl rfl rfl (ok_if_ne 41 86 rfl rfl rfl (fun h75 => ?_) (fun h75 => ?_)))
        · refine ok_iload_n 48 rfl rfl rfl (ok_iret 49 rfl rfl rfl ?_)
          exact ⟨_, rfl, q5, by omega, by omega⟩
        · refine ok_aload_n 42 rfl rfl rfl (ok_iconst 43 rfl rfl (by decide) (ok_iload_n 44 rfl rfl rfl (ok_callVV (M' := M_Tp_fail) (as := [_, _]) 45 rfl rfl ml_X10_75 (s_Tp_fail) rfl rfl (Nat.le_of_ble_eq_true rfl) ⟨Nat.le_of_ble_eq_true rfl, Nat.le_of_ble_eq_true rfl⟩ rfl (Nat.le_of_ble_eq_true rfl) (fun σ' hz => ?_))))
          rw [hz]
          clear hz σ'
          refine ok_iconst 46 rfl rfl (by decide) (ok_iret 47 rfl rfl rfl ?_)
          exact ⟨_, rfl, QD_tr q5 (QD_f (QD_P h q5) _ _), by omega, by omega⟩
      · refine ok_aload_n 27 rfl rfl rfl (ok_iconst 28 rfl rfl (by decide) (ok_aload_n 29 rfl rfl rfl (ok_getI 30 rfl rfl fl_X10_31 rfl rfl (Or.inl rfl) (ok_callVV (M' := M_Tp_fail) (as := [_, _]) 31 rfl rfl ml_X10_75 (s_Tp_fail) rfl rfl (Nat.le_of_ble_eq_true rfl) ⟨Nat.le_of_ble_eq_true rfl, Nat.le_of_ble_eq_true rfl⟩ rfl (Nat.le_of_ble_eq_true rfl) (fun σ' hz => ?_)))))
        rw [hz]
        clear hz σ'
        refine ok_iconst 32 rfl rfl (by decide) (ok_iret 33 rfl rfl rfl ?_)
        exact ⟨_, rfl, QD_tr q4 (QD_f p4 _ _), by omega, by omega⟩
  · refine ok_iconst 8 rfl rfl (by decide) (ok_iret 9 rfl rfl rfl ?_)
    exact ⟨_, rfl, q1, by omega, by omega⟩
end
section
def uA (σ : eS) (k : Int) : Prop := 1 ≤ σ 13 k ∧ σ 13 k ≤ 999999 ∧ 0 ≤ σ 12 k ∧ σ 12 k ≤ 999999
abbrev rgE : Nat → Int → Prop := fun c k => (c = 10 ∧ k = 8) ∨ c = 12 ∨ c = 13
theorem s_Tp_keepFraction {σ : eS} {a u : Int} (hr : 0 ≤ σ 10 7 ∧ σ 10 7 ≤ 7) (hf : 0 ≤ σ 10 8 ∧ σ 10 8 ≤ 7) (ha : 0 ≤ a ∧ a ≤ 999999) (hu : 1 ≤ u ∧ u ≤ 999999) : MtV shA M_Tp_keepFraction [vr 10, vi a, vi u] σ (fun σ' => fr rgE σ σ' ∧ σ' 10 8 = σ 10 8 + 1 ∧ uA σ' (σ 10 7 * 8 + σ 10 8) ∧ ∀ k, k ≠ σ 10 7 * 8 + σ 10 8 → σ' 12 k = σ 12 k ∧ σ' 13 k = σ 13 k) := by
  refine Mt.of okM_Tp_keepFraction (Nat.le_of_ble_eq_true rfl) (fun hk hg => ?_)
  obtain ⟨g1, g2⟩ := gcd_pos (a := u) (b := a) (by omega)
  obtain ⟨g, eg⟩ : ∃ g : Int, g = (Int.gcd u a : Int) := ⟨_, rfl⟩
  rw [← eg] at g1 g2
  have d1 := div_bd (u := a) (g := g) (B := 999999) ⟨by omega, by omega⟩ g1
  have d2 := gcd_div (u := u) (g := g) hu.1 g1 g2
  refine ok_iload_n 0 rfl rfl rfl (ok_i2l 1 rfl rfl (ok_iload_n 2 rfl rfl rfl (ok_i2l 3 rfl rfl (ok_callSL (M' := M_Nu_greatestDivisor) (as := [_, _]) 4 rfl rfl ml_X10_95 (s_Nu_greatestDivisor (by omega) ⟨by omega, by omega⟩) ⟨Nat.le_of_ble_eq_true rfl, Nat.le_of_ble_eq_true rfl⟩ rfl (Nat.le_of_ble_eq_true rfl) (fun σ' z hz => ?_)))))
  rw [hz.1, hz.2]
  clear hz z σ'
  rw [← eg]
  refine ok_l2i 5 rfl rfl (by first | omega | (simp [up_if]; omega) | (simp [up_if] at *; omega)) (ok_ist3 6 rfl rfl rfl (ok_aload_n 7 rfl rfl rfl (ok_getI 8 rfl rfl fl_X10_34 rfl rfl (Or.inl rfl) (ok_bipush 9 rfl rfl (by decide) (by decide) (ok_imul 10 rfl rfl (by first | omega | (simp [up_if]; omega) | (simp [up_if] at *; omega)) (ok_aload_n 11 rfl rfl rfl (ok_getI 12 rfl rfl fl_X10_37 rfl rfl (Or.inl rfl) (ok_iadd 13 rfl rfl (by first | omega | (simp [up_if]; omega) | (simp [up_if] at *; omega)) (ok_ist4 14 rfl rfl rfl (ok_aload_n 15 rfl rfl rfl (ok_getR 16 rfl rfl fl_X10_15 rfl rfl (ok_iload 17 rfl rfl rfl (ok_iload_n 18 rfl rfl rfl (ok_iload_n 19 rfl rfl rfl (ok_idiv 20 rfl rfl (by first | omega | (simp [up_if]; omega) | (simp [up_if] at *; omega)) (by first | omega | (simp [up_if]; omega) | (simp [up_if] at *; omega)) (ok_iast 21 rfl rfl rfl (by first | omega | (simp [up_if]; omega) | (simp [up_if] at *; omega)) (ok_aload_n 22 rfl rfl rfl (ok_getR 23 rfl rfl fl_X10_18 rfl rfl (ok_iload 24 rfl rfl rfl (ok_iload_n 25 rfl rfl rfl (ok_iload_n 26 rfl rfl rfl (ok_idiv 27 rfl rfl (by first | omega | (simp [up_if]; omega) | (simp [up_if] at *; omega)) (by first | omega | (simp [up_if]; omega) | (simp [up_if] at *; omega)) (ok_iast 28 rfl rfl rfl (by first | omega | (simp [up_if]; omega) | (simp [up_if] at *; omega)) (ok_aload_n 29 rfl rfl rfl (ok_dup 30 rfl rfl rfl (ok_getI 31 rfl rfl fl_X10_37 rfl rfl (Or.inl rfl) (ok_iconst 32 rfl rfl (by decide) (ok_iadd 33 rfl rfl (by first | omega | (simp [up_if]; omega) | (simp [up_if] at *; omega)) (ok_putI 34 rfl rfl fl_X10_37 rfl rfl rfl rfl (ok_vret 35 rfl rfl rfl ?_))))))))))))))))))))))))))))))
  refine ⟨rfl, fr_up (fr_up (fr_up fr.rf (by simp [rgE])) (by simp [rgE])) (by simp [rgE]), by simp [up_if], ?_, fun k q => ?_⟩
  · unfold uA
    simp [up_if]
    omega
  · simp [up_if, q]
end
