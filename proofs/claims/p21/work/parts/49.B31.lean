theorem ph_dec {f f' : Int → Int} {v : Int} (hv : 0 ≤ v ∧ v < 20) (h1 : 0 < f v) (h : ∀ k, 0 ≤ k → k < 20 → f' k = if k = v then f k - 1 else f k) : sm (fun k => max 0 (f' k)) 20 = sm (fun k => max 0 (f k)) 20 - 1 := by
  have e : sm (fun k => max 0 (f' k)) 20 = sm (fun k => max 0 (f k) - if k = v then 1 else 0) 20 := sm_cg (fun k a b => by
    rw [h k a (by omega)]
    by_cases q : k = v
    · rw [if_pos q, if_pos q, q]; omega
    · rw [if_neg q, if_neg q]; omega)
  rw [e, sm_sub, sm_one _ hv.1 (by omega)]
def Ph (τ : eS) : Int := sm (fun k => max 0 (τ 17 (360 + k))) 20
abbrev rgQ : Nat → Int → Prop := fun c _ => c = 17 ∨ c = 18 ∨ c = 19
theorem Ph_bd {τ : eS} {B : Int} (h : capB τ B) (hB : 0 ≤ B) : 0 ≤ Ph τ ∧ Ph τ ≤ B * 20 := by
  have := sm_bd (f := fun k => max 0 (τ 17 (360 + k))) (B := B) hB (n := 20) (fun k a b => by have := h (360 + k) (by omega) (by omega); omega)
  unfold Ph
  omega
theorem Ph_nn (τ : eS) : 0 ≤ Ph τ := by
  have key : ∀ n, 0 ≤ sm (fun k => max 0 (τ 17 (360 + k))) n := by
    intro n
    induction n with
    | zero => exact Int.le_refl 0
    | succ n ih =>
      have e : sm (fun k => max 0 (τ 17 (360 + k))) (n + 1) = sm (fun k => max 0 (τ 17 (360 + k))) n + max 0 (τ 17 (360 + (n : Int))) := rfl
      rw [e]
      omega
  exact key 20
theorem Ph_cg {τ υ : eS} (h : ∀ k, υ 17 k = τ 17 k) : Ph υ = Ph τ := by unfold Ph; simp only [h]
theorem s_Mo_isKept {σ : eS} {n : Int} (hn : 1 ≤ n ∧ n ≤ 8) (hl : lhB σ n) (ht : lhT σ) : MtI shB M_Mo_isKept [vr 0, vi n] σ (fun σ' _ => fr rgQ σ σ') := by
  refine Mt.of okM_Mo_isKept (Nat.le_of_ble_eq_true rfl) (fun hk hg => ?_)
  have L : ∀ τ : eS, fr rgQ σ τ → (∀ k, τ 15 k = σ 15 k) ∧ ∀ k, τ 16 k = σ 16 k := fun τ g => ⟨fun k => g 15 k (by simp [rgQ]), fun k => g 16 k (by simp [rgQ])⟩
  have gC : ∀ (τ υ : eS), fr rgQ σ τ → fr rgC τ υ → fr rgQ σ υ := fun τ υ a b => a.tr (b.mono (fun c k q => Or.inl q))
  refine ok_iconst 0 rfl rfl (by decide) (ok_ist2 1 rfl rfl rfl ?_)
  refine lpO2 (fun (k : Int) (_ : eS) => [some (vr 0), some (vi n), some (vi k), none]) (fun _ ρ => ρ) (fun k ρ => 0 ≤ k ∧ k ≤ 400 ∧ fr rgQ σ ρ ∧ ∀ v, 0 ≤ v → v < k → ρ 17 v = 0) (fun k _ => (400 - k).toNat) ?_ 0 σ ⟨by omega, by omega, fr.rf, fun v a b => by omega⟩
  rintro k ρ ⟨k1, k2, f, hz⟩ ih
  refine ok_iload_n 2 rfl rfl rfl (ok_sipush 3 rfl rfl (by decide) (by decide) (ok_icmp_ge 4 22 rfl rfl rfl (fun h6 => ?_) (fun h6 => ?_)))
  · refine ok_iconst 12 rfl rfl (by decide) (ok_ist2 13 rfl rfl rfl ?_)
    have c0 : capB ρ (384 * 0) := fun q a b => by rw [hz q a (by omega)]; omega
    refine lpO2 (fun (i : Int) (_ : eS) => [some (vr 0), some (vi n), some (vi i), none]) (fun _ ρ => ρ) (fun i ρ => 0 ≤ i ∧ i ≤ n ∧ fr rgQ σ ρ ∧ capB ρ (384 * i)) (fun i _ => (n - i).toNat) ?_ 0 ρ ⟨by omega, by omega, f, c0⟩
    clear c0 hz ih f k1 k2 h6 k ρ
    rintro i ρ ⟨i1, i2, f, hc⟩ ih
    obtain ⟨l1, l2⟩ := L ρ f
    refine ok_iload_n 14 rfl rfl rfl (ok_iload_n 15 rfl rfl rfl (ok_icmp_ge 16 83 rfl rfl rfl (fun h26 => ?_) (fun h26 => ?_)))
    · obtain ⟨b1, b2, b3, b4⟩ := id ht
      rw [← l1] at b1 b2
      rw [← l2] at b3 b4
      refine ok_aload_n 51 rfl rfl rfl (ok_bipush 52 rfl rfl (by decide) (by decide) (ok_iconst 53 rfl rfl (by decide) (ok_aload_n 54 rfl rfl rfl (ok_getR 55 rfl rfl fl_X12_57 rfl rfl (ok_bipush 56 rfl rfl (by decide) (by decide) (ok_iald 57 rfl rfl rfl (by first | omega | (simp [up_if]; omega) | (simp [up_if] at *; omega)) (ok_aload_n 58 rfl rfl rfl (ok_getR 59 rfl rfl fl_X12_60 rfl rfl (ok_bipush 60 rfl rfl (by decide) (by decide) (ok_iald 61 rfl rfl rfl (by first | omega | (simp [up_if]; omega) | (simp [up_if] at *; omega)) (ok_callVV (M' := M_Mo_edge) (as := [_, _, _, _]) 62 rfl rfl ml_X12_330 (s_Mo_edge ⟨by omega, by omega⟩ ⟨by omega, by omega⟩ ⟨by omega, by omega⟩ ⟨by omega, by omega⟩ hc ⟨by omega, by omega⟩) rfl rfl (Nat.le_of_ble_eq_true rfl) ⟨Nat.le_of_ble_eq_true rfl, Nat.le_of_ble_eq_true rfl⟩ rfl (Nat.le_of_ble_eq_true rfl) (fun τ hz => ?_))))))))))))
      have g := gC ρ τ f hz.1
      have gc := capB_mono hz.2 (show 384 * i + 192 ≤ 192 * (17 + 8 * 0) by omega)
      refine ok_iconst 63 rfl rfl (by decide) (ok_ist2 64 rfl rfl rfl ?_)
      refine lpO2 (fun (i : Int) (_ : eS) => [some (vr 0), some (vi n), some (vi i), none]) (fun _ ρ => ρ) (fun i ρ => 0 ≤ i ∧ i ≤ n ∧ fr rgQ σ ρ ∧ capB ρ (192 * (17 + 8 * i))) (fun i _ => (n - i).toNat) ?_ 0 τ ⟨by omega, by omega, g, gc⟩
      clear ih gc g hz τ f hc l1 l2 b1 b2 b3 b4 ρ
      clear h26 i1 i2 i
      rintro i ρ ⟨i1, i2, f, hc⟩ ih
      refine ok_iload_n 65 rfl rfl rfl (ok_iload_n 66 rfl rfl rfl (ok_icmp_ge 67 184 rfl rfl rfl (fun h108 => ?_) (fun h108 => ?_)))
      · refine ok_iconst 112 rfl rfl (by decide) (ok_ist2 113 rfl rfl rfl (ok_iconst 114 rfl rfl (by decide) (ok_ist3 115 rfl rfl rfl ?_)))
        replace hc := capB_mono hc (show 192 * (17 + 8 * i) ≤ 15552 by omega)
        clear ih i1 i2 h108 i
        refine lpO2 (fun (x k : Int) => [some (vr 0), some (vi n), some (vi x), some (vi k)]) (fun _ _ => ρ) (fun x k => 0 ≤ k ∧ k ≤ 20 ∧ -(15552 * k) ≤ x ∧ x ≤ 15552 * k) (fun _ k => (20 - k).toNat) ?_ 0 0 ⟨by omega, by omega, by omega, by omega⟩
        rintro x k ⟨k1, k2, x1, x2⟩ ih
        refine ok_iload_n 116 rfl rfl rfl (ok_bipush 117 rfl rfl (by decide) (by decide) (ok_icmp_ge 118 213 rfl rfl rfl (fun h191 => ?_) (fun h191 => ?_)))
        · have ph := Ph_bd hc (by omega)
          obtain ⟨P, eP⟩ : ∃ P, P = Ph ρ := ⟨_, rfl⟩
          rw [← eP] at ph
          refine ok_fg [some (vr 0), some (vi n), some (vi x), none] ⟨rfl, rfl, rfl, trivial⟩ (lpO2 (fun (x : Int) (_ : eS) => [some (vr 0), some (vi n), some (vi x), none]) (fun _ τ => τ) (fun x τ => fr rgQ σ τ ∧ capB τ (15552 + 40 * (P - Ph τ)) ∧ Ph τ ≤ P ∧ -(311040 + (P - Ph τ)) ≤ x ∧ x ≤ 311040) (fun _ τ => (Ph τ).toNat) ?_ x ρ ⟨f, capB_mono hc (by omega), by omega, by omega, by omega⟩)
          clear ih x1 x2 k1 k2 h191 x f hc k eP ρ
          rintro x τ ⟨f, hc, p1, x1, x2⟩ ih
          have p0 := Ph_nn τ
          refine ok_aload_n 130 rfl rfl rfl (ok_callVI (M' := M_Mo_isWay) (as := []) 131 rfl rfl ml_X12_334 (s_Mo_isWay) rfl rfl (Nat.le_of_ble_eq_true rfl) ⟨Nat.le_of_ble_eq_true rfl, Nat.le_of_ble_eq_true rfl⟩ rfl (Nat.le_of_ble_eq_true rfl) (fun τ' z hz => ?_))
          obtain ⟨g1, g2⟩ := hz
          have g : fr rgQ σ τ' := f.tr (g1.mono (fun c k q => Or.inr q))
          have e17 : ∀ k, τ' 17 k = τ 17 k := fun k => g1 17 k (by simp [rgY])
          have ep := Ph_cg e17
          have hc' : capB τ' (15552 + 40 * (P - Ph τ)) := fun k a b => by rw [e17]; exact hc k a b
          refine ok_if_eq 132 285 rfl rfl rfl (fun h217 => ?_) (fun h217 => ?_)
          · clear g2
            refine ok_iload_n 176 rfl rfl rfl (ok_if_ne 177 293 rfl rfl rfl (fun h286 => ?_) (fun h286 => ?_))
            · refine ok_iconst 180 rfl rfl (by decide) (ok_zret 181 rfl rfl rfl (by first | omega | (simp [up_if]; omega) | (simp [up_if] at *; omega)) ?_)
              exact ⟨_, rfl, g⟩
            · refine ok_iconst 178 rfl rfl (by decide) (ok_goto 179 294 rfl rfl rfl (ok_zret 181 rfl rfl rfl (by first | omega | (simp [up_if]; omega) | (simp [up_if] at *; omega)) ?_))
              exact ⟨_, rfl, g⟩
          · obtain ⟨hf, tl, rk, t20, T1, T2, T3, T4, T5⟩ : τ' 18 19 ≠ -1 ∧ ∃ tl rk, tl ≤ 20 ∧ TrB τ' tl rk := by
              rcases g2 with q | q
              · exact absurd q h217
              · exact q.2
            clear g2 T3 T4 T5
            refine ok_bipush 133 rfl rfl (by decide) (by decide) (ok_ist3 134 rfl rfl rfl ?_)
            have r19 := T1 19 (by omega) (by omega) hf
            refine lpO2 (fun (v : Int) (_ : eS) => [some (vr 0), some (vi n), some (vi x), some (vi v)]) (fun _ υ => υ) (fun v υ => 0 ≤ v ∧ v < 20 ∧ τ' 18 v ≠ -1 ∧ fr rgC τ' υ ∧ capB υ (15552 + 40 * (P - Ph τ) + 2 * (19 - rk v)) ∧ (v ≠ 18 → ∀ k, 0 ≤ k → k < 20 → υ 17 (360 + k) = τ' 17 (360 + k)) ∧ (v = 18 → Ph υ = Ph τ - 1)) (fun v _ => (rk v).toNat) ?_ 19 τ' ⟨by omega, by omega, hf, fr.rf, capB_mono hc' (by omega), fun _ k _ _ => rfl, fun q => by omega⟩
            clear r19 hf
            rintro v υ ⟨v1, v2, v3, fu, hu, s1, s2⟩ ih2
            obtain ⟨r1, r2, r3, r4, r5⟩ := T1 v v1 v2 v3
            have e18 : ∀ k, υ 18 k = τ' 18 k := fun k => fu 18 k (by simp [rgC])
            have e18v := e18 v
            refine ok_iload_n 135 rfl rfl rfl (ok_bipush 136 rfl rfl (by decide) (by decide) (ok_icmp_eq 137 279 rfl rfl rfl (fun h226 => ?_) (fun h226 => ?_)))
            · have e : v = 18 := by omega
              have hp := s2 e
              clear s1 s2 r5
              refine ok_inc2 174 rfl rfl rfl (by first | omega | (simp [up_if]; omega) | (simp [up_if] at *; omega)) (ok_goto 175 213 rfl rfl rfl ?_)
              exact ok_fg [some (vr 0), some (vi n), some (vi (x - 1)), none] ⟨rfl, rfl, rfl, trivial⟩ (ih (x - 1) υ ⟨gC τ' υ g fu, capB_mono hu (by omega), by omega, by omega, by omega⟩ (by have := Ph_nn υ; omega))
            · have vne : v ≠ 18 := by omega
              obtain ⟨q1, q2, q3⟩ := r5 vne
              have s1 := s1 vne
              clear r5 s2
              obtain ⟨w, ew⟩ : ∃ w, w = τ' 18 v := ⟨_, rfl⟩
              rw [← ew] at e18v r3 r4 q1 q2 q3
              have cb1 := hu (20 * w + v) (by omega) (by omega)
              have hA := capB_up (d := 1) (k := 20 * w + v) (z := υ 17 (20 * w + v) - 1) hu (by omega) ⟨by omega, by omega⟩
              obtain ⟨A, eA⟩ : ∃ A, A = up υ 17 (20 * w + v) (υ 17 (20 * w + v) - 1) := ⟨_, rfl⟩
              rw [← eA] at hA
              have cb2 := hA (20 * v + w) (by omega) (by omega)
              have hA2 := capB_up (d := 1) (k := 20 * v + w) (z := A 17 (20 * v + w) + 1) hA (by omega) ⟨by omega, by omega⟩
              have fA : fr rgC τ' A := by rw [eA]; exact fr_up fu rfl
              have a18 : A 18 v = w := by rw [eA, up_ne _ _ _ _ (by decide)]; exact e18v
              refine ok_aload_n 138 rfl rfl rfl (ok_getR 139 rfl rfl fl_X12_63 rfl rfl (ok_bipush 140 rfl rfl (by decide) (by decide) (ok_aload_n 141 rfl rfl rfl (ok_getR 142 rfl rfl fl_X12_66 rfl rfl (ok_iload_n 143 rfl rfl rfl (ok_iald 144 rfl rfl rfl (by first | omega | (simp [up_if]; omega) | (simp [up_if] at *; omega)) ?_))))))
              rw [e18v]
              refine ok_imul 145 rfl rfl (by first | omega | (simp [up_if]; omega) | (simp [up_if] at *; omega)) (ok_iload_n 146 rfl rfl rfl (ok_iadd 147 rfl rfl (by first | omega | (simp [up_if]; omega) | (simp [up_if] at *; omega)) (ok_dup2 148 rfl rfl ⟨rfl, rfl⟩ (ok_iald 149 rfl rfl rfl (by first | omega | (simp [up_if]; omega) | (simp [up_if] at *; omega)) (ok_iconst 150 rfl rfl (by decide) (ok_isub 151 rfl rfl (by first | omega | (simp [up_if]; omega) | (simp [up_if] at *; omega)) (ok_iast 152 rfl rfl rfl (by first | omega | (simp [up_if]; omega) | (simp [up_if] at *; omega)) ?_)))))))
              rw [← eA]
              refine ok_aload_n 153 rfl rfl rfl (ok_getR 154 rfl rfl fl_X12_63 rfl rfl (ok_bipush 155 rfl rfl (by decide) (by decide) (ok_iload_n 156 rfl rfl rfl (ok_imul 157 rfl rfl (by first | omega | (simp [up_if]; omega) | (simp [up_if] at *; omega)) (ok_aload_n 158 rfl rfl rfl (ok_getR 159 rfl rfl fl_X12_66 rfl rfl (ok_iload_n 160 rfl rfl rfl (ok_iald 161 rfl rfl rfl (by first | omega | (simp [up_if]; omega) | (simp [up_if] at *; omega)) ?_))))))))
              rw [a18]
              refine ok_iadd 162 rfl rfl (by first | omega | (simp [up_if]; omega) | (simp [up_if] at *; omega)) (ok_dup2 163 rfl rfl ⟨rfl, rfl⟩ (ok_iald 164 rfl rfl rfl (by first | omega | (simp [up_if]; omega) | (simp [up_if] at *; omega)) (ok_iconst 165 rfl rfl (by decide) (ok_iadd 166 rfl rfl (by first | omega | (simp [up_if]; omega) | (simp [up_if] at *; omega)) (ok_iast 167 rfl rfl rfl (by first | omega | (simp [up_if]; omega) | (simp [up_if] at *; omega)) (ok_aload_n 168 rfl rfl rfl (ok_getR 169 rfl rfl fl_X12_66 rfl rfl (ok_iload_n 170 rfl rfl rfl (ok_iald 171 rfl rfl rfl (by first | omega | (simp [up_if]; omega) | (simp [up_if] at *; omega)) ?_)))))))))
              rw [up_ne _ _ _ _ (show (18 : Nat) ≠ 17 by decide), a18]
              refine ok_ist3 172 rfl rfl rfl (ok_goto 173 223 rfl rfl rfl ?_)
              have r6 := (T1 w r3 r4 q1).1
              refine ih2 w _ ⟨r3, r4, q1, fr_up fA rfl, capB_mono hA2 (by omega), fun w18 k a b => ?_, fun w18 => ?_⟩ (by omega)
              · rw [up_nk _ _ _ _ (by omega), eA, up_nk _ _ _ _ (by omega)]; exact s1 k a b
              · rw [← ep]
                rw [w18] at q3 eA ⊢
                refine ph_dec (f := fun k => τ' 17 (360 + k)) (f' := fun k => up A 17 (20 * v + 18) (A 17 (20 * v + 18) + 1) 17 (360 + k)) ⟨v1, v2⟩ q3 (fun k a b => ?_)
                show up A 17 (20 * v + 18) (A 17 (20 * v + 18) + 1) 17 (360 + k) = if k = v then τ' 17 (360 + k) - 1 else τ' 17 (360 + k)
                rw [up_nk _ _ _ _ (by omega), eA, up_if, show (20 : Int) * 18 + v = 360 + v by omega]
                by_cases q : k = v
                · rw [if_pos ⟨rfl, by omega⟩, if_pos q, q, s1 v v1 v2]
                · rw [if_neg (by omega), if_neg q, s1 k a b]
        · have cb := hc (360 + k) (by omega) (by omega)
          refine ok_iload_n 119 rfl rfl rfl (ok_aload_n 120 rfl rfl rfl (ok_getR 121 rfl rfl fl_X12_63 rfl rfl (ok_sipush 122 rfl rfl (by decide) (by decide) (ok_iload_n 123 rfl rfl rfl (ok_iadd 124 rfl rfl (by first | omega | (simp [up_if]; omega) | (simp [up_if] at *; omega)) (ok_iald 125 rfl rfl rfl (by first | omega | (simp [up_if]; omega) | (simp [up_if] at *; omega)) (ok_iadd 126 rfl rfl (by first | omega | (simp [up_if]; omega) | (simp [up_if] at *; omega)) (ok_ist2 127 rfl rfl rfl (ok_inc3 128 rfl rfl rfl (by first | omega | (simp [up_if]; omega) | (simp [up_if] at *; omega)) (ok_goto 129 188 rfl rfl rfl ?_))))))))))
          exact ih _ (k + 1) ⟨by omega, by omega, by omega, by omega⟩ (by omega)
      · refine ok_iconst 68 rfl rfl (by decide) (ok_ist3 69 rfl rfl rfl ?_)
        refine lpO2 (fun (j : Int) (_ : eS) => [some (vr 0), some (vi n), some (vi i), some (vi j)]) (fun _ ρ => ρ) (fun j ρ => 0 ≤ j ∧ j ≤ n ∧ fr rgQ σ ρ ∧ capB ρ (192 * (17 + 8 * i + j))) (fun j _ => (n - j).toNat) ?_ 0 ρ ⟨by omega, by omega, f, capB_mono hc (by omega)⟩
        clear f hc ρ
        rintro j ρ ⟨j1, j2, f, hc⟩ ih2
        refine ok_iload_n 70 rfl rfl rfl (ok_iload_n 71 rfl rfl rfl (ok_icmp_ge 72 178 rfl rfl rfl (fun h115 => ?_) (fun h115 => ?_)))
        · refine ok_inc2 110 rfl rfl rfl (by first | omega | (simp [up_if]; omega) | (simp [up_if] at *; omega)) (ok_goto 111 106 rfl rfl rfl ?_)
          exact ok_fg [some (vr 0), some (vi n), some (vi (i + 1)), none] ⟨rfl, rfl, rfl, trivial⟩ (ih (i + 1) ρ ⟨by omega, by omega, f, capB_mono hc (by omega)⟩ (by omega))
        · have bm := ix8 (n := n) (i := i) (j := j) ⟨by omega, by omega⟩ ⟨by omega, by omega⟩ ⟨by omega, by omega⟩
          refine ok_aload_n 73 rfl rfl rfl (ok_iconst 74 rfl rfl (by decide) (ok_iload_n 75 rfl rfl rfl (ok_iadd 76 rfl rfl (by first | omega | (simp [up_if]; omega) | (simp [up_if] at *; omega)) (ok_bipush 77 rfl rfl (by decide) (by decide) (ok_iload_n 78 rfl rfl rfl (ok_iadd 79 rfl rfl (by first | omega | (simp [up_if]; omega) | (simp [up_if] at *; omega)) (ok_aload_n 80 rfl rfl rfl (ok_getR 81 rfl rfl fl_X12_54 rfl rfl (ok_iload_n 82 rfl rfl rfl (ok_iload_n 83 rfl rfl rfl (ok_imul 84 rfl rfl (by first | omega | (simp [up_if]; omega) | (simp [up_if] at *; omega)) (ok_iload_n 85 rfl rfl rfl (ok_iadd 86 rfl rfl (by first | omega | (simp [up_if]; omega) | (simp [up_if] at *; omega)) (ok_iald 87 rfl rfl rfl (by first | omega | (simp [up_if]; omega) | (simp [up_if] at *; omega)) (ok_iconst 88 rfl rfl (by decide) (ok_icmp_ne 89 144 rfl rfl rfl (fun h137 => ?_) (fun h137 => ?_)))))))))))))))))
          · refine ok_iconst 92 rfl rfl (by decide) (ok_callSI (M' := M_Mo_one) (as := [_]) 93 rfl rfl ml_X12_192 (s_Mo_one) ⟨Nat.le_of_ble_eq_true rfl, Nat.le_of_ble_eq_true rfl⟩ rfl (Nat.le_of_ble_eq_true rfl) (fun σ' y1 p1 => ?_))
            obtain ⟨hs_, p1⟩ := p1
            rw [hs_]; clear hs_ σ'
            have p1 : 0 ≤ y1 ∧ y1 ≤ 1 := by rw [p1]; split <;> omega
            refine ok_aload_n 94 rfl rfl rfl (ok_getR 95 rfl rfl fl_X12_54 rfl rfl (ok_iload_n 96 rfl rfl rfl (ok_iload_n 97 rfl rfl rfl (ok_imul 98 rfl rfl (by first | omega | (simp [up_if]; omega) | (simp [up_if] at *; omega)) (ok_iload_n 99 rfl rfl rfl (ok_iadd 100 rfl rfl (by first | omega | (simp [up_if]; omega) | (simp [up_if] at *; omega)) (ok_iald 101 rfl rfl rfl (by first | omega | (simp [up_if]; omega) | (simp [up_if] at *; omega)) (ok_if_le 102 165 rfl rfl rfl (fun h158 => ?_) (fun h158 => ?_)))))))))
            · refine ok_iconst 105 rfl rfl (by decide) (ok_callSI (M' := M_Mo_one) (as := [_]) 106 rfl rfl ml_X12_192 (s_Mo_one) ⟨Nat.le_of_ble_eq_true rfl, Nat.le_of_ble_eq_true rfl⟩ rfl (Nat.le_of_ble_eq_true rfl) (fun σ' y2 p2 => ?_))
              obtain ⟨hs_, p2⟩ := p2
              rw [hs_]; clear hs_ σ'
              have p2 : 0 ≤ y2 ∧ y2 ≤ 1 := by rw [p2]; split <;> omega
              refine ok_callVV (M' := M_Mo_edge) (as := [_, _, _, _]) 107 rfl rfl ml_X12_330 (s_Mo_edge ⟨by omega, by omega⟩ ⟨by omega, by omega⟩ ⟨by omega, by omega⟩ ⟨by omega, by omega⟩ hc ⟨by omega, by omega⟩) rfl rfl (Nat.le_of_ble_eq_true rfl) ⟨Nat.le_of_ble_eq_true rfl, Nat.le_of_ble_eq_true rfl⟩ rfl (Nat.le_of_ble_eq_true rfl) (fun τ hz => ?_)
              refine ok_inc3 108 rfl rfl rfl (by first | omega | (simp [up_if]; omega) | (simp [up_if] at *; omega)) (ok_goto 109 113 rfl rfl rfl ?_)
              exact ih2 (j + 1) τ ⟨by omega, by omega, gC ρ τ f hz.1, capB_mono hz.2 (by omega)⟩ (by omega)
            · refine ok_iconst 103 rfl rfl (by decide) (ok_goto 104 166 rfl rfl rfl (ok_callSI (M' := M_Mo_one) (as := [_]) 106 rfl rfl ml_X12_192 (s_Mo_one) ⟨Nat.le_of_ble_eq_true rfl, Nat.le_of_ble_eq_true rfl⟩ rfl (Nat.le_of_ble_eq_true rfl) (fun σ' y2 p2 => ?_)))
              obtain ⟨hs_, p2⟩ := p2
              rw [hs_]; clear hs_ σ'
              have p2 : 0 ≤ y2 ∧ y2 ≤ 1 := by rw [p2]; split <;> omega
              refine ok_callVV (M' := M_Mo_edge) (as := [_, _, _, _]) 107 rfl rfl ml_X12_330 (s_Mo_edge ⟨by omega, by omega⟩ ⟨by omega, by omega⟩ ⟨by omega, by omega⟩ ⟨by omega, by omega⟩ hc ⟨by omega, by omega⟩) rfl rfl (Nat.le_of_ble_eq_true rfl) ⟨Nat.le_of_ble_eq_true rfl, Nat.le_of_ble_eq_true rfl⟩ rfl (Nat.le_of_ble_eq_true rfl) (fun τ hz => ?_)
              refine ok_inc3 108 rfl rfl rfl (by first | omega | (simp [up_if]; omega) | (simp [up_if] at *; omega)) (ok_goto 109 113 rfl rfl rfl ?_)
              exact ih2 (j + 1) τ ⟨by omega, by omega, gC ρ τ f hz.1, capB_mono hz.2 (by omega)⟩ (by omega)
          · refine ok_iconst 90 rfl rfl (by decide) (ok_goto 91 145 rfl rfl rfl (ok_callSI (M' := M_Mo_one) (as := [_]) 93 rfl rfl ml_X12_192 (s_Mo_one) ⟨Nat.le_of_ble_eq_true rfl, Nat.le_of_ble_eq_true rfl⟩ rfl (Nat.le_of_ble_eq_true rfl) (fun σ' y1 p1 => ?_)))
            obtain ⟨hs_, p1⟩ := p1
            rw [hs_]; clear hs_ σ'
            have p1 : 0 ≤ y1 ∧ y1 ≤ 1 := by rw [p1]; split <;> omega
            refine ok_aload_n 94 rfl rfl rfl (ok_getR 95 rfl rfl fl_X12_54 rfl rfl (ok_iload_n 96 rfl rfl rfl (ok_iload_n 97 rfl rfl rfl (ok_imul 98 rfl rfl (by first | omega | (simp [up_if]; omega) | (simp [up_if] at *; omega)) (ok_iload_n 99 rfl rfl rfl (ok_iadd 100 rfl rfl (by first | omega | (simp [up_if]; omega) | (simp [up_if] at *; omega)) (ok_iald 101 rfl rfl rfl (by first | omega | (simp [up_if]; omega) | (simp [up_if] at *; omega)) (ok_if_le 102 165 rfl rfl rfl (fun h158 => ?_) (fun h158 => ?_)))))))))
            · refine ok_iconst 105 rfl rfl (by decide) (ok_callSI (M' := M_Mo_one) (as := [_]) 106 rfl rfl ml_X12_192 (s_Mo_one) ⟨Nat.le_of_ble_eq_true rfl, Nat.le_of_ble_eq_true rfl⟩ rfl (Nat.le_of_ble_eq_true rfl) (fun σ' y2 p2 => ?_))
              obtain ⟨hs_, p2⟩ := p2
              rw [hs_]; clear hs_ σ'
              have p2 : 0 ≤ y2 ∧ y2 ≤ 1 := by rw [p2]; split <;> omega
              refine ok_callVV (M' := M_Mo_edge) (as := [_, _, _, _]) 107 rfl rfl ml_X12_330 (s_Mo_edge ⟨by omega, by omega⟩ ⟨by omega, by omega⟩ ⟨by omega, by omega⟩ ⟨by omega, by omega⟩ hc ⟨by omega, by omega⟩) rfl rfl (Nat.le_of_ble_eq_true rfl) ⟨Nat.le_of_ble_eq_true rfl, Nat.le_of_ble_eq_true rfl⟩ rfl (Nat.le_of_ble_eq_true rfl) (fun τ hz => ?_)
              refine ok_inc3 108 rfl rfl rfl (by first | omega | (simp [up_if]; omega) | (simp [up_if] at *; omega)) (ok_goto 109 113 rfl rfl rfl ?_)
              exact ih2 (j + 1) τ ⟨by omega, by omega, gC ρ τ f hz.1, capB_mono hz.2 (by omega)⟩ (by omega)
            · refine ok_iconst 103 rfl rfl (by decide) (ok_goto 104 166 rfl rfl rfl (ok_callSI (M' := M_Mo_one) (as := [_]) 106 rfl rfl ml_X12_192 (s_Mo_one) ⟨Nat.le_of_ble_eq_true rfl, Nat.le_of_ble_eq_true rfl⟩ rfl (Nat.le_of_ble_eq_true rfl) (fun σ' y2 p2 => ?_)))
              obtain ⟨hs_, p2⟩ := p2
              rw [hs_]; clear hs_ σ'
              have p2 : 0 ≤ y2 ∧ y2 ≤ 1 := by rw [p2]; split <;> omega
              refine ok_callVV (M' := M_Mo_edge) (as := [_, _, _, _]) 107 rfl rfl ml_X12_330 (s_Mo_edge ⟨by omega, by omega⟩ ⟨by omega, by omega⟩ ⟨by omega, by omega⟩ ⟨by omega, by omega⟩ hc ⟨by omega, by omega⟩) rfl rfl (Nat.le_of_ble_eq_true rfl) ⟨Nat.le_of_ble_eq_true rfl, Nat.le_of_ble_eq_true rfl⟩ rfl (Nat.le_of_ble_eq_true rfl) (fun τ hz => ?_)
              refine ok_inc3 108 rfl rfl rfl (by first | omega | (simp [up_if]; omega) | (simp [up_if] at *; omega)) (ok_goto 109 113 rfl rfl rfl ?_)
              exact ih2 (j + 1) τ ⟨by omega, by omega, gC ρ τ f hz.1, capB_mono hz.2 (by omega)⟩ (by omega)
    · have b1 := hl i (by omega)
      have b2 := hl (8 + i) (by omega)
      rw [← l1, ← l2] at b1
      refine ok_aload_n 17 rfl rfl rfl (ok_iconst 18 rfl rfl (by decide) (ok_iconst 19 rfl rfl (by decide) (ok_iload_n 20 rfl rfl rfl (ok_iadd 21 rfl rfl (by first | omega | (simp [up_if]; omega) | (simp [up_if] at *; omega)) (ok_aload_n 22 rfl rfl rfl (ok_getR 23 rfl rfl fl_X12_57 rfl rfl (ok_iload_n 24 rfl rfl rfl (ok_iald 25 rfl rfl rfl (by first | omega | (simp [up_if]; omega) | (simp [up_if] at *; omega)) (ok_aload_n 26 rfl rfl rfl (ok_getR 27 rfl rfl fl_X12_60 rfl rfl (ok_iload_n 28 rfl rfl rfl (ok_iald 29 rfl rfl rfl (by first | omega | (simp [up_if]; omega) | (simp [up_if] at *; omega)) (ok_callVV (M' := M_Mo_edge) (as := [_, _, _, _]) 30 rfl rfl ml_X12_330 (s_Mo_edge ⟨by omega, by omega⟩ ⟨by omega, by omega⟩ ⟨by omega, by omega⟩ ⟨by omega, by omega⟩ hc ⟨by omega, by omega⟩) rfl rfl (Nat.le_of_ble_eq_true rfl) ⟨Nat.le_of_ble_eq_true rfl, Nat.le_of_ble_eq_true rfl⟩ rfl (Nat.le_of_ble_eq_true rfl) (fun τ hz => ?_))))))))))))))
      have g := gC ρ τ f hz.1
      obtain ⟨l3, l4⟩ := L τ g
      rw [← l3, ← l4] at b2
      refine ok_aload_n 31 rfl rfl rfl (ok_bipush 32 rfl rfl (by decide) (by decide) (ok_iload_n 33 rfl rfl rfl (ok_iadd 34 rfl rfl (by first | omega | (simp [up_if]; omega) | (simp [up_if] at *; omega)) (ok_bipush 35 rfl rfl (by decide) (by decide) (ok_aload_n 36 rfl rfl rfl (ok_getR 37 rfl rfl fl_X12_57 rfl rfl (ok_bipush 38 rfl rfl (by decide) (by decide) (ok_iload_n 39 rfl rfl rfl (ok_iadd 40 rfl rfl (by first | omega | (simp [up_if]; omega) | (simp [up_if] at *; omega)) (ok_iald 41 rfl rfl rfl (by first | omega | (simp [up_if]; omega) | (simp [up_if] at *; omega)) (ok_aload_n 42 rfl rfl rfl (ok_getR 43 rfl rfl fl_X12_60 rfl rfl (ok_bipush 44 rfl rfl (by decide) (by decide) (ok_iload_n 45 rfl rfl rfl (ok_iadd 46 rfl rfl (by first | omega | (simp [up_if]; omega) | (simp [up_if] at *; omega)) (ok_iald 47 rfl rfl rfl (by first | omega | (simp [up_if]; omega) | (simp [up_if] at *; omega)) (ok_callVV (M' := M_Mo_edge) (as := [_, _, _, _]) 48 rfl rfl ml_X12_330 (s_Mo_edge ⟨by omega, by omega⟩ ⟨by omega, by omega⟩ ⟨by omega, by omega⟩ ⟨by omega, by omega⟩ hz.2 ⟨by omega, by omega⟩) rfl rfl (Nat.le_of_ble_eq_true rfl) ⟨Nat.le_of_ble_eq_true rfl, Nat.le_of_ble_eq_true rfl⟩ rfl (Nat.le_of_ble_eq_true rfl) (fun υ hz2 => ?_))))))))))))))))))
      refine ok_inc2 49 rfl rfl rfl (by first | omega | (simp [up_if]; omega) | (simp [up_if] at *; omega)) (ok_goto 50 24 rfl rfl rfl ?_)
      exact ih (i + 1) υ ⟨by omega, by omega, gC τ υ g hz2.1, capB_mono hz2.2 (by omega)⟩ (by omega)
  · refine ok_aload_n 5 rfl rfl rfl (ok_getR 6 rfl rfl fl_X12_63 rfl rfl (ok_iload_n 7 rfl rfl rfl (ok_iconst 8 rfl rfl (by decide) (ok_iast 9 rfl rfl rfl (by first | omega | (simp [up_if]; omega) | (simp [up_if] at *; omega)) (ok_inc2 10 rfl rfl rfl (by first | omega | (simp [up_if]; omega) | (simp [up_if] at *; omega)) (ok_goto 11 2 rfl rfl rfl ?_))))))
    refine ih (k + 1) _ ⟨by omega, by omega, fr_up f (by simp [rgQ]), lt_ext (fun v a b => ?_) ?_⟩ (by omega)
    · rw [up_nk _ _ _ _ (by omega)]; exact hz v a b
    · rw [up_same]
