theorem QA_mk {σ τ : eS} {v : Nat} {z : Int} (h : IA σ) (hv : tA v) (q : fr (fun c _ => c = 15 ∨ c = v ∨ c = v + 4) σ τ ∧ iT τ v ∧ mT τ v ∧ iSu τ ∧ (z = 0 ∨ z = 1)) : QA0 σ τ := by
  have n := tA_10 hv
  have n11 : v ≤ 5 := by unfold tA at hv; omega
  have e3 := q.1 10 3 (by omega)
  refine ⟨⟨?_, iTs_set hv h.2.1 (fun c k a b d1 d2 => q.1 c k (by omega)) q.2.1 q.2.2.1, iCh_cg h.2.2.1 (fun k => q.1 _ k (by omega)), iMi_cg h.2.2.2.1 (fun c k a b => q.1 c k (by omega)), iSh_cg h.2.2.2.2.1 (fun k => q.1 _ k (by omega)), q.2.2.2.1⟩, ⟨fun k => q.1 10 k (by omega), fun k => q.1 11 k (by omega)⟩, otS_fr q.1 (fun c k w => by omega)⟩
  unfold tL
  rw [e3]
  exact h.1
/-! choices -/
theorem lpO5 {α β γ δ ε : Type} {sh : eSh} {M : eM} {pc : Nat} {Q : eS → Option eV → Prop} (L : α → β → γ → δ → ε → List (Option eV)) (S : α → β → γ → δ → ε → eS) (I : α → β → γ → δ → ε → Prop) (μ : α → β → γ → δ → ε → Nat) (hs : ∀ a b c d e, I a b c d e → (∀ a' b' c' d' e', I a' b' c' d' e' → μ a' b' c' d' e' < μ a b c d e → Ok sh M pc (L a' b' c' d' e') [] (S a' b' c' d' e') Q) → Ok sh M pc (L a b c d e) [] (S a b c d e) Q) (a : α) (b : β) (c : γ) (d : δ) (e : ε) (ha : I a b c d e) : Ok sh M pc (L a b c d e) [] (S a b c d e) Q :=
  lp (fun q : α × β × γ × δ × ε => Ok sh M pc (L q.1 q.2.1 q.2.2.1 q.2.2.2.1 q.2.2.2.2) [] (S q.1 q.2.1 q.2.2.1 q.2.2.2.1 q.2.2.2.2) Q) (fun q => I q.1 q.2.1 q.2.2.1 q.2.2.2.1 q.2.2.2.2) (fun q => μ q.1 q.2.1 q.2.2.1 q.2.2.2.1 q.2.2.2.2) (fun q hq ih => hs q.1 q.2.1 q.2.2.1 q.2.2.2.1 q.2.2.2.2 hq (fun a' b' c' d' e' h1 h2 => ih (a', b', c', d', e') h1 h2)) (a, b, c, d, e) ha
theorem bit_or8 : ∀ s : Fin 256, ∀ j : Fin 8, 0 ≤ ior (s.val : Int) (ishl 1 (j.val : Int)) ∧ ior (s.val : Int) (ishl 1 (j.val : Int)) < 256 := by decide +kernel
theorem or8 {s j : Int} (h1 : 0 ≤ s ∧ s < 256) (h2 : 0 ≤ j ∧ j < 8) : 0 ≤ ior s (ishl 1 j) ∧ ior s (ishl 1 j) < 256 := fin2 (P := fun s j => 0 ≤ ior s (ishl 1 j) ∧ ior s (ishl 1 j) < 256) bit_or8 h1.1 h1.2 h2.1 h2.2
theorem bit_xor8 : ∀ s : Fin 256, ∀ j : Fin 8, 0 ≤ ixor (s.val : Int) (ishl 1 (j.val : Int)) ∧ ixor (s.val : Int) (ishl 1 (j.val : Int)) < 256 := by decide +kernel
theorem xor8 {s j : Int} (h1 : 0 ≤ s ∧ s < 256) (h2 : 0 ≤ j ∧ j < 8) : 0 ≤ ixor s (ishl 1 j) ∧ ixor s (ishl 1 j) < 256 := fin2 (P := fun s j => 0 ≤ ixor s (ishl 1 j) ∧ ixor s (ishl 1 j) < 256) bit_xor8 h1.1 h1.2 h2.1 h2.2
theorem bit_pc1 : ∀ s : Fin 256, (s.val : Int) ≠ 0 → 1 ≤ pc (s.val : Int) := by decide +kernel
theorem pc1 {s : Int} (h : 0 ≤ s ∧ s < 256) (h0 : s ≠ 0) : 1 ≤ pc s := fin1 (P := fun s => s ≠ 0 → 1 ≤ pc s) bit_pc1 h.1 h.2 h0
theorem s_Ch_nextColumn {σ : eS} {o u f n : Int} (hu : 0 ≤ u ∧ u < 256) (hf : 0 ≤ f) (hn : 0 ≤ n ∧ n ≤ 8) : MtI shA M_Ch_nextColumn [vr 16, vi o, vi u, vi f, vi n] σ (fun σ' z => σ' = σ ∧ 0 ≤ z) := by
  refine Mt.of okM_Ch_nextColumn (Nat.le_of_ble_eq_true rfl) (fun hk hg => ?_)
  refine ok_iload_n 0 rfl rfl rfl (ok_ist5 1 rfl rfl rfl ?_)
  refine lpO (fun j : Int => [some (vr 16), some (vi o), some (vi u), some (vi f), some (vi n), some (vi j)]) (fun _ => σ) (fun j => 0 ≤ j) (fun j => (8 - j).toNat) ?_ f hf
  rintro j j1 ih
  refine ok_iload 2 rfl rfl rfl (ok_iload 3 rfl rfl rfl (ok_icmp_ge 4 46 rfl rfl rfl (fun h7 => ?_) (fun h7 => ?_)))
  · refine ok_iload 26 rfl rfl rfl (ok_iret 27 rfl rfl rfl ?_)
    exact ⟨_, rfl, rfl, by omega⟩
  · have b := or8 hu (j := j) ⟨by omega, by omega⟩
    refine ok_iload_n 5 rfl rfl rfl (ok_iload 6 rfl rfl rfl (ok_ishr 7 rfl rfl (ok_iconst 8 rfl rfl (by decide) (ok_iand 9 rfl rfl (ok_if_eq 10 40 rfl rfl rfl (fun h16 => ?_) (fun h16 => ?_))))))
    · refine ok_inc5 24 rfl rfl rfl (by first | omega | (simp [up_if]; omega) | (simp [up_if] at *; omega)) (ok_goto 25 3 rfl rfl rfl ?_)
      exact ih (j + 1) (by omega) (by omega)
    · refine ok_aload_n 11 rfl rfl rfl (ok_getR 12 rfl rfl fl_X0_19 rfl rfl (ok_iload_n 13 rfl rfl rfl (ok_iconst 14 rfl rfl (by decide) (ok_iload 15 rfl rfl rfl (ok_ishl 16 rfl rfl (ok_ior 17 rfl rfl (ok_iald 18 rfl rfl rfl (by first | omega | (simp [up_if]; omega) | (simp [up_if] at *; omega)) (ok_aload_n 19 rfl rfl rfl (ok_getI 20 rfl rfl fl_X0_22 rfl rfl (Or.inl rfl) (ok_icmp_eq 21 40 rfl rfl rfl (fun h34 => ?_) (fun h34 => ?_)))))))))))
      · refine ok_inc5 24 rfl rfl rfl (by first | omega | (simp [up_if]; omega) | (simp [up_if] at *; omega)) (ok_goto 25 3 rfl rfl rfl ?_)
        exact ih (j + 1) (by omega) (by omega)
      · refine ok_iload 22 rfl rfl rfl (ok_iret 23 rfl rfl rfl ?_)
        exact ⟨_, rfl, rfl, by omega⟩
abbrev rgCh : Nat → Int → Prop := fun c _ => c = 16 ∨ c = 17 ∨ c = 18 ∨ c = 19
theorem up_ch {σ : eS} {j z : Int} (h : iCh σ) (hz : 0 ≤ z ∧ z ≤ 7) : iCh (up σ 17 j z) := fun k a b => by
  rw [up_if]
  by_cases q : k = j
  · rw [if_pos ⟨rfl, q⟩]; exact hz
  · rw [if_neg (fun y => q y.2)]; exact h k a b
def mkI (σ ρ : eS) : Prop := ρ 16 3 = wr (σ 16 3 + 1) ∧ ∀ k, ρ 19 k = σ 19 k ∨ ρ 19 k = wr (σ 16 3 + 1)
theorem mkI.s {σ ρ : eS} (h : mkI σ ρ) : mkS 1 σ ρ := fun i l => by
  have e : wr (σ 16 3 + 1) = σ 16 3 + 1 := wr_id ⟨by have := i.1; omega, by omega⟩
  obtain ⟨h1, h2⟩ := h
  rw [e] at h1
  refine ⟨⟨by have := i.1; omega, fun T a b => ?_⟩, by omega, by omega⟩
  have := i.2 T a b
  rcases h2 T with q | q
  · omega
  · rw [e] at q; omega
theorem mkI.u17 {σ ρ : eS} {a b : Int} (h : mkI σ ρ) : mkI σ (up ρ 17 a b) := ⟨by rw [up_ne _ _ _ _ (by decide)]; exact h.1, fun k => by rw [up_ne _ _ _ _ (by decide)]; exact h.2 k⟩
theorem mkI.u19 {σ ρ : eS} {a : Int} (h : mkI σ ρ) : mkI σ (up ρ 19 a (ρ 16 3)) := ⟨by rw [up_ne _ _ _ _ (by decide)]; exact h.1, fun k => by
  rw [up_if]
  by_cases q : k = a
  · rw [if_pos ⟨rfl, q⟩]; exact Or.inr h.1
  · rw [if_neg (fun y => q y.2)]; exact h.2 k⟩
theorem s_Ch_findFirst {σ : eS} {J n : Int} (hC : iCh σ) (hn : 0 ≤ n ∧ n ≤ 8) : MtI shA M_Ch_findFirst [vr 16, vl J, vi n] σ (fun σ' z => fr rgCh σ σ' ∧ iCh σ' ∧ (z = 0 ∨ z = 1) ∧ mkS 1 σ σ') := by
  refine Mt.of okM_Ch_findFirst (Nat.le_of_ble_eq_true rfl) (fun hk hg => ?_)
  refine ok_aload_n 0 rfl rfl rfl (ok_dup 1 rfl rfl rfl (ok_getI 2 rfl rfl fl_X0_22 rfl rfl (Or.inl rfl) (ok_iconst 3 rfl rfl (by decide) (ok_iaddW 4 rfl rfl (ok_putI 5 rfl rfl fl_X0_22 rfl rfl rfl rfl (ok_iconst 6 rfl rfl (by decide) (ok_ist4 7 rfl rfl rfl (ok_iconst 8 rfl rfl (by decide) (ok_ist5 9 rfl rfl rfl (ok_iconst 10 rfl rfl (by decide) (ok_ist6 11 rfl rfl rfl (ok_iconst 12 rfl rfl (by decide) (ok_ist7 13 rfl rfl rfl ?_)))))))))))))
  refine lpO5 (fun (u r w k : Int) (_ : eS) => [some (vr 16), some (vl J), none, some (vi n), some (vi u), some (vi r), some (vi w), some (vi k), none]) (fun _ _ _ _ ρ => ρ) (fun u r w k ρ => 0 ≤ u ∧ u < 256 ∧ 0 ≤ r ∧ r ≤ 8 ∧ 0 ≤ w ∧ w ≤ 8 ∧ 0 ≤ k ∧ k ≤ 520 ∧ fr rgCh σ ρ ∧ iCh ρ ∧ mkI σ ρ) (fun _ _ _ k _ => (520 - k).toNat) ?_ 0 0 0 0 _ ⟨by omega, by omega, by omega, by omega, by omega, by omega, by omega, by omega, fr_up fr.rf (by simp [rgCh]), iCh_cg hC (fun k => up_ne _ _ _ _ (by omega)), up_same _ _ _ _, fun k => Or.inl (up_ne _ _ _ _ (by decide))⟩
  rintro u r w k ρ ⟨u1, u2, r1, r2, w1, w2, k1, k2, f, hC1, hm⟩ ih
  refine ok_iload 14 rfl rfl rfl (ok_sipush 15 rfl rfl (by decide) (by decide) (ok_icmp_ge 16 143 rfl rfl rfl (fun h27 => ?_) (fun h27 => ?_)))
  · refine ok_iload 80 rfl rfl rfl (ok_iload_n 81 rfl rfl rfl (ok_icmp_ne 82 153 rfl rfl rfl (fun h146 => ?_) (fun h146 => ?_)))
    · refine ok_iconst 85 rfl rfl (by decide) (ok_zret 86 rfl rfl rfl (by first | omega | (simp [up_if]; omega) | (simp [up_if] at *; omega)) ?_)
      exact ⟨_, rfl, f, hC1, by omega, hm.s⟩
    · refine ok_iconst 83 rfl rfl (by decide) (ok_goto 84 154 rfl rfl rfl (ok_zret 86 rfl rfl rfl (by first | omega | (simp [up_if]; omega) | (simp [up_if] at *; omega)) ?_))
      exact ⟨_, rfl, f, hC1, by omega, hm.s⟩
  · refine ok_iload 17 rfl rfl rfl (ok_iload_n 18 rfl rfl rfl (ok_icmp_ge 19 143 rfl rfl rfl (fun h33 => ?_) (fun h33 => ?_)))
    · refine ok_iload 80 rfl rfl rfl (ok_iload_n 81 rfl rfl rfl (ok_icmp_ne 82 153 rfl rfl rfl (fun h146 => ?_) (fun h146 => ?_)))
      · refine ok_iconst 85 rfl rfl (by decide) (ok_zret 86 rfl rfl rfl (by first | omega | (simp [up_if]; omega) | (simp [up_if] at *; omega)) ?_)
        exact ⟨_, rfl, f, hC1, by omega, hm.s⟩
      · refine ok_iconst 83 rfl rfl (by decide) (ok_goto 84 154 rfl rfl rfl (ok_zret 86 rfl rfl rfl (by first | omega | (simp [up_if]; omega) | (simp [up_if] at *; omega)) ?_))
        exact ⟨_, rfl, f, hC1, by omega, hm.s⟩
    · refine ok_aload_n 20 rfl rfl rfl (ok_lload_n 21 rfl rfl rfl (ok_iload 22 rfl rfl rfl (ok_callSI (M' := M_Jo_rowOf) (as := [_, _]) 23 rfl rfl ml_X0_26 (s_Jo_rowOf) ⟨Nat.le_of_ble_eq_true rfl, Nat.le_of_ble_eq_true rfl⟩ rfl (Nat.le_of_ble_eq_true rfl) (fun σ' z hz => ?_))))
      rw [hz.1, hz.2]
      clear hz z σ'
      refine ok_iload 24 rfl rfl rfl (ok_iconst 25 rfl rfl (by decide) (ok_ixor 26 rfl rfl (ok_iand 27 rfl rfl (ok_iload 28 rfl rfl rfl (ok_iload 29 rfl rfl rfl (ok_iload_n 30 rfl rfl rfl (ok_callVI (M' := M_Ch_nextColumn) (as := [_, _, _, _]) 31 rfl rfl ml_X0_32 (s_Ch_nextColumn ⟨u1, u2⟩ w1 hn) rfl rfl (Nat.le_of_ble_eq_true rfl) ⟨Nat.le_of_ble_eq_true rfl, Nat.le_of_ble_eq_true rfl⟩ rfl (Nat.le_of_ble_eq_true rfl) (fun σ' z hz => ?_))))))))
      obtain ⟨hs_, hz⟩ := hz
      rw [hs_]; clear hs_ σ'
      refine ok_ist8 32 rfl rfl rfl (ok_iload 33 rfl rfl rfl (ok_iload_n 34 rfl rfl rfl (ok_icmp_ge 35 91 rfl rfl rfl (fun h61 => ?_) (fun h61 => ?_))))
      · refine ok_iload 51 rfl rfl rfl (ok_if_ne 52 98 rfl rfl rfl (fun h93 => ?_) (fun h93 => ?_))
        · have c := hC1 (r + -1) (by omega) (by omega)
          have b := xor8 ⟨u1, u2⟩ (j := ρ 17 (r + -1)) ⟨by omega, by omega⟩
          have e : ∀ x, up ρ 19 u x 17 (r + -1) = ρ 17 (r + -1) := fun x => up_ne _ _ _ _ (by decide)
          refine ok_aload_n 55 rfl rfl rfl (ok_getR 56 rfl rfl fl_X0_19 rfl rfl (ok_iload 57 rfl rfl rfl (ok_aload_n 58 rfl rfl rfl (ok_getI 59 rfl rfl fl_X0_22 rfl rfl (Or.inl rfl) (ok_iast 60 rfl rfl rfl (by first | omega | (simp [up_if]; omega) | (simp [up_if] at *; omega)) (ok_inc5 61 rfl rfl rfl (by first | omega | (simp [up_if]; omega) | (simp [up_if] at *; omega)) (ok_iload 62 rfl rfl rfl (ok_iconst 63 rfl rfl (by decide) (ok_aload_n 64 rfl rfl rfl (ok_getR 65 rfl rfl fl_X0_9 rfl rfl (ok_iload 66 rfl rfl rfl (ok_iald 67 rfl rfl rfl (by first | omega | (simp [up_if]; omega) | (simp [up_if] at *; omega)) (ok_ishl 68 rfl rfl (ok_ixor 69 rfl rfl (ok_ist4 70 rfl rfl rfl (ok_aload_n 71 rfl rfl rfl (ok_getR 72 rfl rfl fl_X0_9 rfl rfl (ok_iload 73 rfl rfl rfl (ok_iald 74 rfl rfl rfl (by first | omega | (simp [up_if]; omega) | (simp [up_if] at *; omega)) (ok_iconst 75 rfl rfl (by decide) (ok_iadd 76 rfl rfl (by first | omega | (simp [up_if]; omega) | (simp [up_if] at *; omega)) (ok_ist6 77 rfl rfl rfl (ok_inc7 78 rfl rfl rfl (by first | omega | (simp [up_if]; omega) | (simp [up_if] at *; omega)) (ok_goto 79 22 rfl rfl rfl ?_))))))))))))))))))))))))
          rw [e]
          exact ok_fg [some (vr 16), some (vl J), none, some (vi n), some (vi _), some (vi (r + -1)), some (vi _), some (vi (k + 1)), none] ⟨rfl, rfl, rfl, rfl, rfl, rfl, rfl, trivial⟩ (ih _ (r + -1) _ (k + 1) _ ⟨b.1, b.2, by omega, by omega, by omega, by omega, by omega, by omega, fr_up f (by simp [rgCh]), iCh_cg hC1 (fun k => up_ne _ _ _ _ (by decide)), hm.u19⟩ (by omega))
        · refine ok_iconst 53 rfl rfl (by decide) (ok_zret 54 rfl rfl rfl (by first | omega | (simp [up_if]; omega) | (simp [up_if] at *; omega)) ?_)
          exact ⟨_, rfl, f, hC1, Or.inl rfl, hm.s⟩
      · have b := or8 ⟨u1, u2⟩ (j := z) ⟨by omega, by omega⟩
        refine ok_aload_n 36 rfl rfl rfl (ok_getR 37 rfl rfl fl_X0_9 rfl rfl (ok_iload 38 rfl rfl rfl (ok_iload 39 rfl rfl rfl (ok_iast 40 rfl rfl rfl (by first | omega | (simp [up_if]; omega) | (simp [up_if] at *; omega)) (ok_iload 41 rfl rfl rfl (ok_iconst 42 rfl rfl (by decide) (ok_iload 43 rfl rfl rfl (ok_ishl 44 rfl rfl (ok_ior 45 rfl rfl (ok_ist4 46 rfl rfl rfl (ok_iconst 47 rfl rfl (by decide) (ok_ist6 48 rfl rfl rfl (ok_inc5 49 rfl rfl rfl (by first | omega | (simp [up_if]; omega) | (simp [up_if] at *; omega)) (ok_goto 50 137 rfl rfl rfl (ok_inc7 78 rfl rfl rfl (by first | omega | (simp [up_if]; omega) | (simp [up_if] at *; omega)) (ok_goto 79 22 rfl rfl rfl ?_))))))))))))))))
        exact ok_fg [some (vr 16), some (vl J), none, some (vi n), some (vi _), some (vi (r + 1)), some (vi _), some (vi (k + 1)), none] ⟨rfl, rfl, rfl, rfl, rfl, rfl, rfl, trivial⟩ (ih _ (r + 1) _ (k + 1) _ ⟨b.1, b.2, by omega, by omega, by omega, by omega, by omega, by omega, fr_up f (by simp [rgCh]), up_ch hC1 ⟨by omega, by omega⟩, hm.u17⟩ (by omega))
theorem s_Ch_greatestLeast {σ : eS} {c : Nat} {J n : Int} (hs : nth shA c = some (1, 64, [])) (hn : 0 ≤ n ∧ n ≤ 8) : MtL shA M_Ch_greatestLeast [vr 16, vr c, vl J, vi n] σ (fun σ' _ => fr (fun c _ => c = 18) σ σ') := by
  refine Mt.of okM_Ch_greatestLeast (Nat.le_of_ble_eq_true rfl) (fun hk hg => ?_)
  have b2 := bit2 hn
  refine ok_iconst 0 rfl rfl (by decide) (ok_iload 1 rfl rfl rfl (ok_ishl 2 rfl rfl ?_))
  rw [b2.1]
  refine ok_iconst 3 rfl rfl (by decide) (ok_isub 4 rfl rfl (by first | omega | (simp [up_if]; omega) | (simp [up_if] at *; omega)) (ok_ist5 5 rfl rfl rfl (ok_aload_n 6 rfl rfl rfl (ok_getR 7 rfl rfl fl_X0_15 rfl rfl (ok_iload 8 rfl rfl rfl (ok_ldc2 9 (9223372036854775807) rfl rfl kc_X0_36 (by decide) (ok_last 10 rfl rfl rfl (by first | omega | (simp [up_if]; omega) | (simp [up_if] at *; omega)) (ok_iload 11 rfl rfl rfl (ok_iconst 12 rfl rfl (by decide) (ok_isub 13 rfl rfl (by first | omega | (simp [up_if]; omega) | (simp [up_if] at *; omega)) (ok_ist6 14 rfl rfl rfl ?_)))))))))))
  refine lpO2 (fun (s : Int) (_ : eS) => [some (vr 16), some (vr c), some (vl J), none, some (vi n), some (vi (p2 n - 1)), some (vi s), none, none, none, none, none]) (fun _ ρ => ρ) (fun s ρ => -1 ≤ s ∧ s < p2 n - 1 ∧ fr (fun c _ => c = 18) σ ρ) (fun s _ => (s + 1).toNat) ?_ (p2 n - 1 - 1) _ ⟨by omega, by omega, fr_up fr.rf rfl⟩
  rintro s ρ ⟨s1, s2, f⟩ ih
  refine ok_iload 15 rfl rfl rfl (ok_if_lt 16 128 rfl rfl rfl (fun h26 => ?_) (fun h26 => ?_))
  · refine ok_aload_n 70 rfl rfl rfl (ok_getR 71 rfl rfl fl_X0_15 rfl rfl (ok_iconst 72 rfl rfl (by decide) (ok_lald 73 rfl rfl rfl (by first | omega | (simp [up_if]; omega) | (simp [up_if] at *; omega)) (ok_lret 74 rfl rfl rfl ?_))))
    exact ⟨_, rfl, f⟩
  · refine ok_iload 17 rfl rfl rfl (ok_callSI (M' := M_Ji_bitCount) (as := [_]) 18 rfl rfl ml_X0_38 (s_Ji_bitCount) ⟨Nat.le_of_ble_eq_true rfl, Nat.le_of_ble_eq_true rfl⟩ rfl (Nat.le_of_ble_eq_true rfl) (fun σ' z hz => ?_))
    rw [hz.1, hz.2]
    clear hz z σ'
    have p1 := (bitL (s := s) ⟨by omega, by omega⟩ hn)
    have p3 := p1.1 s2
    have p4 := p1.2.2.1
    clear p1
    rw [bcP (s := s) ⟨by omega, by omega⟩]
    refine ok_ist7 19 rfl rfl rfl (ok_lload_n 20 rfl rfl rfl (ok_iload 21 rfl rfl rfl (ok_callSI (M' := M_Jo_rowOf) (as := [_, _]) 22 rfl rfl ml_X0_26 (s_Jo_rowOf) ⟨Nat.le_of_ble_eq_true rfl, Nat.le_of_ble_eq_true rfl⟩ rfl (Nat.le_of_ble_eq_true rfl) (fun σ' z hz => ?_))))
    rw [hz.1, hz.2]
    clear hz z σ'
    refine ok_iload 23 rfl rfl rfl (ok_iconst 24 rfl rfl (by decide) (ok_ixor 25 rfl rfl (ok_iand 26 rfl rfl (ok_ist8 27 rfl rfl rfl (ok_ldc2 28 (-1) rfl rfl kc_X0_44 (by decide) (ok_lst9 29 rfl rfl rfl (ok_iconst 30 rfl rfl (by decide) (ok_ist11 31 rfl rfl rfl ?_))))))))
    obtain ⟨o, eo⟩ : ∃ o : Int, o = iand (rowJ J (pc s)) (ixor s (-1)) := ⟨_, rfl⟩
    rw [← eo]
    refine lpO2 (fun (v j : Int) => [some (vr 16), some (vr c), some (vl J), none, some (vi n), some (vi (p2 n - 1)), some (vi s), some (vi (pc s)), some (vi o), some (vl v), none, some (vi j)]) (fun _ _ => ρ) (fun _ j => 0 ≤ j ∧ j ≤ 8) (fun _ j => (8 - j).toNat) ?_ (-1) 0 ⟨by omega, by omega⟩
    rintro v j ⟨j1, j2⟩ ih2
    refine ok_iload 32 rfl rfl rfl (ok_iload 33 rfl rfl rfl (ok_icmp_ge 34 113 rfl rfl rfl (fun h61 => ?_) (fun h61 => ?_)))
    · refine ok_aload_n 63 rfl rfl rfl (ok_getR 64 rfl rfl fl_X0_15 rfl rfl (ok_iload 65 rfl rfl rfl (ok_lload 66 rfl rfl rfl (ok_last 67 rfl rfl rfl (by first | omega | (simp [up_if]; omega) | (simp [up_if] at *; omega)) (ok_inc6 68 rfl rfl rfl (by first | omega | (simp [up_if]; omega) | (simp [up_if] at *; omega)) (ok_goto 69 24 rfl rfl rfl ?_))))))
      exact ok_fg [some (vr 16), some (vr c), some (vl J), none, some (vi n), some (vi (p2 n - 1)), some (vi (s + -1)), none, none, none, none, none] ⟨rfl, rfl, rfl, rfl, rfl, rfl, trivial⟩ (ih (s + -1) _ ⟨by omega, by omega, fr_up f rfl⟩ (by omega))
    · have b := or8 (s := s) (j := j) ⟨by omega, by omega⟩ ⟨by omega, by omega⟩
      refine ok_iload 35 rfl rfl rfl (ok_iload 36 rfl rfl rfl (ok_ishr 37 rfl rfl (ok_iconst 38 rfl rfl (by decide) (ok_iand 39 rfl rfl (ok_if_eq 40 107 rfl rfl rfl (fun h71 => ?_) (fun h71 => ?_))))))
      · refine ok_inc11 61 rfl rfl rfl (by first | omega | (simp [up_if]; omega) | (simp [up_if] at *; omega)) (ok_goto 62 57 rfl rfl rfl ?_)
        exact ih2 _ (j + 1) ⟨by omega, by omega⟩ (by omega)
      · refine ok_lload 41 rfl rfl rfl (ok_aload_n 42 rfl rfl rfl (ok_iload 43 rfl rfl rfl (ok_bipush 44 rfl rfl (by decide) (by decide) (ok_imul 45 rfl rfl (by first | omega | (simp [up_if]; omega) | (simp [up_if] at *; omega)) (ok_iload 46 rfl rfl rfl (ok_iadd 47 rfl rfl (by first | omega | (simp [up_if]; omega) | (simp [up_if] at *; omega)) (ok_iald 48 rfl rfl hs (by first | omega | (simp [up_if]; omega) | (simp [up_if] at *; omega)) (ok_i2l 49 rfl rfl (ok_aload_n 50 rfl rfl rfl (ok_getR 51 rfl rfl fl_X0_15 rfl rfl (ok_iload 52 rfl rfl rfl (ok_iconst 53 rfl rfl (by decide) (ok_iload 54 rfl rfl rfl (ok_ishl 55 rfl rfl (ok_ior 56 rfl rfl (ok_lald 57 rfl rfl rfl (by first | omega | (simp [up_if]; omega) | (simp [up_if] at *; omega)) (ok_mminL 58 rfl rfl ml_X0_46 ⟨Nat.le_of_ble_eq_true rfl, Nat.le_of_ble_eq_true rfl⟩ (ok_mmaxL 59 rfl rfl ml_X0_52 ⟨Nat.le_of_ble_eq_true rfl, Nat.le_of_ble_eq_true rfl⟩ (ok_lst9 60 rfl rfl rfl (ok_inc11 61 rfl rfl rfl (by first | omega | (simp [up_if]; omega) | (simp [up_if] at *; omega)) (ok_goto 62 57 rfl rfl rfl ?_)))))))))))))))))))))
        exact ih2 _ (j + 1) ⟨by omega, by omega⟩ (by omega)
theorem s_Ch_sumUp {σ : eS} {c : Nat} {J n : Int} (hs : nth shA c = some (1, 64, [])) (hn : 0 ≤ n ∧ n ≤ 8) : MtV shA M_Ch_sumUp [vr 16, vr c, vl J, vi n] σ (fun σ' => fr (fun c _ => c = 18) σ σ') := by
  refine Mt.of okM_Ch_sumUp (Nat.le_of_ble_eq_true rfl) (fun hk hg => ?_)
  have b2 := bit2 hn
  refine ok_iconst 0 rfl rfl (by decide) (ok_iload 1 rfl rfl rfl (ok_ishl 2 rfl rfl ?_))
  rw [b2.1]
  refine ok_iconst 3 rfl rfl (by decide) (ok_isub 4 rfl rfl (by first | omega | (simp [up_if]; omega) | (simp [up_if] at *; omega)) (ok_ist5 5 rfl rfl rfl (ok_aload_n 6 rfl rfl rfl (ok_getR 7 rfl rfl fl_X0_15 rfl rfl (ok_iload 8 rfl rfl rfl (ok_lconst (w := 0) 9 rfl rfl rfl (by decide) (ok_last 10 rfl rfl rfl (by first | omega | (simp [up_if]; omega) | (simp [up_if] at *; omega)) (ok_iload 11 rfl rfl rfl (ok_iconst 12 rfl rfl (by decide) (ok_isub 13 rfl rfl (by first | omega | (simp [up_if]; omega) | (simp [up_if] at *; omega)) (ok_ist6 14 rfl rfl rfl ?_)))))))))))
  refine lpO2 (fun (s : Int) (_ : eS) => [some (vr 16), some (vr c), some (vl J), none, some (vi n), some (vi (p2 n - 1)), some (vi s), none, none, none, none, none]) (fun _ ρ => ρ) (fun s ρ => -1 ≤ s ∧ s < p2 n - 1 ∧ fr (fun c _ => c = 18) σ ρ) (fun s _ => (s + 1).toNat) ?_ (p2 n - 1 - 1) _ ⟨by omega, by omega, fr_up fr.rf rfl⟩
  rintro s ρ ⟨s1, s2, f⟩ ih
  refine ok_iload 15 rfl rfl rfl (ok_if_lt 16 143 rfl rfl rfl (fun h24 => ?_) (fun h24 => ?_))
  · refine ok_vret 81 rfl rfl rfl ?_
    exact ⟨rfl, f⟩
  · refine ok_iload 17 rfl rfl rfl (ok_callSI (M' := M_Ji_bitCount) (as := [_]) 18 rfl rfl ml_X0_38 (s_Ji_bitCount) ⟨Nat.le_of_ble_eq_true rfl, Nat.le_of_ble_eq_true rfl⟩ rfl (Nat.le_of_ble_eq_true rfl) (fun σ' z hz => ?_))
    rw [hz.1, hz.2]
    clear hz z σ'
    have p1 := (bitL (s := s) ⟨by omega, by omega⟩ hn)
    have p3 := p1.1 s2
    have p4 := p1.2.2.1
    clear p1
    rw [bcP (s := s) ⟨by omega, by omega⟩]
    refine ok_ist7 19 rfl rfl rfl (ok_lload_n 20 rfl rfl rfl (ok_iload 21 rfl rfl rfl (ok_callSI (M' := M_Jo_rowOf) (as := [_, _]) 22 rfl rfl ml_X0_26 (s_Jo_rowOf) ⟨Nat.le_of_ble_eq_true rfl, Nat.le_of_ble_eq_true rfl⟩ rfl (Nat.le_of_ble_eq_true rfl) (fun σ' z hz => ?_))))
    rw [hz.1, hz.2]
    clear hz z σ'
    refine ok_iload 23 rfl rfl rfl (ok_iconst 24 rfl rfl (by decide) (ok_ixor 25 rfl rfl (ok_iand 26 rfl rfl (ok_ist8 27 rfl rfl rfl (ok_ldc2 28 (-1) rfl rfl kc_X0_44 (by decide) (ok_lst9 29 rfl rfl rfl (ok_iconst 30 rfl rfl (by decide) (ok_ist11 31 rfl rfl rfl ?_))))))))
    obtain ⟨o, eo⟩ : ∃ o : Int, o = iand (rowJ J (pc s)) (ixor s (-1)) := ⟨_, rfl⟩
    rw [← eo]
    refine lpO2 (fun (v j : Int) => [some (vr 16), some (vr c), some (vl J), none, some (vi n), some (vi (p2 n - 1)), some (vi s), some (vi (pc s)), some (vi o), some (vl v), none, some (vi j)]) (fun _ _ => ρ) (fun _ j => 0 ≤ j ∧ j ≤ 8) (fun _ j => (8 - j).toNat) ?_ (-1) 0 ⟨by omega, by omega⟩
    rintro v j ⟨j1, j2⟩ ih2
    refine ok_iload 32 rfl rfl rfl (ok_iload 33 rfl rfl rfl (ok_icmp_ge 34 128 rfl rfl rfl (fun h59 => ?_) (fun h59 => ?_)))
    · refine ok_aload_n 74 rfl rfl rfl (ok_getR 75 rfl rfl fl_X0_15 rfl rfl (ok_iload 76 rfl rfl rfl (ok_lload 77 rfl rfl rfl (ok_last 78 rfl rfl rfl (by first | omega | (simp [up_if]; omega) | (simp [up_if] at *; omega)) (ok_inc6 79 rfl rfl rfl (by first | omega | (simp [up_if]; omega) | (simp [up_if] at *; omega)) (ok_goto 80 22 rfl rfl rfl ?_))))))
      exact ok_fg [some (vr 16), some (vr c), some (vl J), none, some (vi n), some (vi (p2 n - 1)), some (vi (s + -1)), none, none, none, none, none] ⟨rfl, rfl, rfl, rfl, rfl, rfl, trivial⟩ (ih (s + -1) _ ⟨by omega, by omega, fr_up f rfl⟩ (by omega))
    · have b := or8 (s := s) (j := j) ⟨by omega, by omega⟩ ⟨by omega, by omega⟩
      refine ok_iload 35 rfl rfl rfl (ok_iload 36 rfl rfl rfl (ok_ishr 37 rfl rfl (ok_iconst 38 rfl rfl (by decide) (ok_iand 39 rfl rfl (ok_if_eq 40 122 rfl rfl rfl (fun h69 => ?_) (fun h69 => ?_))))))
      · refine ok_inc11 72 rfl rfl rfl (by first | omega | (simp [up_if]; omega) | (simp [up_if] at *; omega)) (ok_goto 73 55 rfl rfl rfl ?_)
        exact ih2 _ (j + 1) ⟨by omega, by omega⟩ (by omega)
      · refine ok_aload_n 41 rfl rfl rfl (ok_getR 42 rfl rfl fl_X0_15 rfl rfl (ok_iload 43 rfl rfl rfl (ok_iconst 44 rfl rfl (by decide) (ok_iload 45 rfl rfl rfl (ok_ishl 46 rfl rfl (ok_ior 47 rfl rfl (ok_lald 48 rfl rfl rfl (by first | omega | (simp [up_if]; omega) | (simp [up_if] at *; omega)) (ok_ldc2 49 (-1) rfl rfl kc_X0_44 (by decide) (ok_lcmp_eq 50 51 122 rfl rfl rfl rfl rfl (fun h87 => ?_) (fun h87 => ?_))))))))))
        · refine ok_inc11 72 rfl rfl rfl (by first | omega | (simp [up_if]; omega) | (simp [up_if] at *; omega)) (ok_goto 73 55 rfl rfl rfl ?_)
          exact ih2 _ (j + 1) ⟨by omega, by omega⟩ (by omega)
        · refine ok_lload 52 rfl rfl rfl (ok_aload_n 53 rfl rfl rfl (ok_iload 54 rfl rfl rfl (ok_bipush 55 rfl rfl (by decide) (by decide) (ok_imul 56 rfl rfl (by first | omega | (simp [up_if]; omega) | (simp [up_if] at *; omega)) (ok_iload 57 rfl rfl rfl (ok_iadd 58 rfl rfl (by first | omega | (simp [up_if]; omega) | (simp [up_if] at *; omega)) (ok_iald 59 rfl rfl hs (by first | omega | (simp [up_if]; omega) | (simp [up_if] at *; omega)) (ok_i2l 60 rfl rfl (ok_aload_n 61 rfl rfl rfl (ok_getR 62 rfl rfl fl_X0_15 rfl rfl (ok_iload 63 rfl rfl rfl (ok_iconst 64 rfl rfl (by decide) (ok_iload 65 rfl rfl rfl (ok_ishl 66 rfl rfl (ok_ior 67 rfl rfl (ok_lald 68 rfl rfl rfl (by first | omega | (simp [up_if]; omega) | (simp [up_if] at *; omega)) (ok_laddW 69 rfl rfl (ok_mmaxL 70 rfl rfl ml_X0_52 ⟨Nat.le_of_ble_eq_true rfl, Nat.le_of_ble_eq_true rfl⟩ (ok_lst9 71 rfl rfl rfl (ok_inc11 72 rfl rfl rfl (by first | omega | (simp [up_if]; omega) | (simp [up_if] at *; omega)) (ok_goto 73 55 rfl rfl rfl ?_)))))))))))))))))))))
          exact ih2 _ (j + 1) ⟨by omega, by omega⟩ (by omega)
theorem s_Ch_richestColumn {σ : eS} {c : Nat} {r o u n : Int} (hs : nth shA c = some (1, 64, [])) (hr : 0 ≤ r ∧ r < 8) (hu : 0 ≤ u ∧ u < 256) (hn : n ≤ 8) : MtI shA M_Ch_richestColumn [vr 16, vr c, vi r, vi o, vi u, vi n] σ (fun σ' z => σ' = σ ∧ 0 ≤ z ∧ z ≤ 7) := by
  refine Mt.of okM_Ch_richestColumn (Nat.le_of_ble_eq_true rfl) (fun hk hg => ?_)
  refine ok_iconst 0 rfl rfl (by decide) (ok_ist6 1 rfl rfl rfl ?_)
  refine lpO (fun j : Int => [some (vr 16), some (vr c), some (vi r), some (vi o), some (vi u), some (vi n), some (vi j), none, none]) (fun _ => σ) (fun j => 0 ≤ j ∧ j ≤ 8) (fun j => (8 - j).toNat) ?_ 0 ⟨by omega, by omega⟩
  rintro j ⟨j1, j2⟩ ih
  refine ok_iload 2 rfl rfl rfl (ok_iload 3 rfl rfl rfl (ok_icmp_ge 4 75 rfl rfl rfl (fun h7 => ?_) (fun h7 => ?_)))
  · refine ok_iconst 44 rfl rfl (by decide) (ok_iret 45 rfl rfl rfl ?_)
    exact ⟨_, rfl, rfl, by omega, by omega⟩
  · have b := or8 hu (j := j) ⟨by omega, by omega⟩
    refine ok_iload_n 5 rfl rfl rfl (ok_iload 6 rfl rfl rfl (ok_ishr 7 rfl rfl (ok_iconst 8 rfl rfl (by decide) (ok_iand 9 rfl rfl (ok_if_eq 10 69 rfl rfl rfl (fun h16 => ?_) (fun h16 => ?_))))))
    · refine ok_inc6 42 rfl rfl rfl (by first | omega | (simp [up_if]; omega) | (simp [up_if] at *; omega)) (ok_goto 43 3 rfl rfl rfl ?_)
      exact ok_fg [some (vr 16), some (vr c), some (vi r), some (vi o), some (vi u), some (vi n), some (vi (j + 1)), none, none] ⟨rfl, rfl, rfl, rfl, rfl, rfl, rfl, trivial⟩ (ih (j + 1) ⟨by omega, by omega⟩ (by omega))
    · refine ok_aload_n 11 rfl rfl rfl (ok_getR 12 rfl rfl fl_X0_15 rfl rfl (ok_iload 13 rfl rfl rfl (ok_iconst 14 rfl rfl (by decide) (ok_iload 15 rfl rfl rfl (ok_ishl 16 rfl rfl (ok_ior 17 rfl rfl (ok_lald 18 rfl rfl rfl (by first | omega | (simp [up_if]; omega) | (simp [up_if] at *; omega)) (ok_lst7 19 rfl rfl rfl (ok_lload 20 rfl rfl rfl (ok_ldc2 21 (-1) rfl rfl kc_X0_44 (by decide) (ok_lcmp_eq 22 23 69 rfl rfl rfl rfl rfl (fun h38 => ?_) (fun h38 => ?_))))))))))))
      · refine ok_inc6 42 rfl rfl rfl (by first | omega | (simp [up_if]; omega) | (simp [up_if] at *; omega)) (ok_goto 43 3 rfl rfl rfl ?_)
        exact ok_fg [some (vr 16), some (vr c), some (vi r), some (vi o), some (vi u), some (vi n), some (vi (j + 1)), none, none] ⟨rfl, rfl, rfl, rfl, rfl, rfl, rfl, trivial⟩ (ih (j + 1) ⟨by omega, by omega⟩ (by omega))
      · refine ok_aload_n 24 rfl rfl rfl (ok_iload_n 25 rfl rfl rfl (ok_bipush 26 rfl rfl (by decide) (by decide) (ok_imul 27 rfl rfl (by first | omega | (simp [up_if]; omega) | (simp [up_if] at *; omega)) (ok_iload 28 rfl rfl rfl (ok_iadd 29 rfl rfl (by first | omega | (simp [up_if]; omega) | (simp [up_if] at *; omega)) (ok_iald 30 rfl rfl hs (by first | omega | (simp [up_if]; omega) | (simp [up_if] at *; omega)) (ok_i2l 31 rfl rfl (ok_lload 32 rfl rfl rfl (ok_laddW 33 rfl rfl (ok_aload_n 34 rfl rfl rfl (ok_getR 35 rfl rfl fl_X0_15 rfl rfl (ok_iload 36 rfl rfl rfl (ok_lald 37 rfl rfl rfl (by first | omega | (simp [up_if]; omega) | (simp [up_if] at *; omega)) (ok_lcmp_ne 38 39 69 rfl rfl rfl rfl rfl (fun h62 => ?_) (fun h62 => ?_)))))))))))))))
        · refine ok_inc6 42 rfl rfl rfl (by first | omega | (simp [up_if]; omega) | (simp [up_if] at *; omega)) (ok_goto 43 3 rfl rfl rfl ?_)
          exact ok_fg [some (vr 16), some (vr c), some (vi r), some (vi o), some (vi u), some (vi n), some (vi (j + 1)), none, none] ⟨rfl, rfl, rfl, rfl, rfl, rfl, rfl, trivial⟩ (ih (j + 1) ⟨by omega, by omega⟩ (by omega))
        · refine ok_iload 40 rfl rfl rfl (ok_iret 41 rfl rfl rfl ?_)
          exact ⟨_, rfl, rfl, by omega, by omega⟩
theorem s_Ch_findRichest {σ : eS} {c : Nat} {J n : Int} (hs : nth shA c = some (1, 64, [])) (hC : iCh σ) (hn : 0 ≤ n ∧ n ≤ 8) : MtL shA M_Ch_findRichest [vr 16, vr c, vl J, vi n] σ (fun σ' _ => fr rgCh σ σ' ∧ iCh σ' ∧ mkS 0 σ σ') := by
  refine Mt.of okM_Ch_findRichest (Nat.le_of_ble_eq_true rfl) (fun hk hg => ?_)
  have r0 : ∀ {ρ : eS}, fr (fun c _ => c = 17 ∨ c = 18) σ ρ → fr rgCh σ ρ ∧ mkS 0 σ ρ := fun {ρ} f => ⟨f.mono (fun c k q => by simp only [rgCh]; omega), mkS_fr (by decide) f (by omega) (fun k => by omega)⟩
  refine ok_aload_n 0 rfl rfl rfl (ok_aload_n 1 rfl rfl rfl (ok_lload_n 2 rfl rfl rfl (ok_iload 3 rfl rfl rfl (ok_callVV (M' := M_Ch_sumUp) (as := [_, _, _]) 4 rfl rfl ml_X0_55 (s_Ch_sumUp hs hn) rfl rfl (Nat.le_of_ble_eq_true rfl) ⟨Nat.le_of_ble_eq_true rfl, Nat.le_of_ble_eq_true rfl⟩ rfl (Nat.le_of_ble_eq_true rfl) (fun τ f => ?_)))))
  have f0 : fr (fun c _ => c = 17 ∨ c = 18) σ τ := f.mono (fun c k q => by omega)
  have hC0 : iCh τ := iCh_cg hC (fun k => f _ _ (by simp))
  refine ok_aload_n 5 rfl rfl rfl (ok_getR 6 rfl rfl fl_X0_15 rfl rfl (ok_iconst 7 rfl rfl (by decide) (ok_lald 8 rfl rfl rfl (by first | omega | (simp [up_if]; omega) | (simp [up_if] at *; omega)) (ok_ldc2 9 (-1) rfl rfl kc_X0_44 (by decide) (ok_lcmp_ne 10 11 25 rfl rfl rfl rfl rfl (fun h17 => ?_) (fun h17 => ?_))))))
  · refine ok_iconst 14 rfl rfl (by decide) (ok_ist5 15 rfl rfl rfl (ok_iconst 16 rfl rfl (by decide) (ok_ist6 17 rfl rfl rfl ?_)))
    refine lpO3 (fun (u r : Int) (_ : eS) => [some (vr 16), some (vr c), some (vl J), none, some (vi n), some (vi u), some (vi r), none]) (fun _ _ ρ => ρ) (fun u r ρ => 0 ≤ u ∧ u < 256 ∧ 0 ≤ r ∧ r ≤ 8 ∧ fr (fun c _ => c = 17 ∨ c = 18) σ ρ ∧ iCh ρ) (fun _ r _ => (8 - r).toNat) ?_ 0 0 τ ⟨by omega, by omega, by omega, by omega, f0, hC0⟩
    rintro u r ρ ⟨u1, u2, r1, r2, f1, hC1⟩ ih
    refine ok_iload 18 rfl rfl rfl (ok_iload 19 rfl rfl rfl (ok_icmp_ge 20 86 rfl rfl rfl (fun h35 => ?_) (fun h35 => ?_)))
    · refine ok_aload_n 48 rfl rfl rfl (ok_getR 49 rfl rfl fl_X0_15 rfl rfl (ok_iconst 50 rfl rfl (by decide) (ok_lald 51 rfl rfl rfl (by first | omega | (simp [up_if]; omega) | (simp [up_if] at *; omega)) (ok_lret 52 rfl rfl rfl ?_))))
      exact ⟨_, rfl, (r0 f1).1, hC1, (r0 f1).2⟩
    · refine ok_aload_n 21 rfl rfl rfl (ok_aload_n 22 rfl rfl rfl (ok_iload 23 rfl rfl rfl (ok_lload_n 24 rfl rfl rfl (ok_iload 25 rfl rfl rfl (ok_callSI (M' := M_Jo_rowOf) (as := [_, _]) 26 rfl rfl ml_X0_26 (s_Jo_rowOf) ⟨Nat.le_of_ble_eq_true rfl, Nat.le_of_ble_eq_true rfl⟩ rfl (Nat.le_of_ble_eq_true rfl) (fun σ' z hz => ?_))))))
      rw [hz.1, hz.2]
      clear hz z σ'
      refine ok_iload 27 rfl rfl rfl (ok_iconst 28 rfl rfl (by decide) (ok_ixor 29 rfl rfl (ok_iand 30 rfl rfl (ok_iload 31 rfl rfl rfl (ok_iload 32 rfl rfl rfl (ok_callVI (M' := M_Ch_richestColumn) (as := [_, _, _, _, _]) 33 rfl rfl ml_X0_59 (s_Ch_richestColumn hs ⟨by omega, by omega⟩ ⟨u1, u2⟩ hn.2) rfl rfl (Nat.le_of_ble_eq_true rfl) ⟨Nat.le_of_ble_eq_true rfl, Nat.le_of_ble_eq_true rfl⟩ rfl (Nat.le_of_ble_eq_true rfl) (fun σ' z hz => ?_)))))))
      obtain ⟨hs_, hz⟩ := hz
      rw [hs_]; clear hs_ σ'
      refine ok_ist7 34 rfl rfl rfl (ok_aload_n 35 rfl rfl rfl (ok_getR 36 rfl rfl fl_X0_9 rfl rfl (ok_iload 37 rfl rfl rfl (ok_iload 38 rfl rfl rfl (ok_iast 39 rfl rfl rfl (by first | omega | (simp [up_if]; omega) | (simp [up_if] at *; omega)) (ok_iload 40 rfl rfl rfl (ok_iconst 41 rfl rfl (by decide) (ok_iload 42 rfl rfl rfl (ok_ishl 43 rfl rfl (ok_ior 44 rfl rfl (ok_ist5 45 rfl rfl rfl (ok_inc6 46 rfl rfl rfl (by first | omega | (simp [up_if]; omega) | (simp [up_if] at *; omega)) (ok_goto 47 31 rfl rfl rfl ?_)))))))))))))
      have b := or8 ⟨u1, u2⟩ (j := z) ⟨by omega, by omega⟩
      exact ok_fg [some (vr 16), some (vr c), some (vl J), none, some (vi n), some (vi _), some (vi (r + 1)), none] ⟨rfl, rfl, rfl, rfl, rfl, rfl, trivial⟩ (ih _ (r + 1) _ ⟨b.1, b.2, by omega, by omega, fr_up f1 (Or.inl rfl), up_ch hC1 hz⟩ (by omega))
  · refine ok_ldc2 12 (-1) rfl rfl kc_X0_44 (by decide) (ok_lret 13 rfl rfl rfl ?_)
    exact ⟨_, rfl, (r0 f0).1, hC0, (r0 f0).2⟩
