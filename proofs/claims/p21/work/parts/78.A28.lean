/-! rounding -/
abbrev rgRo : Nat → Int → Prop := fun c _ => 41 ≤ c ∧ c ≤ 45
theorem s_Ro_isOpen {σ : eS} {f t : Int} (hf : 0 ≤ f ∧ f < 18) (ht : 0 ≤ t ∧ t < 18) : MtI shA M_Ro_isOpen [vr 40, vi f, vi t] σ (fun σ' z => σ' = σ ∧ (z = 0 ∨ z = 1)) := by
  refine Mt.of okM_Ro_isOpen (Nat.le_of_ble_eq_true rfl) (fun hk hg => ?_)
  refine ok_iload_n 0 rfl rfl rfl (ok_bipush 1 rfl rfl (by decide) (by decide) (ok_imul 2 rfl rfl (by first | omega | (simp [up_if]; omega) | (simp [up_if] at *; omega)) (ok_iload_n 3 rfl rfl rfl (ok_iadd 4 rfl rfl (by first | omega | (simp [up_if]; omega) | (simp [up_if] at *; omega)) (ok_ist3 5 rfl rfl rfl (ok_iload_n 6 rfl rfl rfl (ok_bipush 7 rfl rfl (by decide) (by decide) (ok_imul 8 rfl rfl (by first | omega | (simp [up_if]; omega) | (simp [up_if] at *; omega)) (ok_iload_n 9 rfl rfl rfl (ok_iadd 10 rfl rfl (by first | omega | (simp [up_if]; omega) | (simp [up_if] at *; omega)) (ok_ist4 11 rfl rfl rfl (ok_aload_n 12 rfl rfl rfl (ok_getR 13 rfl rfl fl_X6_11 rfl rfl (ok_iload_n 14 rfl rfl rfl (ok_iald 15 rfl rfl rfl (by first | omega | (simp [up_if]; omega) | (simp [up_if] at *; omega)) (ok_aload_n 16 rfl rfl rfl (ok_getR 17 rfl rfl fl_X6_18 rfl rfl (ok_iload_n 18 rfl rfl rfl (ok_iald 19 rfl rfl rfl (by first | omega | (simp [up_if]; omega) | (simp [up_if] at *; omega)) (ok_icmp_lt 20 47 rfl rfl rfl (fun h27 => ?_) (fun h27 => ?_)))))))))))))))))))))
  · refine ok_iconst 30 rfl rfl (by decide) (ok_goto 31 52 rfl rfl rfl (ok_zret 33 rfl rfl rfl (by first | omega | (simp [up_if]; omega) | (simp [up_if] at *; omega)) ?_))
    exact ⟨_, rfl, rfl, by omega⟩
  · refine ok_aload_n 21 rfl rfl rfl (ok_getR 22 rfl rfl fl_X6_11 rfl rfl (ok_iload 23 rfl rfl rfl (ok_iald 24 rfl rfl rfl (by first | omega | (simp [up_if]; omega) | (simp [up_if] at *; omega)) (ok_aload_n 25 rfl rfl rfl (ok_getR 26 rfl rfl fl_X6_15 rfl rfl (ok_iload 27 rfl rfl rfl (ok_iald 28 rfl rfl rfl (by first | omega | (simp [up_if]; omega) | (simp [up_if] at *; omega)) (ok_icmp_le 29 51 rfl rfl rfl (fun h44 => ?_) (fun h44 => ?_)))))))))
    · refine ok_iconst 32 rfl rfl (by decide) (ok_zret 33 rfl rfl rfl (by first | omega | (simp [up_if]; omega) | (simp [up_if] at *; omega)) ?_)
      exact ⟨_, rfl, rfl, by omega⟩
    · refine ok_iconst 30 rfl rfl (by decide) (ok_goto 31 52 rfl rfl rfl (ok_zret 33 rfl rfl rfl (by first | omega | (simp [up_if]; omega) | (simp [up_if] at *; omega)) ?_))
      exact ⟨_, rfl, rfl, by omega⟩
def BW (σ : eS) : Prop := ∀ k : Int, 0 ≤ k → k < 18 → σ 44 k ≠ -1 → 0 ≤ σ 44 k ∧ σ 44 k < 18 ∧ σ 44 (σ 44 k) ≠ -1
def BQ (σ : eS) (s : Int) : Prop := ∀ k : Int, 0 ≤ k → k < s → 0 ≤ σ 45 k ∧ σ 45 k < 18 ∧ σ 44 (σ 45 k) ≠ -1
theorem BW_up {σ : eS} {n v : Int} (h : BW σ) (hn : σ 44 n = -1) (hv : 0 ≤ v ∧ v < 18) (hv2 : σ 44 v ≠ -1) : BW (up σ 44 n v) := by
  have key : ∀ x, σ 44 x ≠ -1 → up σ 44 n v 44 x ≠ -1 := fun x hx => by
    rw [up_nk _ _ _ _ (fun e => hx (by rw [e]; exact hn))]; exact hx
  intro k a b c
  by_cases q : k = n
  · subst q
    rw [up_same]
    exact ⟨hv.1, hv.2, key v hv2⟩
  · rw [up_nk _ _ _ _ q] at c ⊢
    obtain ⟨x, y, z⟩ := h k a b c
    exact ⟨x, y, key _ z⟩
theorem BQ_up {σ : eS} {n v s : Int} (h : BQ σ s) (hn : σ 44 n = -1) : BQ (up σ 44 n v) s := fun k a b => by
  obtain ⟨x, y, z⟩ := h k a b
  rw [up_ne _ _ _ _ (by decide : (45 : Nat) ≠ 44)]
  refine ⟨x, y, ?_⟩
  rw [up_nk _ _ _ _ (fun e => z (by rw [e]; exact hn))]
  exact z
theorem s_Ro_findWay {σ : eS} {a b : Int} (ha : 0 ≤ a ∧ a < 18) (hb : 0 ≤ b ∧ b < 18) : MtI shA M_Ro_findWay [vr 40, vi a, vi b] σ (fun σ' z => fr rgRo σ σ' ∧ (z = 0 ∨ (z = 1 ∧ BW σ' ∧ σ' 44 b ≠ -1))) := by
  refine Mt.of okM_Ro_findWay (Nat.le_of_ble_eq_true rfl) (fun hk hg => ?_)
  refine ok_aload_n 0 rfl rfl rfl (ok_getR 1 rfl rfl fl_X6_21 rfl rfl (ok_iconst 2 rfl rfl (by decide) (ok_callSV (M' := M_Ja_fill) (as := [_, _]) 3 rfl rfl ml_X6_53 (s_Ja_fill (c := 44) (N := 18) rfl (by decide)) ⟨Nat.le_of_ble_eq_true rfl, Nat.le_of_ble_eq_true rfl⟩ rfl (Nat.le_of_ble_eq_true rfl) (fun τ g => ?_))))
  refine ok_aload_n 4 rfl rfl rfl (ok_getR 5 rfl rfl fl_X6_21 rfl rfl (ok_iload_n 6 rfl rfl rfl (ok_iload_n 7 rfl rfl rfl (ok_iast 8 rfl rfl rfl (by first | omega | (simp [up_if]; omega) | (simp [up_if] at *; omega)) (ok_aload_n 9 rfl rfl rfl (ok_getR 10 rfl rfl fl_X6_24 rfl rfl (ok_iconst 11 rfl rfl (by decide) (ok_iload_n 12 rfl rfl rfl (ok_iast 13 rfl rfl rfl (by first | omega | (simp [up_if]; omega) | (simp [up_if] at *; omega)) (ok_iconst 14 rfl rfl (by decide) (ok_ist3 15 rfl rfl rfl (ok_iconst 16 rfl rfl (by decide) (ok_ist4 17 rfl rfl rfl ?_)))))))))))))
  obtain ⟨υ, eυ⟩ : ∃ υ, υ = up (up τ 44 a a) 45 0 a := ⟨_, rfl⟩
  rw [← eυ]
  have f0 : fr rgRo σ υ := by rw [eυ]; exact fr_up (fr_up (g.1.mono (fun c k w => by simp only [rgRo]; omega)) (by simp [rgRo])) (by simp [rgRo])
  have e44 : ∀ k, k ≠ a → 0 ≤ k → k < 18 → υ 44 k = -1 := fun k q x y => by rw [eυ, up_ne _ _ _ _ (by decide), up_nk _ _ _ _ q]; exact g.2 k x (by omega)
  have e44a : υ 44 a = a := by rw [eυ, up_ne _ _ _ _ (by decide), up_same]
  have e45 : υ 45 0 = a := by rw [eυ, up_same]
  have w0 : BW υ := fun k x y z => by
    by_cases q : k = a
    · subst q; rw [e44a, e44a]; omega
    · exact absurd (e44 k q x y) z
  have q0 : BQ υ 1 := fun k x y => by rw [show k = 0 by omega, e45, e44a]; omega
  clear e44 e44a e45 eυ g τ
  refine lpO3 (fun (s i : Int) (_ : eS) => [some (vr 40), some (vi a), some (vi b), some (vi s), some (vi i), none]) (fun _ _ ρ => ρ) (fun s i ρ => 1 ≤ s ∧ s ≤ 18 ∧ 0 ≤ i ∧ i ≤ 18 ∧ fr rgRo σ ρ ∧ BW ρ ∧ BQ ρ s) (fun _ i _ => (18 - i).toNat) ?_ 1 0 υ ⟨by omega, by omega, by omega, by omega, f0, w0, q0⟩
  clear f0 w0 q0 υ
  rintro s i ρ ⟨s1, s2, i1, i2, f, w, q⟩ ih
  refine ok_iload 18 rfl rfl rfl (ok_iload_n 19 rfl rfl rfl (ok_icmp_ge 20 128 rfl rfl rfl (fun h30 => ?_) (fun h30 => ?_)))
  · refine ok_iconst 69 rfl rfl (by decide) (ok_zret 70 rfl rfl rfl (by first | omega | (simp [up_if]; omega) | (simp [up_if] at *; omega)) ?_)
    exact ⟨_, rfl, f, Or.inl rfl⟩
  · refine ok_iload 21 rfl rfl rfl (ok_bipush 22 rfl rfl (by decide) (by decide) (ok_icmp_ge 23 128 rfl rfl rfl (fun h37 => ?_) (fun h37 => ?_)))
    · refine ok_iconst 69 rfl rfl (by decide) (ok_zret 70 rfl rfl rfl (by first | omega | (simp [up_if]; omega) | (simp [up_if] at *; omega)) ?_)
      exact ⟨_, rfl, f, Or.inl rfl⟩
    · refine ok_iconst 24 rfl rfl (by decide) (ok_ist5 25 rfl rfl rfl ?_)
      have il : i < s := by omega
      refine lpO3 (fun (s j : Int) (_ : eS) => [some (vr 40), some (vi a), some (vi b), some (vi s), some (vi i), some (vi j)]) (fun _ _ ρ => ρ) (fun s j ρ => i < s ∧ s ≤ 18 ∧ 0 ≤ j ∧ j ≤ 18 ∧ fr rgRo σ ρ ∧ BW ρ ∧ BQ ρ s) (fun _ j _ => (18 - j).toNat) ?_ s 0 ρ ⟨by omega, by omega, by omega, by omega, f, w, q⟩
      clear f w q ρ s1 s2 il h30 s
      rintro s j ρ ⟨s1, s2, j1, j2, f, w, q⟩ ih2
      refine ok_iload 26 rfl rfl rfl (ok_bipush 27 rfl rfl (by decide) (by decide) (ok_icmp_ge 28 122 rfl rfl rfl (fun h47 => ?_) (fun h47 => ?_)))
      · refine ok_inc4 67 rfl rfl rfl (by first | omega | (simp [up_if]; omega) | (simp [up_if] at *; omega)) (ok_goto 68 27 rfl rfl rfl ?_)
        exact ok_fg [some (vr 40), some (vi a), some (vi b), some (vi s), some (vi (i + 1)), none] ⟨rfl, rfl, rfl, rfl, rfl, trivial⟩ (ih s (i + 1) ρ ⟨by omega, by omega, by omega, by omega, f, w, q⟩ (by omega))
      · refine ok_iload_n 29 rfl rfl rfl (ok_bipush 30 rfl rfl (by decide) (by decide) (ok_icmp_ge 31 122 rfl rfl rfl (fun h53 => ?_) (fun h53 => ?_)))
        · refine ok_inc4 67 rfl rfl rfl (by first | omega | (simp [up_if]; omega) | (simp [up_if] at *; omega)) (ok_goto 68 27 rfl rfl rfl ?_)
          exact ok_fg [some (vr 40), some (vi a), some (vi b), some (vi s), some (vi (i + 1)), none] ⟨rfl, rfl, rfl, rfl, rfl, trivial⟩ (ih s (i + 1) ρ ⟨by omega, by omega, by omega, by omega, f, w, q⟩ (by omega))
        · obtain ⟨v1, v2, v3⟩ := q i i1 s1
          refine ok_aload_n 32 rfl rfl rfl (ok_getR 33 rfl rfl fl_X6_21 rfl rfl (ok_iload 34 rfl rfl rfl (ok_iald 35 rfl rfl rfl (by first | omega | (simp [up_if]; omega) | (simp [up_if] at *; omega)) (ok_iconst 36 rfl rfl (by decide) (ok_icmp_ne 37 116 rfl rfl rfl (fun h64 => ?_) (fun h64 => ?_))))))
          · refine ok_inc5 65 rfl rfl rfl (by first | omega | (simp [up_if]; omega) | (simp [up_if] at *; omega)) (ok_goto 66 43 rfl rfl rfl ?_)
            exact ih2 s (j + 1) ρ ⟨by omega, by omega, by omega, by omega, f, w, q⟩ (by omega)
          · refine ok_aload_n 38 rfl rfl rfl (ok_aload_n 39 rfl rfl rfl (ok_getR 40 rfl rfl fl_X6_24 rfl rfl (ok_iload 41 rfl rfl rfl (ok_iald 42 rfl rfl rfl (by first | omega | (simp [up_if]; omega) | (simp [up_if] at *; omega)) (ok_iload 43 rfl rfl rfl (ok_callVI (M' := M_Ro_isOpen) (as := [_, _]) 44 rfl rfl ml_X6_80 (s_Ro_isOpen ⟨v1, v2⟩ ⟨by omega, by omega⟩) rfl rfl (Nat.le_of_ble_eq_true rfl) ⟨Nat.le_of_ble_eq_true rfl, Nat.le_of_ble_eq_true rfl⟩ rfl (Nat.le_of_ble_eq_true rfl) (fun σ' z hz => ?_)))))))
            obtain ⟨hs_, hz⟩ := hz
            rw [hs_]; clear hs_ σ'
            refine ok_if_eq 45 116 rfl rfl rfl (fun h80 => ?_) (fun h80 => ?_)
            · refine ok_inc5 65 rfl rfl rfl (by first | omega | (simp [up_if]; omega) | (simp [up_if] at *; omega)) (ok_goto 66 43 rfl rfl rfl ?_)
              exact ih2 s (j + 1) ρ ⟨by omega, by omega, by omega, by omega, f, w, q⟩ (by omega)
            · refine ok_aload_n 46 rfl rfl rfl (ok_getR 47 rfl rfl fl_X6_21 rfl rfl (ok_iload 48 rfl rfl rfl (ok_aload_n 49 rfl rfl rfl (ok_getR 50 rfl rfl fl_X6_24 rfl rfl (ok_iload 51 rfl rfl rfl (ok_iald 52 rfl rfl rfl (by first | omega | (simp [up_if]; omega) | (simp [up_if] at *; omega)) (ok_iast 53 rfl rfl rfl (by first | omega | (simp [up_if]; omega) | (simp [up_if] at *; omega)) ?_)))))))
              have W := BW_up w h64 ⟨v1, v2⟩ v3
              have F : fr rgRo σ (up ρ 44 j (ρ 45 i)) := fr_up f (by simp [rgRo])
              have Q := BQ_up (v := ρ 45 i) q h64
              have nj : up ρ 44 j (ρ 45 i) 44 j ≠ -1 := by rw [up_same]; omega
              obtain ⟨υ, eυ⟩ : ∃ υ, υ = up ρ 44 j (ρ 45 i) := ⟨_, rfl⟩
              rw [← eυ] at W F Q nj ⊢
              clear eυ
              refine ok_iload 54 rfl rfl rfl (ok_iload_n 55 rfl rfl rfl (ok_icmp_ne 56 105 rfl rfl rfl (fun h100 => ?_) (fun h100 => ?_)))
              · refine ok_aload_n 59 rfl rfl rfl (ok_getR 60 rfl rfl fl_X6_24 rfl rfl (ok_iload_n 61 rfl rfl rfl (ok_iload 62 rfl rfl rfl (ok_iast 63 rfl rfl rfl (by first | omega | (simp [up_if]; omega) | (simp [up_if] at *; omega)) (ok_inc3 64 rfl rfl rfl (by first | omega | (simp [up_if]; omega) | (simp [up_if] at *; omega)) (ok_inc5 65 rfl rfl rfl (by first | omega | (simp [up_if]; omega) | (simp [up_if] at *; omega)) (ok_goto 66 43 rfl rfl rfl ?_)))))))
                refine ih2 (s + 1) (j + 1) _ ⟨by omega, by omega, by omega, by omega, fr_up F (by simp [rgRo]), ?_, ?_⟩ (by omega)
                · intro k x y z
                  rw [up_ne _ _ _ _ (by decide : (44 : Nat) ≠ 45)] at z ⊢
                  rw [up_ne _ _ _ _ (by decide : (44 : Nat) ≠ 45)]
                  exact W k x y z
                · intro k x y
                  rw [up_ne _ _ _ _ (by decide : (44 : Nat) ≠ 45)]
                  by_cases u : k = s
                  · rw [u, up_same]; exact ⟨by omega, by omega, nj⟩
                  · rw [up_nk _ _ _ _ u]; exact Q k x (by omega)
              · refine ok_iconst 57 rfl rfl (by decide) (ok_zret 58 rfl rfl rfl (by first | omega | (simp [up_if]; omega) | (simp [up_if] at *; omega)) ?_)
                exact ⟨_, rfl, F, Or.inr ⟨rfl, W, by rw [← h100]; exact nj⟩⟩
theorem s_Ro_flowAlong {σ : eS} {a b : Int} (hb : 0 ≤ b ∧ b < 18) (hW : BW σ) (h0 : σ 44 b ≠ -1) : MtV shA M_Ro_flowAlong [vr 40, vi a, vi b] σ (fun σ' => fr rgRo σ σ') := by
  refine Mt.of okM_Ro_flowAlong (Nat.le_of_ble_eq_true rfl) (fun hk hg => ?_)
  refine ok_iload_n 0 rfl rfl rfl (ok_ist3 1 rfl rfl rfl (ok_iconst 2 rfl rfl (by decide) (ok_ist4 3 rfl rfl rfl ?_)))
  refine lpO3 (fun (n i : Int) (_ : eS) => [some (vr 40), some (vi a), some (vi b), some (vi n), some (vi i), none]) (fun _ _ ρ => ρ) (fun n i ρ => 0 ≤ n ∧ n < 18 ∧ 0 ≤ i ∧ i ≤ 18 ∧ fr (fun c _ => c = 41) σ ρ ∧ σ 44 n ≠ -1) (fun _ i _ => (18 - i).toNat) ?_ b 0 σ ⟨by omega, by omega, by omega, by omega, fr.rf, h0⟩
  rintro n i ρ ⟨n1, n2, i1, i2, f, hq⟩ ih
  obtain ⟨x, y, z⟩ := hW n n1 n2 hq
  have e : ∀ k, ρ 44 k = σ 44 k := fun k => f 44 k (by simp)
  have en := e n
  have t2 : ∀ ρ' : eS, fr (fun c _ => c = 41) σ ρ' → i < 18 → Ok shA M_Ro_flowAlong 81 [some (vr 40), some (vi a), some (vi b), some (vi n), some (vi i), some (vi (ρ 44 n * 18 + n))] [] ρ' (fun σ' v => v = none ∧ fr rgRo σ σ') := by
    intro ρ' f' il
    have e' : ρ' 44 n = σ 44 n := f' 44 n (by simp)
    refine ok_aload_n 52 rfl rfl rfl (ok_getR 53 rfl rfl fl_X6_21 rfl rfl (ok_iload_n 54 rfl rfl rfl (ok_iald 55 rfl rfl rfl (by first | omega | (simp [up_if]; omega) | (simp [up_if] at *; omega)) (ok_ist3 56 rfl rfl rfl (ok_inc4 57 rfl rfl rfl (by first | omega | (simp [up_if]; omega) | (simp [up_if] at *; omega)) (ok_goto 58 5 rfl rfl rfl ?_))))))
    rw [e']
    exact ok_fg [some (vr 40), some (vi a), some (vi b), some (vi _), some (vi (i + 1)), none] ⟨rfl, rfl, rfl, rfl, rfl, trivial⟩ (ih (σ 44 n) (i + 1) ρ' ⟨x, y, by omega, by omega, f', z⟩ (by omega))
  refine ok_iload 4 rfl rfl rfl (ok_bipush 5 rfl rfl (by decide) (by decide) (ok_icmp_ge 6 94 rfl rfl rfl (fun h9 => ?_) (fun h9 => ?_)))
  · refine ok_vret 59 rfl rfl rfl ?_
    exact ⟨rfl, f.mono (fun c k w => by simp only [rgRo]; omega)⟩
  · refine ok_iload_n 7 rfl rfl rfl (ok_iload_n 8 rfl rfl rfl (ok_icmp_eq 9 94 rfl rfl rfl (fun h14 => ?_) (fun h14 => ?_)))
    · refine ok_vret 59 rfl rfl rfl ?_
      exact ⟨rfl, f.mono (fun c k w => by simp only [rgRo]; omega)⟩
    · refine ok_aload_n 10 rfl rfl rfl (ok_getR 11 rfl rfl fl_X6_21 rfl rfl (ok_iload_n 12 rfl rfl rfl (ok_iald 13 rfl rfl rfl (by first | omega | (simp [up_if]; omega) | (simp [up_if] at *; omega)) (ok_bipush 14 rfl rfl (by decide) (by decide) (ok_imul 15 rfl rfl (by first | omega | (simp [up_if]; omega) | (simp [up_if] at *; omega)) (ok_iload_n 16 rfl rfl rfl (ok_iadd 17 rfl rfl (by first | omega | (simp [up_if]; omega) | (simp [up_if] at *; omega)) (ok_ist5 18 rfl rfl rfl (ok_aload_n 19 rfl rfl rfl (ok_getR 20 rfl rfl fl_X6_11 rfl rfl (ok_iload 21 rfl rfl rfl (ok_iald 22 rfl rfl rfl (by first | omega | (simp [up_if]; omega) | (simp [up_if] at *; omega)) (ok_aload_n 23 rfl rfl rfl (ok_getR 24 rfl rfl fl_X6_18 rfl rfl (ok_iload 25 rfl rfl rfl (ok_iald 26 rfl rfl rfl (by first | omega | (simp [up_if]; omega) | (simp [up_if] at *; omega)) (ok_icmp_ge 27 61 rfl rfl rfl (fun h44 => ?_) (fun h44 => ?_))))))))))))))))))
      · refine ok_aload_n 37 rfl rfl rfl (ok_getR 38 rfl rfl fl_X6_11 rfl rfl (ok_iload_n 39 rfl rfl rfl (ok_bipush 40 rfl rfl (by decide) (by decide) (ok_imul 41 rfl rfl (by first | omega | (simp [up_if]; omega) | (simp [up_if] at *; omega)) (ok_aload_n 42 rfl rfl rfl (ok_getR 43 rfl rfl fl_X6_21 rfl rfl (ok_iload_n 44 rfl rfl rfl (ok_iald 45 rfl rfl rfl (by first | omega | (simp [up_if]; omega) | (simp [up_if] at *; omega)) (ok_iadd 46 rfl rfl (by first | omega | (simp [up_if]; omega) | (simp [up_if] at *; omega)) (ok_dup2 47 rfl rfl ⟨rfl, rfl⟩ (ok_iald 48 rfl rfl rfl (by first | omega | (simp [up_if]; omega) | (simp [up_if] at *; omega)) (ok_iconst 49 rfl rfl (by decide) (ok_isubW 50 rfl rfl (ok_iast 51 rfl rfl rfl (by first | omega | (simp [up_if]; omega) | (simp [up_if] at *; omega)) ?_))))))))))))))
        exact t2 _ (fr_up f rfl) (by omega)
      · refine ok_aload_n 28 rfl rfl rfl (ok_getR 29 rfl rfl fl_X6_11 rfl rfl (ok_iload 30 rfl rfl rfl (ok_dup2 31 rfl rfl ⟨rfl, rfl⟩ (ok_iald 32 rfl rfl rfl (by first | omega | (simp [up_if]; omega) | (simp [up_if] at *; omega)) (ok_iconst 33 rfl rfl (by decide) (ok_iaddW 34 rfl rfl (ok_iast 35 rfl rfl rfl (by first | omega | (simp [up_if]; omega) | (simp [up_if] at *; omega)) (ok_goto 36 81 rfl rfl rfl ?_))))))))
        exact t2 _ (fr_up f rfl) (by omega)
theorem s_Ro_meetLow {σ : eS} {a b : Int} (ha : 0 ≤ a ∧ a < 18) (hb : 0 ≤ b ∧ b < 18) : MtV shA M_Ro_meetLow [vr 40, vi a, vi b] σ (fun σ' => fr rgRo σ σ') := by
  refine Mt.of okM_Ro_meetLow (Nat.le_of_ble_eq_true rfl) (fun hk hg => ?_)
  refine ok_iload_n 0 rfl rfl rfl (ok_bipush 1 rfl rfl (by decide) (by decide) (ok_imul 2 rfl rfl (by first | omega | (simp [up_if]; omega) | (simp [up_if] at *; omega)) (ok_iload_n 3 rfl rfl rfl (ok_iadd 4 rfl rfl (by first | omega | (simp [up_if]; omega) | (simp [up_if] at *; omega)) (ok_ist3 5 rfl rfl rfl (ok_iconst 6 rfl rfl (by decide) (ok_ist4 7 rfl rfl rfl ?_)))))))
  refine lpO2 (fun (i : Int) (_ : eS) => [some (vr 40), some (vi a), some (vi b), some (vi (a * 18 + b)), some (vi i)]) (fun _ ρ => ρ) (fun i ρ => 0 ≤ i ∧ i ≤ 64 ∧ fr rgRo σ ρ) (fun i _ => (64 - i).toNat) ?_ 0 σ ⟨by omega, by omega, fr.rf⟩
  rintro i ρ ⟨i1, i2, f⟩ ih
  refine ok_iload 8 rfl rfl rfl (ok_bipush 9 rfl rfl (by decide) (by decide) (ok_icmp_ge 10 63 rfl rfl rfl (fun h14 => ?_) (fun h14 => ?_)))
  · refine ok_vret 39 rfl rfl rfl ?_
    exact ⟨rfl, f⟩
  · refine ok_aload_n 11 rfl rfl rfl (ok_getR 12 rfl rfl fl_X6_11 rfl rfl (ok_iload_n 13 rfl rfl rfl (ok_iald 14 rfl rfl rfl (by first | omega | (simp [up_if]; omega) | (simp [up_if] at *; omega)) (ok_aload_n 15 rfl rfl rfl (ok_getR 16 rfl rfl fl_X6_15 rfl rfl (ok_iload_n 17 rfl rfl rfl (ok_iald 18 rfl rfl rfl (by first | omega | (simp [up_if]; omega) | (simp [up_if] at *; omega)) (ok_icmp_ge 19 63 rfl rfl rfl (fun h29 => ?_) (fun h29 => ?_)))))))))
    · refine ok_vret 39 rfl rfl rfl ?_
      exact ⟨rfl, f⟩
    · refine ok_aload_n 20 rfl rfl rfl (ok_iload_n 21 rfl rfl rfl (ok_iload_n 22 rfl rfl rfl (ok_callVI (M' := M_Ro_findWay) (as := [_, _]) 23 rfl rfl ml_X6_73 (s_Ro_findWay hb ha) rfl rfl (Nat.le_of_ble_eq_true rfl) ⟨Nat.le_of_ble_eq_true rfl, Nat.le_of_ble_eq_true rfl⟩ rfl (Nat.le_of_ble_eq_true rfl) (fun τ z g => ?_))))
      refine ok_if_eq 24 57 rfl rfl rfl (fun h38 => ?_) (fun h38 => ?_)
      · refine ok_inc4 37 rfl rfl rfl (by first | omega | (simp [up_if]; omega) | (simp [up_if] at *; omega)) (ok_goto 38 10 rfl rfl rfl ?_)
        exact ih (i + 1) τ ⟨by omega, by omega, f.tr g.1⟩ (by omega)
      · have G : BW τ ∧ τ 44 a ≠ -1 := by rcases g.2 with q | q; exact absurd q h38; exact q.2
        refine ok_aload_n 25 rfl rfl rfl (ok_iload_n 26 rfl rfl rfl (ok_iload_n 27 rfl rfl rfl (ok_callVV (M' := M_Ro_flowAlong) (as := [_, _]) 28 rfl rfl ml_X6_77 (s_Ro_flowAlong ha G.1 G.2) rfl rfl (Nat.le_of_ble_eq_true rfl) ⟨Nat.le_of_ble_eq_true rfl, Nat.le_of_ble_eq_true rfl⟩ rfl (Nat.le_of_ble_eq_true rfl) (fun υ u => ?_))))
        refine ok_aload_n 29 rfl rfl rfl (ok_getR 30 rfl rfl fl_X6_11 rfl rfl (ok_iload_n 31 rfl rfl rfl (ok_dup2 32 rfl rfl ⟨rfl, rfl⟩ (ok_iald 33 rfl rfl rfl (by first | omega | (simp [up_if]; omega) | (simp [up_if] at *; omega)) (ok_iconst 34 rfl rfl (by decide) (ok_iaddW 35 rfl rfl (ok_iast 36 rfl rfl rfl (by first | omega | (simp [up_if]; omega) | (simp [up_if] at *; omega)) (ok_inc4 37 rfl rfl rfl (by first | omega | (simp [up_if]; omega) | (simp [up_if] at *; omega)) (ok_goto 38 10 rfl rfl rfl ?_)))))))))
        exact ih (i + 1) _ ⟨by omega, by omega, fr_up ((f.tr g.1).tr u) (by simp [rgRo])⟩ (by omega)
theorem s_Ro_meetLows {σ : eS} {n : Int} (hn : n ≤ 8) : MtV shA M_Ro_meetLows [vr 40, vi n] σ (fun σ' => fr rgRo σ σ') := by
  refine Mt.of okM_Ro_meetLows (Nat.le_of_ble_eq_true rfl) (fun hk hg => ?_)
  refine ok_iconst 0 rfl rfl (by decide) (ok_ist2 1 rfl rfl rfl ?_)
  refine lpO2 (fun (i : Int) (_ : eS) => [some (vr 40), some (vi n), some (vi i)]) (fun _ ρ => ρ) (fun i ρ => 0 ≤ i ∧ i ≤ 8 ∧ fr rgRo σ ρ) (fun i _ => (8 - i).toNat) ?_ 0 σ ⟨by omega, by omega, fr.rf⟩
  rintro i ρ ⟨i1, i2, f⟩ ih
  refine ok_iload_n 2 rfl rfl rfl (ok_iload_n 3 rfl rfl rfl (ok_icmp_ge 4 21 rfl rfl rfl (fun h4 => ?_) (fun h4 => ?_)))
  · refine ok_iconst 13 rfl rfl (by decide) (ok_ist2 14 rfl rfl rfl ?_)
    refine lpO2 (fun (i : Int) (_ : eS) => [some (vr 40), some (vi n), some (vi i)]) (fun _ ρ => ρ) (fun i ρ => 0 ≤ i ∧ i ≤ 8 ∧ fr rgRo σ ρ) (fun i _ => (8 - i).toNat) ?_ 0 ρ ⟨by omega, by omega, f⟩
    clear f ih i1 i2 h4 ρ i
    rintro i ρ ⟨i1, i2, f⟩ ih
    refine ok_iload_n 15 rfl rfl rfl (ok_iload_n 16 rfl rfl rfl (ok_icmp_ge 17 44 rfl rfl rfl (fun h25 => ?_) (fun h25 => ?_)))
    · refine ok_aload_n 26 rfl rfl rfl (ok_bipush 27 rfl rfl (by decide) (by decide) (ok_iconst 28 rfl rfl (by decide) (ok_callVV (M' := M_Ro_meetLow) (as := [_, _]) 29 rfl rfl ml_X6_69 (s_Ro_meetLow ⟨by omega, by omega⟩ ⟨by omega, by omega⟩) rfl rfl (Nat.le_of_ble_eq_true rfl) ⟨Nat.le_of_ble_eq_true rfl, Nat.le_of_ble_eq_true rfl⟩ rfl (Nat.le_of_ble_eq_true rfl) (fun τ g => ?_))))
      refine ok_vret 30 rfl rfl rfl ?_
      exact ⟨rfl, f.tr g⟩
    · refine ok_aload_n 18 rfl rfl rfl (ok_bipush 19 rfl rfl (by decide) (by decide) (ok_iload_n 20 rfl rfl rfl (ok_iadd 21 rfl rfl (by first | omega | (simp [up_if]; omega) | (simp [up_if] at *; omega)) (ok_bipush 22 rfl rfl (by decide) (by decide) (ok_callVV (M' := M_Ro_meetLow) (as := [_, _]) 23 rfl rfl ml_X6_69 (s_Ro_meetLow ⟨by omega, by omega⟩ ⟨by omega, by omega⟩) rfl rfl (Nat.le_of_ble_eq_true rfl) ⟨Nat.le_of_ble_eq_true rfl, Nat.le_of_ble_eq_true rfl⟩ rfl (Nat.le_of_ble_eq_true rfl) (fun τ g => ?_))))))
      refine ok_inc2 24 rfl rfl rfl (by first | omega | (simp [up_if]; omega) | (simp [up_if] at *; omega)) (ok_goto 25 23 rfl rfl rfl ?_)
      exact ih (i + 1) τ ⟨by omega, by omega, f.tr g⟩ (by omega)
  · refine ok_aload_n 5 rfl rfl rfl (ok_iconst 6 rfl rfl (by decide) (ok_iconst 7 rfl rfl (by decide) (ok_iload_n 8 rfl rfl rfl (ok_iadd 9 rfl rfl (by first | omega | (simp [up_if]; omega) | (simp [up_if] at *; omega)) (ok_callVV (M' := M_Ro_meetLow) (as := [_, _]) 10 rfl rfl ml_X6_69 (s_Ro_meetLow ⟨by omega, by omega⟩ ⟨by omega, by omega⟩) rfl rfl (Nat.le_of_ble_eq_true rfl) ⟨Nat.le_of_ble_eq_true rfl, Nat.le_of_ble_eq_true rfl⟩ rfl (Nat.le_of_ble_eq_true rfl) (fun τ g => ?_))))))
    refine ok_inc2 11 rfl rfl rfl (by first | omega | (simp [up_if]; omega) | (simp [up_if] at *; omega)) (ok_goto 12 2 rfl rfl rfl ?_)
    exact ih (i + 1) τ ⟨by omega, by omega, f.tr g⟩ (by omega)
theorem s_Ro_lessen {σ : eS} {n : Int} (hn : n ≤ 8) : MtL shA M_Ro_lessen [vr 40, vi n] σ (fun σ' _ => fr rgRo σ σ') := by
  refine Mt.of okM_Ro_lessen (Nat.le_of_ble_eq_true rfl) (fun hk hg => ?_)
  refine ok_lconst (w := 0) 0 rfl rfl rfl (by decide) (ok_lst2 1 rfl rfl rfl (ok_iconst 2 rfl rfl (by decide) (ok_ist4 3 rfl rfl rfl ?_)))
  refine lpO3 (fun (v i : Int) (_ : eS) => [some (vr 40), some (vi n), some (vl v), none, some (vi i), none, none]) (fun _ _ ρ => ρ) (fun _ i ρ => 0 ≤ i ∧ i ≤ 8 ∧ fr rgRo σ ρ) (fun _ i _ => (8 - i).toNat) ?_ 0 0 σ ⟨by omega, by omega, fr.rf⟩
  rintro v i ρ ⟨i1, i2, f⟩ ih
  refine ok_iload 4 rfl rfl rfl (ok_iload_n 5 rfl rfl rfl (ok_icmp_ge 6 148 rfl rfl rfl (fun h8 => ?_) (fun h8 => ?_)))
  · refine ok_lload_n 87 rfl rfl rfl (ok_lret 88 rfl rfl rfl ?_)
    exact ⟨_, rfl, f⟩
  · refine ok_iconst 7 rfl rfl (by decide) (ok_ist5 8 rfl rfl rfl ?_)
    refine lpO3 (fun (v j : Int) (_ : eS) => [some (vr 40), some (vi n), some (vl v), none, some (vi i), some (vi j), none]) (fun _ _ ρ => ρ) (fun _ j ρ => 0 ≤ j ∧ j ≤ 8 ∧ fr rgRo σ ρ) (fun _ j _ => (8 - j).toNat) ?_ v 0 ρ ⟨by omega, by omega, f⟩
    clear f ρ v
    rintro v j ρ ⟨j1, j2, f⟩ ih2
    have t2 : ∀ ρ' : eS, fr rgRo σ ρ' → i < 8 → j < 8 → Ok shA M_Ro_lessen 85 [some (vr 40), some (vi n), some (vl v), none, some (vi i), some (vi j), some (vi ((1 + i) * 18 + 9 + j))] [] ρ' (fun σ' v => ∃ z, v = some (vl z) ∧ fr rgRo σ σ') := by
      intro ρ' f' il jl
      refine ok_aload_n 52 rfl rfl rfl (ok_getR 53 rfl rfl fl_X6_15 rfl rfl (ok_iload 54 rfl rfl rfl (ok_aload_n 55 rfl rfl rfl (ok_getR 56 rfl rfl fl_X6_11 rfl rfl (ok_iload 57 rfl rfl rfl (ok_iald 58 rfl rfl rfl (by first | omega | (simp [up_if]; omega) | (simp [up_if] at *; omega)) (ok_iast 59 rfl rfl rfl (by first | omega | (simp [up_if]; omega) | (simp [up_if] at *; omega)) (ok_aload_n 60 rfl rfl rfl (ok_getR 61 rfl rfl fl_X6_18 rfl rfl (ok_iload 62 rfl rfl rfl (ok_aload_n 63 rfl rfl rfl (ok_getR 64 rfl rfl fl_X6_11 rfl rfl (ok_iload 65 rfl rfl rfl (ok_iald 66 rfl rfl rfl (by first | omega | (simp [up_if]; omega) | (simp [up_if] at *; omega)) (ok_iast 67 rfl rfl rfl (by first | omega | (simp [up_if]; omega) | (simp [up_if] at *; omega)) (ok_aload_n 68 rfl rfl rfl (ok_getR 69 rfl rfl fl_X6_11 rfl rfl (ok_iload 70 rfl rfl rfl (ok_iald 71 rfl rfl rfl (by first | omega | (simp [up_if]; omega) | (simp [up_if] at *; omega)) (ok_if_le 72 136 rfl rfl rfl (fun h120 => ?_) (fun h120 => ?_)))))))))))))))))))))
      · refine ok_inc5 83 rfl rfl rfl (by first | omega | (simp [up_if]; omega) | (simp [up_if] at *; omega)) (ok_goto 84 14 rfl rfl rfl ?_)
        exact ok_fg [some (vr 40), some (vi n), some (vl _), none, some (vi i), some (vi (j + 1)), none] ⟨rfl, rfl, rfl, rfl, rfl, trivial⟩ (ih2 _ (j + 1) _ ⟨by omega, by omega, fr_up (fr_up f' (by simp [rgRo])) (by simp [rgRo])⟩ (by omega))
      · refine ok_lload_n 73 rfl rfl rfl (ok_lconst (w := 1) 74 rfl rfl rfl (by decide) (ok_iload 75 rfl rfl rfl (ok_bipush 76 rfl rfl (by decide) (by decide) (ok_imul 77 rfl rfl (by first | omega | (simp [up_if]; omega) | (simp [up_if] at *; omega)) (ok_iload 78 rfl rfl rfl (ok_iadd 79 rfl rfl (by first | omega | (simp [up_if]; omega) | (simp [up_if] at *; omega)) (ok_lshl 80 rfl rfl (ok_lor 81 rfl rfl (ok_lst2 82 rfl rfl rfl (ok_inc5 83 rfl rfl rfl (by first | omega | (simp [up_if]; omega) | (simp [up_if] at *; omega)) (ok_goto 84 14 rfl rfl rfl ?_)))))))))))
        exact ok_fg [some (vr 40), some (vi n), some (vl _), none, some (vi i), some (vi (j + 1)), none] ⟨rfl, rfl, rfl, rfl, rfl, trivial⟩ (ih2 _ (j + 1) _ ⟨by omega, by omega, fr_up (fr_up f' (by simp [rgRo])) (by simp [rgRo])⟩ (by omega))
    refine ok_iload 9 rfl rfl rfl (ok_iload_n 10 rfl rfl rfl (ok_icmp_ge 11 142 rfl rfl rfl (fun h17 => ?_) (fun h17 => ?_)))
    · refine ok_inc4 85 rfl rfl rfl (by first | omega | (simp [up_if]; omega) | (simp [up_if] at *; omega)) (ok_goto 86 5 rfl rfl rfl ?_)
      exact ok_fg [some (vr 40), some (vi n), some (vl _), none, some (vi (i + 1)), none, none] ⟨rfl, rfl, rfl, rfl, trivial⟩ (ih _ (i + 1) ρ ⟨by omega, by omega, f⟩ (by omega))
    · refine ok_iconst 12 rfl rfl (by decide) (ok_iload 13 rfl rfl rfl (ok_iadd 14 rfl rfl (by first | omega | (simp [up_if]; omega) | (simp [up_if] at *; omega)) (ok_bipush 15 rfl rfl (by decide) (by decide) (ok_imul 16 rfl rfl (by first | omega | (simp [up_if]; omega) | (simp [up_if] at *; omega)) (ok_bipush 17 rfl rfl (by decide) (by decide) (ok_iadd 18 rfl rfl (by first | omega | (simp [up_if]; omega) | (simp [up_if] at *; omega)) (ok_iload 19 rfl rfl rfl (ok_iadd 20 rfl rfl (by first | omega | (simp [up_if]; omega) | (simp [up_if] at *; omega)) (ok_ist6 21 rfl rfl rfl (ok_aload_n 22 rfl rfl rfl (ok_getR 23 rfl rfl fl_X6_11 rfl rfl (ok_iload 24 rfl rfl rfl (ok_iald 25 rfl rfl rfl (by first | omega | (simp [up_if]; omega) | (simp [up_if] at *; omega)) (ok_if_le 26 85 rfl rfl rfl (fun h42 => ?_) (fun h42 => ?_)))))))))))))))
      · exact t2 ρ f (by omega) (by omega)
      · refine ok_aload_n 27 rfl rfl rfl (ok_iconst 28 rfl rfl (by decide) (ok_iload 29 rfl rfl rfl (ok_iadd 30 rfl rfl (by first | omega | (simp [up_if]; omega) | (simp [up_if] at *; omega)) (ok_bipush 31 rfl rfl (by decide) (by decide) (ok_iload 32 rfl rfl rfl (ok_iadd 33 rfl rfl (by first | omega | (simp [up_if]; omega) | (simp [up_if] at *; omega)) (ok_callVI (M' := M_Ro_findWay) (as := [_, _]) 34 rfl rfl ml_X6_73 (s_Ro_findWay ⟨by omega, by omega⟩ ⟨by omega, by omega⟩) rfl rfl (Nat.le_of_ble_eq_true rfl) ⟨Nat.le_of_ble_eq_true rfl, Nat.le_of_ble_eq_true rfl⟩ rfl (Nat.le_of_ble_eq_true rfl) (fun τ z g => ?_))))))))
        refine ok_if_eq 35 85 rfl rfl rfl (fun h58 => ?_) (fun h58 => ?_)
        · exact t2 τ (f.tr g.1) (by omega) (by omega)
        · have G : BW τ ∧ τ 44 (9 + j) ≠ -1 := by rcases g.2 with q | q; exact absurd q h58; exact q.2
          refine ok_aload_n 36 rfl rfl rfl (ok_iconst 37 rfl rfl (by decide) (ok_iload 38 rfl rfl rfl (ok_iadd 39 rfl rfl (by first | omega | (simp [up_if]; omega) | (simp [up_if] at *; omega)) (ok_bipush 40 rfl rfl (by decide) (by decide) (ok_iload 41 rfl rfl rfl (ok_iadd 42 rfl rfl (by first | omega | (simp [up_if]; omega) | (simp [up_if] at *; omega)) (ok_callVV (M' := M_Ro_flowAlong) (as := [_, _]) 43 rfl rfl ml_X6_77 (s_Ro_flowAlong ⟨by omega, by omega⟩ G.1 G.2) rfl rfl (Nat.le_of_ble_eq_true rfl) ⟨Nat.le_of_ble_eq_true rfl, Nat.le_of_ble_eq_true rfl⟩ rfl (Nat.le_of_ble_eq_true rfl) (fun υ u => ?_))))))))
          refine ok_aload_n 44 rfl rfl rfl (ok_getR 45 rfl rfl fl_X6_11 rfl rfl (ok_iload 46 rfl rfl rfl (ok_dup2 47 rfl rfl ⟨rfl, rfl⟩ (ok_iald 48 rfl rfl rfl (by first | omega | (simp [up_if]; omega) | (simp [up_if] at *; omega)) (ok_iconst 49 rfl rfl (by decide) (ok_isubW 50 rfl rfl (ok_iast 51 rfl rfl rfl (by first | omega | (simp [up_if]; omega) | (simp [up_if] at *; omega)) ?_)))))))
          exact t2 _ (fr_up ((f.tr g.1).tr u) (by simp [rgRo])) (by omega) (by omega)
theorem s_Ro_setBounds {σ : eS} {f t r b : Int} (hf : 0 ≤ f ∧ f < 18) (ht : 0 ≤ t ∧ t < 18) (hr : 0 ≤ r) (hb : 1 ≤ b) : MtV shA M_Ro_setBounds [vr 40, vi f, vi t, vi r, vi b] σ (fun σ' => fr rgRo σ σ') := by
  refine Mt.of okM_Ro_setBounds (Nat.le_of_ble_eq_true rfl) (fun hk hg => ?_)
  refine ok_iload_n 0 rfl rfl rfl (ok_bipush 1 rfl rfl (by decide) (by decide) (ok_imul 2 rfl rfl (by first | omega | (simp [up_if]; omega) | (simp [up_if] at *; omega)) (ok_iload_n 3 rfl rfl rfl (ok_iadd 4 rfl rfl (by first | omega | (simp [up_if]; omega) | (simp [up_if] at *; omega)) (ok_ist5 5 rfl rfl rfl (ok_aload_n 6 rfl rfl rfl (ok_getR 7 rfl rfl fl_X6_15 rfl rfl (ok_iload 8 rfl rfl rfl (ok_iload_n 9 rfl rfl rfl (ok_iload 10 rfl rfl rfl (ok_idiv 11 rfl rfl (by first | omega | (simp [up_if]; omega) | (simp [up_if] at *; omega)) (by first | omega | (simp [up_if]; omega) | (simp [up_if] at *; omega)) (ok_iast 12 rfl rfl rfl (by first | omega | (simp [up_if]; omega) | (simp [up_if] at *; omega)) (ok_aload_n 13 rfl rfl rfl (ok_getR 14 rfl rfl fl_X6_18 rfl rfl (ok_iload 15 rfl rfl rfl (ok_iload_n 16 rfl rfl rfl (ok_iload 17 rfl rfl rfl (ok_irem 18 rfl rfl (by first | omega | (simp [up_if]; omega) | (simp [up_if] at *; omega)) (by first | omega | (simp [up_if]; omega) | (simp [up_if] at *; omega)) (ok_if_ne 19 42 rfl rfl rfl (fun h29 => ?_) (fun h29 => ?_))))))))))))))))))))
  · refine ok_aload_n 25 rfl rfl rfl (ok_getR 26 rfl rfl fl_X6_15 rfl rfl (ok_iload 27 rfl rfl rfl (ok_iald 28 rfl rfl rfl (by first | omega | (simp [up_if]; omega) | (simp [up_if] at *; omega)) (ok_iconst 29 rfl rfl (by decide) (ok_iaddW 30 rfl rfl (ok_iast 31 rfl rfl rfl (by first | omega | (simp [up_if]; omega) | (simp [up_if] at *; omega)) (ok_vret 32 rfl rfl rfl ?_)))))))
    exact ⟨rfl, fr_up (fr_up fr.rf (by simp [rgRo])) (by simp [rgRo])⟩
  · refine ok_aload_n 20 rfl rfl rfl (ok_getR 21 rfl rfl fl_X6_15 rfl rfl (ok_iload 22 rfl rfl rfl (ok_iald 23 rfl rfl rfl (by first | omega | (simp [up_if]; omega) | (simp [up_if] at *; omega)) (ok_goto 24 51 rfl rfl rfl (ok_iast 31 rfl rfl rfl (by first | omega | (simp [up_if]; omega) | (simp [up_if] at *; omega)) (ok_vret 32 rfl rfl rfl ?_))))))
    exact ⟨rfl, fr_up (fr_up fr.rf (by simp [rgRo])) (by simp [rgRo])⟩
theorem s_Ro_lay {σ : eS} {t : Nat} (ht : tA t) (hT : iT σ t) (hn : 0 < σ t 1) : MtV shA M_Ro_lay [vr 40, vr t] σ (fun σ' => fr rgRo σ σ') := by
  refine Mt.of okM_Ro_lay (Nat.le_of_ble_eq_true rfl) (fun hk hg => ?_)
  have nA := tA_10 ht
  have n2 := hT.2.1
  have hB := hT.2.2.1 hn
  refine ok_aload_n 0 rfl rfl rfl (ok_getR 1 rfl rfl fl_X6_11 rfl rfl (ok_iconst 2 rfl rfl (by decide) (ok_callSV (M' := M_Ja_fill) (as := [_, _]) 3 rfl rfl ml_X6_53 (s_Ja_fill (c := 41) (N := 324) rfl (by decide)) ⟨Nat.le_of_ble_eq_true rfl, Nat.le_of_ble_eq_true rfl⟩ rfl (Nat.le_of_ble_eq_true rfl) (fun τ1 g1 => ?_))))
  refine ok_aload_n 4 rfl rfl rfl (ok_getR 5 rfl rfl fl_X6_15 rfl rfl (ok_iconst 6 rfl rfl (by decide) (ok_callSV (M' := M_Ja_fill) (as := [_, _]) 7 rfl rfl ml_X6_53 (s_Ja_fill (c := 42) (N := 324) rfl (by decide)) ⟨Nat.le_of_ble_eq_true rfl, Nat.le_of_ble_eq_true rfl⟩ rfl (Nat.le_of_ble_eq_true rfl) (fun τ2 g2 => ?_))))
  refine ok_aload_n 8 rfl rfl rfl (ok_getR 9 rfl rfl fl_X6_18 rfl rfl (ok_iconst 10 rfl rfl (by decide) (ok_callSV (M' := M_Ja_fill) (as := [_, _]) 11 rfl rfl ml_X6_53 (s_Ja_fill (c := 43) (N := 324) rfl (by decide)) ⟨Nat.le_of_ble_eq_true rfl, Nat.le_of_ble_eq_true rfl⟩ rfl (Nat.le_of_ble_eq_true rfl) (fun τ3 g3 => ?_))))
  refine ok_iconst 12 rfl rfl (by decide) (ok_ist2 13 rfl rfl rfl (ok_iconst 14 rfl rfl (by decide) (ok_ist3 15 rfl rfl rfl ?_)))
  have F : fr rgRo σ τ3 := ((g1.1.mono (fun c k w => by simp only [rgRo]; omega)).tr (g2.1.mono (fun c k w => by simp only [rgRo]; omega))).tr (g3.1.mono (fun c k w => by simp only [rgRo]; omega))
  refine lpO3 (fun (a i : Int) (_ : eS) => [some (vr 40), some (vr t), some (vi a), some (vi i), none, none, none, none]) (fun _ _ ρ => ρ) (fun a i ρ => 0 ≤ i ∧ i ≤ 8 ∧ 0 ≤ a ∧ a ≤ i * 8000000 ∧ fr rgRo σ ρ) (fun _ i _ => (8 - i).toNat) ?_ 0 0 τ3 ⟨by omega, by omega, by omega, by omega, F⟩
  clear F g1 g2 g3 τ1 τ2 τ3
  rintro a i ρ ⟨i1, i2, a1, a2, f⟩ ih
  have e1 : ρ t 1 = σ t 1 := f t 1 (by simp only [rgRo]; omega)
  have e2 : ρ t 2 = σ t 2 := f t 2 (by simp only [rgRo]; omega)
  refine ok_iload_n 16 rfl rfl rfl (ok_aload_n 17 rfl rfl rfl (ok_getI 18 rfl rfl fl_X6_31 (sT ht) rfl (Or.inl rfl) (ok_icmp_ge 19 167 rfl rfl rfl (fun h33 => ?_) (fun h33 => ?_))))
  · refine ok_aload_n 97 rfl rfl rfl (ok_bipush 98 rfl rfl (by decide) (by decide) (ok_iconst 99 rfl rfl (by decide) (ok_iload_n 100 rfl rfl rfl (ok_aload_n 101 rfl rfl rfl (ok_getI 102 rfl rfl fl_X6_62 (sT ht) rfl (Or.inl rfl) (ok_callVV (M' := M_Ro_setBounds) (as := [_, _, _, _]) 103 rfl rfl ml_X6_65 (s_Ro_setBounds ⟨by omega, by omega⟩ ⟨by omega, by omega⟩ a1 (by omega)) rfl rfl (Nat.le_of_ble_eq_true rfl) ⟨Nat.le_of_ble_eq_true rfl, Nat.le_of_ble_eq_true rfl⟩ rfl (Nat.le_of_ble_eq_true rfl) (fun τ g => ?_)))))))
    refine ok_vret 104 rfl rfl rfl ?_
    exact ⟨rfl, f.tr g⟩
  · refine ok_iconst 20 rfl rfl (by decide) (ok_ist4 21 rfl rfl rfl (ok_iconst 22 rfl rfl (by decide) (ok_ist5 23 rfl rfl rfl (ok_iconst 24 rfl rfl (by decide) (ok_ist6 25 rfl rfl rfl ?_)))))
    have il : i < σ t 1 := by omega
    refine lpO4 (fun (u v j : Int) (_ : eS) => [some (vr 40), some (vr t), some (vi a), some (vi i), some (vi u), some (vi v), some (vi j), none]) (fun _ _ _ ρ => ρ) (fun u v j ρ => 0 ≤ j ∧ j ≤ 8 ∧ 0 ≤ u ∧ u ≤ j * 1000000 ∧ 0 ≤ v ∧ v ≤ j * 1000000 ∧ fr rgRo σ ρ) (fun _ _ j _ => (8 - j).toNat) ?_ 0 0 0 ρ ⟨by omega, by omega, by omega, by omega, by omega, by omega, f⟩
    clear e1 e2 h33 f ρ
    rintro u v j ρ ⟨j1, j2, u1, u2, v1, v2, f⟩ ih2
    have e1 : ρ t 1 = σ t 1 := f t 1 (by simp only [rgRo]; omega)
    have e2 : ρ t 2 = σ t 2 := f t 2 (by simp only [rgRo]; omega)
    refine ok_iload 26 rfl rfl rfl (ok_aload_n 27 rfl rfl rfl (ok_getI 28 rfl rfl fl_X6_31 (sT ht) rfl (Or.inl rfl) (ok_icmp_ge 29 126 rfl rfl rfl (fun h51 => ?_) (fun h51 => ?_))))
    · refine ok_aload_n 73 rfl rfl rfl (ok_iconst 74 rfl rfl (by decide) (ok_iconst 75 rfl rfl (by decide) (ok_iload_n 76 rfl rfl rfl (ok_iadd 77 rfl rfl (by first | omega | (simp [up_if]; omega) | (simp [up_if] at *; omega)) (ok_iload 78 rfl rfl rfl (ok_aload_n 79 rfl rfl rfl (ok_getI 80 rfl rfl fl_X6_62 (sT ht) rfl (Or.inl rfl) (ok_callVV (M' := M_Ro_setBounds) (as := [_, _, _, _]) 81 rfl rfl ml_X6_65 (s_Ro_setBounds ⟨by omega, by omega⟩ ⟨by omega, by omega⟩ u1 (by omega)) rfl rfl (Nat.le_of_ble_eq_true rfl) ⟨Nat.le_of_ble_eq_true rfl, Nat.le_of_ble_eq_true rfl⟩ rfl (Nat.le_of_ble_eq_true rfl) (fun τ g => ?_)))))))))
      have F := f.tr g
      have d2 : τ t 2 = σ t 2 := F t 2 (by simp only [rgRo]; omega)
      refine ok_aload_n 82 rfl rfl rfl (ok_bipush 83 rfl rfl (by decide) (by decide) (ok_iload_n 84 rfl rfl rfl (ok_iadd 85 rfl rfl (by first | omega | (simp [up_if]; omega) | (simp [up_if] at *; omega)) (ok_bipush 86 rfl rfl (by decide) (by decide) (ok_iload 87 rfl rfl rfl (ok_aload_n 88 rfl rfl rfl (ok_getI 89 rfl rfl fl_X6_62 (sT ht) rfl (Or.inl rfl) (ok_callVV (M' := M_Ro_setBounds) (as := [_, _, _, _]) 90 rfl rfl ml_X6_65 (s_Ro_setBounds ⟨by omega, by omega⟩ ⟨by omega, by omega⟩ v1 (by omega)) rfl rfl (Nat.le_of_ble_eq_true rfl) ⟨Nat.le_of_ble_eq_true rfl, Nat.le_of_ble_eq_true rfl⟩ rfl (Nat.le_of_ble_eq_true rfl) (fun υ w => ?_)))))))))
      refine ok_iload_n 91 rfl rfl rfl (ok_iload 92 rfl rfl rfl (ok_iadd 93 rfl rfl (by first | omega | (simp [up_if]; omega) | (simp [up_if] at *; omega)) (ok_ist2 94 rfl rfl rfl (ok_inc3 95 rfl rfl rfl (by first | omega | (simp [up_if]; omega) | (simp [up_if] at *; omega)) (ok_goto 96 28 rfl rfl rfl ?_)))))
      exact ok_fg [some (vr 40), some (vr t), some (vi _), some (vi (i + 1)), none, none, none, none] ⟨rfl, rfl, rfl, rfl, trivial⟩ (ih _ (i + 1) υ ⟨by omega, by omega, by omega, by omega, F.tr w⟩ (by omega))
    · have c1 := hT.2.2.2 (i * 8 + j) (by omega) (by omega)
      rw [← f (t + 4) (i * 8 + j) (by simp only [rgRo]; omega)] at c1
      have r1 := Int.emod_nonneg (ρ (t + 4) (i * 8 + j)) (show ρ t 2 ≠ 0 by omega)
      have r2 := Int.emod_lt_of_pos (ρ (t + 4) (i * 8 + j)) (show 0 < ρ t 2 by omega)
      refine ok_aload_n 30 rfl rfl rfl (ok_getR 31 rfl rfl fl_X6_59 (sT ht) rfl (ok_iload_n 32 rfl rfl rfl (ok_bipush 33 rfl rfl (by decide) (by decide) (ok_imul 34 rfl rfl (by first | omega | (simp [up_if]; omega) | (simp [up_if] at *; omega)) (ok_iload 35 rfl rfl rfl (ok_iadd 36 rfl rfl (by first | omega | (simp [up_if]; omega) | (simp [up_if] at *; omega)) (ok_iald 37 rfl rfl (sC ht) (by first | omega | (simp [up_if]; omega) | (simp [up_if] at *; omega)) (ok_aload_n 38 rfl rfl rfl (ok_getI 39 rfl rfl fl_X6_62 (sT ht) rfl (Or.inl rfl) (ok_irem 40 rfl rfl (by first | omega | (simp [up_if]; omega) | (simp [up_if] at *; omega)) (by first | omega | (simp [up_if]; omega) | (simp [up_if] at *; omega)) (ok_ist7 41 rfl rfl rfl (ok_aload_n 42 rfl rfl rfl (ok_iconst 43 rfl rfl (by decide) (ok_iload_n 44 rfl rfl rfl (ok_iadd 45 rfl rfl (by first | omega | (simp [up_if]; omega) | (simp [up_if] at *; omega)) (ok_bipush 46 rfl rfl (by decide) (by decide) (ok_iload 47 rfl rfl rfl (ok_iadd 48 rfl rfl (by first | omega | (simp [up_if]; omega) | (simp [up_if] at *; omega)) (ok_iload 49 rfl rfl rfl (ok_aload_n 50 rfl rfl rfl (ok_getI 51 rfl rfl fl_X6_62 (sT ht) rfl (Or.inl rfl) (ok_callVV (M' := M_Ro_setBounds) (as := [_, _, _, _]) 52 rfl rfl ml_X6_65 (s_Ro_setBounds ⟨by omega, by omega⟩ ⟨by omega, by omega⟩ r1 (by omega)) rfl rfl (Nat.le_of_ble_eq_true rfl) ⟨Nat.le_of_ble_eq_true rfl, Nat.le_of_ble_eq_true rfl⟩ rfl (Nat.le_of_ble_eq_true rfl) (fun τ g => ?_)))))))))))))))))))))))
      have F := f.tr g
      have d2 : τ t 2 = σ t 2 := F t 2 (by simp only [rgRo]; omega)
      have c2 := hT.2.2.2 (j * 8 + i) (by omega) (by omega)
      rw [← F (t + 4) (j * 8 + i) (by simp only [rgRo]; omega)] at c2
      have r3 := Int.emod_nonneg (τ (t + 4) (j * 8 + i)) (show τ t 2 ≠ 0 by omega)
      have r4 := Int.emod_lt_of_pos (τ (t + 4) (j * 8 + i)) (show 0 < τ t 2 by omega)
      refine ok_iload 53 rfl rfl rfl (ok_iload 54 rfl rfl rfl (ok_iadd 55 rfl rfl (by first | omega | (simp [up_if]; omega) | (simp [up_if] at *; omega)) (ok_ist4 56 rfl rfl rfl (ok_iload 57 rfl rfl rfl (ok_aload_n 58 rfl rfl rfl (ok_getR 59 rfl rfl fl_X6_59 (sT ht) rfl (ok_iload 60 rfl rfl rfl (ok_bipush 61 rfl rfl (by decide) (by decide) (ok_imul 62 rfl rfl (by first | omega | (simp [up_if]; omega) | (simp [up_if] at *; omega)) (ok_iload_n 63 rfl rfl rfl (ok_iadd 64 rfl rfl (by first | omega | (simp [up_if]; omega) | (simp [up_if] at *; omega)) (ok_iald 65 rfl rfl (sC ht) (by first | omega | (simp [up_if]; omega) | (simp [up_if] at *; omega)) (ok_aload_n 66 rfl rfl rfl (ok_getI 67 rfl rfl fl_X6_62 (sT ht) rfl (Or.inl rfl) (ok_irem 68 rfl rfl (by first | omega | (simp [up_if]; omega) | (simp [up_if] at *; omega)) (by first | omega | (simp [up_if]; omega) | (simp [up_if] at *; omega)) (ok_iadd 69 rfl rfl (by first | omega | (simp [up_if]; omega) | (simp [up_if] at *; omega)) (ok_ist5 70 rfl rfl rfl (ok_inc6 71 rfl rfl rfl (by first | omega | (simp [up_if]; omega) | (simp [up_if] at *; omega)) (ok_goto 72 45 rfl rfl rfl ?_)))))))))))))))))))
      exact ok_fg [some (vr 40), some (vr t), some (vi a), some (vi i), some (vi _), some (vi _), some (vi (j + 1)), none] ⟨rfl, rfl, rfl, rfl, rfl, rfl, rfl, trivial⟩ (ih2 _ _ (j + 1) τ ⟨by omega, by omega, by omega, by omega, by omega, by omega, F⟩ (by omega))
abbrev rgRd (t : Nat) : Nat → Int → Prop := fun c k => (41 ≤ c ∧ c ≤ 45) ∨ (c = t ∧ (k = 4 ∨ k = 5))
theorem s_Ro_round {σ : eS} {t : Nat} (ht : tA t) (hT : iT σ t) (hn : 0 < σ t 1) : MtV shA M_Ro_round [vr 40, vr t] σ (fun σ' => fr (rgRd t) σ σ') := by
  refine Mt.of okM_Ro_round (Nat.le_of_ble_eq_true rfl) (fun hk hg => ?_)
  have nA := tA_10 ht
  have n2 := hT.2.1
  refine ok_aload_n 0 rfl rfl rfl (ok_aload_n 1 rfl rfl rfl (ok_callVV (M' := M_Ro_lay) (as := [_]) 2 rfl rfl ml_X6_27 (s_Ro_lay ht hT hn) rfl rfl (Nat.le_of_ble_eq_true rfl) ⟨Nat.le_of_ble_eq_true rfl, Nat.le_of_ble_eq_true rfl⟩ rfl (Nat.le_of_ble_eq_true rfl) (fun τ f => ?_)))
  have e1 : τ t 1 = σ t 1 := f t 1 (by simp only [rgRo]; omega)
  refine ok_aload_n 3 rfl rfl rfl (ok_aload_n 4 rfl rfl rfl (ok_getI 5 rfl rfl fl_X6_31 (sT ht) rfl (Or.inl rfl) (ok_callVV (M' := M_Ro_meetLows) (as := [_]) 6 rfl rfl ml_X6_37 (s_Ro_meetLows (by omega)) rfl rfl (Nat.le_of_ble_eq_true rfl) ⟨Nat.le_of_ble_eq_true rfl, Nat.le_of_ble_eq_true rfl⟩ rfl (Nat.le_of_ble_eq_true rfl) (fun υ g => ?_))))
  have e2 : υ t 1 = τ t 1 := g t 1 (by simp only [rgRo]; omega)
  refine ok_aload_n 7 rfl rfl rfl (ok_aload_n 8 rfl rfl rfl (ok_aload_n 9 rfl rfl rfl (ok_getI 10 rfl rfl fl_X6_31 (sT ht) rfl (Or.inl rfl) (ok_callVL (M' := M_Ro_lessen) (as := [_]) 11 rfl rfl ml_X6_41 (s_Ro_lessen (by omega)) rfl rfl (Nat.le_of_ble_eq_true rfl) ⟨Nat.le_of_ble_eq_true rfl, Nat.le_of_ble_eq_true rfl⟩ rfl (Nat.le_of_ble_eq_true rfl) (fun ω z u => ?_)))))
  refine ok_putL 12 rfl rfl fl_X6_45 (sT ht) rfl rfl rfl (ok_aload_n 13 rfl rfl rfl (ok_iconst 14 rfl rfl (by decide) (ok_putZ 15 rfl rfl fl_X6_49 (sT ht) rfl rfl rfl (by first | omega | (simp [up_if]; omega) | (simp [up_if] at *; omega)) (ok_vret 16 rfl rfl rfl ?_))))
  exact ⟨rfl, fr_up (fr_up (((f.tr g).tr u).mono (fun c k w => Or.inl w)) (by simp [rgRd])) (by simp [rgRd])⟩
theorem s_Ev_rounded {σ : eS} {s i j : Int} (h : IA σ) : MtI shA M_Ev_rounded [vr 0, vi s, vi i, vi j] σ (fun σ' _ => QA σ σ') := by
  refine Mt.of okM_Ev_rounded (Nat.le_of_ble_eq_true rfl) (fun hk hg => ?_)
  refine ok_aload_n 0 rfl rfl rfl (ok_iload_n 1 rfl rfl rfl (ok_callVR (M' := M_Ev_slotAt) (as := [_]) 2 rfl rfl ml_X11_86 (s_Ev_slotAt) rfl rfl (Nat.le_of_ble_eq_true rfl) ⟨Nat.le_of_ble_eq_true rfl, Nat.le_of_ble_eq_true rfl⟩ rfl (Nat.le_of_ble_eq_true rfl) (fun σ' z hz => ?_)))
  obtain ⟨hs_, hz⟩ := hz
  rw [hs_]; clear hs_ σ'
  rcases hz with ⟨q, q2⟩ | ⟨q1, q2, q⟩
  · subst q
    refine ok_ast4 3 rfl rfl rfl (ok_aload 4 rfl rfl rfl (ok_ifnullN 5 30 rfl rfl rfl (ok_iconst 14 rfl rfl (by decide) (ok_iret 15 rfl rfl rfl ?_))))
    exact ⟨_, rfl, QA_rf h⟩
  · subst q
    have ht := sl_tA ⟨q1, q2⟩
    have nA := tA_10 ht
    have hT := (h.2.1 _ ht).1
    have n1 := hT.1
    have n2 := hT.2.1
    have tail : 0 ≤ i → i < σ (s.toNat + 2) 1 → 0 ≤ j → j < σ (s.toNat + 2) 1 → ∀ τ : eS, fr (rgRd (s.toNat + 2)) σ τ → Ok shA M_Ev_rounded 49 [some (vr 0), some (vi s), some (vi i), some (vi j), some (vr (s.toNat + 2)), none] [] τ (fun σ' v => ∃ z, v = some (vi z) ∧ QA σ σ') := by
      intro i1 i2 j1 j2 τ f
      have hB := hT.2.2.1 (by omega)
      have e2 : τ (s.toNat + 2) 2 = σ (s.toNat + 2) 2 := f _ _ (by simp only [rgRd]; omega)
      have c1 : 0 ≤ τ (s.toNat + 6) (i * 8 + j) ∧ τ (s.toNat + 6) (i * 8 + j) ≤ 99999999 := by
        rw [f (s.toNat + 6) (i * 8 + j) (by simp only [rgRd]; omega)]
        exact hT.2.2.2 (i * 8 + j) (by omega) (by omega)
      refine ok_iload_n 23 rfl rfl rfl (ok_bipush 24 rfl rfl (by decide) (by decide) (ok_imul 25 rfl rfl (by first | omega | (simp [up_if]; omega) | (simp [up_if] at *; omega)) (ok_iload_n 26 rfl rfl rfl (ok_iadd 27 rfl rfl (by first | omega | (simp [up_if]; omega) | (simp [up_if] at *; omega)) (ok_ist5 28 rfl rfl rfl (ok_aload 29 rfl rfl rfl (ok_getR 30 rfl rfl fl_X11_133 (sT ht) rfl (ok_iload 31 rfl rfl rfl (ok_iald 32 rfl rfl (sC ht) (by first | omega | (simp [up_if]; omega) | (simp [up_if] at *; omega)) (ok_aload 33 rfl rfl rfl (ok_getI 34 rfl rfl fl_X11_106 (sT ht) rfl (Or.inl rfl) (ok_idiv 35 rfl rfl (by first | omega | (simp [up_if]; omega) | (simp [up_if] at *; omega)) (by first | omega | (simp [up_if]; omega) | (simp [up_if] at *; omega)) (ok_aload 36 rfl rfl rfl (ok_getL 37 rfl rfl fl_X11_266 (sT ht) rfl (ok_iload 38 rfl rfl rfl (ok_lushr 39 rfl rfl (ok_lconst (w := 1) 40 rfl rfl rfl (by decide) (ok_land 41 rfl rfl (ok_l2iW 42 rfl rfl (ok_iaddW 43 rfl rfl (ok_iret 44 rfl rfl rfl ?_)))))))))))))))))))))
      exact ⟨_, rfl, QA_S h (f.mono (fun c k w => by simp only [rgRd] at w; omega)) (iCh_cg h.2.2.1 (fun k => f _ _ (by simp only [rgRd]; omega))) (mkS_fr (by decide) f (by simp only [rgRd]; omega) (fun k => by simp only [rgRd]; omega))⟩
    refine ok_ast4 3 rfl rfl rfl (ok_aload 4 rfl rfl rfl (ok_ifnull 5 rfl rfl (ok_aload 6 rfl rfl rfl (ok_iload_n 7 rfl rfl rfl (ok_callVI (M' := M_Ta_has) (as := [_]) 8 rfl rfl ml_X11_129 (s_Ta_has ht) (sT ht) rfl (Nat.le_of_ble_eq_true rfl) ⟨Nat.le_of_ble_eq_true rfl, Nat.le_of_ble_eq_true rfl⟩ rfl (Nat.le_of_ble_eq_true rfl) (fun σ' z1 x1 => ?_))))))
    obtain ⟨hs_, x1⟩ := x1
    rw [hs_]; clear hs_ σ'
    refine ok_if_eq 9 30 rfl rfl rfl (fun h18 => ?_) (fun h18 => ?_)
    · refine ok_iconst 14 rfl rfl (by decide) (ok_iret 15 rfl rfl rfl ?_)
      exact ⟨_, rfl, QA_rf h⟩
    · refine ok_aload 10 rfl rfl rfl (ok_iload_n 11 rfl rfl rfl (ok_callVI (M' := M_Ta_has) (as := [_]) 12 rfl rfl ml_X11_129 (s_Ta_has ht) (sT ht) rfl (Nat.le_of_ble_eq_true rfl) ⟨Nat.le_of_ble_eq_true rfl, Nat.le_of_ble_eq_true rfl⟩ rfl (Nat.le_of_ble_eq_true rfl) (fun σ' z2 x2 => ?_)))
      obtain ⟨hs_, x2⟩ := x2
      rw [hs_]; clear hs_ σ'
      refine ok_if_ne 13 32 rfl rfl rfl (fun h27 => ?_) (fun h27 => ?_)
      · refine ok_aload 16 rfl rfl rfl (ok_getI 17 rfl rfl fl_X11_260 (sT ht) rfl (Or.inr rfl) (ok_if_ne 18 49 rfl rfl rfl (fun h37 => ?_) (fun h37 => ?_)))
        · exact tail (by omega) (by omega) (by omega) (by omega) σ fr.rf
        · refine ok_aload_n 19 rfl rfl rfl (ok_getR 20 rfl rfl fl_X11_62 rfl rfl (ok_aload 21 rfl rfl rfl (ok_callVV (M' := M_Ro_round) (as := [_]) 22 rfl rfl ml_X11_263 (s_Ro_round ht hT (by omega)) rfl rfl (Nat.le_of_ble_eq_true rfl) ⟨Nat.le_of_ble_eq_true rfl, Nat.le_of_ble_eq_true rfl⟩ rfl (Nat.le_of_ble_eq_true rfl) (fun τ f => ?_))))
          exact tail (by omega) (by omega) (by omega) (by omega) τ f
      · refine ok_iconst 14 rfl rfl (by decide) (ok_iret 15 rfl rfl rfl ?_)
        exact ⟨_, rfl, QA_rf h⟩
