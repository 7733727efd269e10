/-! WHAT IS MADE OF TABLES: in least terms, or refused -/
def isG (g b n : Int) (f : Int → Int → Int) : Prop := 1 ≤ g ∧ g ∣ b ∧ (∀ i j, 0 ≤ i → i < n → 0 ≤ j → j < n → g ∣ f i j) ∧ ∀ m : Int, m ∣ b → (∀ i j, 0 ≤ i → i < n → 0 ≤ j → j < n → m ∣ f i j) → m ∣ g
theorem isG_un {g g' b n : Int} {f f' : Int → Int → Int} (h : isG g b n f) (h' : isG g' b n f') (e : ∀ i j, 0 ≤ i → i < n → 0 ≤ j → j < n → f i j = f' i j) : g = g' := by
  obtain ⟨a1, a2, a3, a4⟩ := h
  obtain ⟨b1, b2, b3, b4⟩ := h'
  have x := b4 g a2 (fun i j p q r s => by rw [← e i j p q r s]; exact a3 i j p q r s)
  have y := a4 g' b2 (fun i j p q r s => by rw [e i j p q r s]; exact b3 i j p q r s)
  have := Int.le_of_dvd (by omega) x
  have := Int.le_of_dvd (by omega) y
  omega
def fitM (g b n : Int) (f : Int → Int → Int) : Prop := b / g ≤ 999999 ∧ ∀ i j, 0 ≤ i → i < n → 0 ≤ j → j < n → f i j / g ≤ 99999999
theorem fitM_cg {g b n : Int} {f f' : Int → Int → Int} (e : ∀ i j, 0 ≤ i → i < n → 0 ≤ j → j < n → f i j = f' i j) : fitM g b n f ↔ fitM g b n f' :=
  ⟨fun h => ⟨h.1, fun i j p q r s => by rw [← e i j p q r s]; exact h.2 i j p q r s⟩, fun h => ⟨h.1, fun i j p q r s => by rw [e i j p q r s]; exact h.2 i j p q r s⟩⟩
/-- of the class: made into the table t -/
def MA (σ : eS) (t : Nat) (n b : Int) (f : Int → Int → Int) (σ' : eS) (z : Int) : Prop := ∃ g, isG g b n f ∧ ((z = 0 ∧ ¬ fitM g b n f ∧ tbS σ σ') ∨ (z = 1 ∧ fitM g b n f ∧ σ' t 1 = n ∧ σ' t 2 = b / g ∧ (∀ i j, 0 ≤ i → i < n → 0 ≤ j → j < n → σ' (t + 4) (i * 8 + j) = f i j / g) ∧ tbX σ σ' t))
/-- of the reference: made into the slot s -/
def MB (σ : eS) (s n b : Int) (f : Int → Int → Int) (σ' : eS) (z : Int) : Prop := ∃ g, isG g b n f ∧ ((z = 0 ∧ ¬ fitM g b n f ∧ tbK σ σ') ∨ (z = 1 ∧ fitM g b n f ∧ (∀ k, σ' 1 k = if k = s then n else σ 1 k) ∧ (∀ k, σ' 2 k = if k = s then b / g else σ 2 k) ∧ (∀ k, ¬ (64 * s ≤ k ∧ k < 64 * s + n * n) → σ' 3 k = σ 3 k) ∧ ∀ i j, 0 ≤ i → i < n → 0 ≤ j → j < n → σ' 3 (64 * s + (n * i + j)) = f i j / g))
abbrev suF (σ : eS) : Int → Int → Int := fun i j => σ 15 (i * 8 + j)
theorem gcd_or {a b : Int} (ha : 1 ≤ a) : 1 ≤ (Int.gcd a b : Int) ∧ (Int.gcd a b : Int) ∣ a ∧ (Int.gcd a b : Int) ∣ b := ⟨(gcd_pos (by omega)).1, Int.gcd_dvd_left _ _, Int.gcd_dvd_right _ _⟩
theorem dvd_1 {a m : Int} (h : a ≤ 1) (h1 : 1 ≤ a) : a ∣ m := by rw [show a = 1 by omega]; exact Int.one_dvd m
theorem t_Mk_sharedDivisor {σ : eS} {b n : Int} (hb : 1 ≤ b) (hn : 0 ≤ n ∧ n ≤ 8) (hS : iSu σ) : MtL shA M_Mk_sharedDivisor [vr 14, vl b, vi n] σ (fun σ' z => σ' = σ ∧ isG z b n (suF σ)) := by
  refine Mt.of okM_Mk_sharedDivisor (Nat.le_of_ble_eq_true rfl) (fun hk hg => ?_)
  refine ok_lload_n 0 rfl rfl rfl (ok_lst4 1 rfl rfl rfl (ok_iconst 2 rfl rfl (by decide) (ok_ist6 3 rfl rfl rfl ?_)))
  refine lpO2 (fun v i : Int => [some (vr 14), some (vl b), none, some (vi n), some (vl v), none, some (vi i), none]) (fun _ _ => σ) (fun v i => 0 ≤ i ∧ i ≤ n ∧ 1 ≤ v ∧ v ∣ b ∧ (∀ x y, 0 ≤ x → x < i → 0 ≤ y → y < n → v ∣ σ 15 (x * 8 + y)) ∧ ∀ m : Int, m ∣ b → (∀ x y, 0 ≤ x → x < i → 0 ≤ y → y < n → m ∣ σ 15 (x * 8 + y)) → m ∣ v) (fun _ i => (8 - i).toNat) ?_ b 0 ⟨by omega, by omega, hb, Int.dvd_refl _, fun x y p q => by omega, fun m p _ => p⟩
  rintro v i ⟨i1, i2, v1, v2, v3, v4⟩ ih
  refine ok_iload 4 rfl rfl rfl (ok_iload_n 5 rfl rfl rfl (ok_icmp_ge 6 60 rfl rfl rfl (fun h9 => ?_) (fun h9 => ?_)))
  · refine ok_lload 31 rfl rfl rfl (ok_lret 32 rfl rfl rfl ?_)
    exact ⟨_, rfl, rfl, v1, v2, fun x y p q r s => v3 x y p (by omega) r s, fun m p q => v4 m p (fun x y a c d e => q x y a (by omega) d e)⟩
  · refine ok_iconst 7 rfl rfl (by decide) (ok_ist7 8 rfl rfl rfl ?_)
    have il : i < n := by omega
    refine lpO2 (fun v j : Int => [some (vr 14), some (vl b), none, some (vi n), some (vl v), none, some (vi i), some (vi j)]) (fun _ _ => σ) (fun v j => 0 ≤ j ∧ j ≤ 8 ∧ 1 ≤ v ∧ v ∣ b ∧ (∀ x y, 0 ≤ x → 0 ≤ y → y < n → (x < i ∨ (x = i ∧ y < j)) → v ∣ σ 15 (x * 8 + y)) ∧ ∀ m : Int, m ∣ b → (∀ x y, 0 ≤ x → 0 ≤ y → y < n → (x < i ∨ (x = i ∧ y < j)) → m ∣ σ 15 (x * 8 + y)) → m ∣ v) (fun _ j => (8 - j).toNat) ?_ v 0 ⟨by omega, by omega, v1, v2, fun x y p q r s => v3 x y p (by omega) q r, fun m p q => v4 m p (fun x y a c d e => q x y a d e (Or.inl c))⟩
    clear v1 v2 v3 v4 v
    rintro v j ⟨j1, j2, v1, v2, v3, v4⟩ ih2
    refine ok_iload 9 rfl rfl rfl (ok_iload_n 10 rfl rfl rfl (ok_icmp_ge 11 54 rfl rfl rfl (fun h18 => ?_) (fun h18 => ?_)))
    · refine ok_inc6 29 rfl rfl rfl (by first | omega | (simp [up_if]; omega) | (simp [up_if] at *; omega)) (ok_goto 30 6 rfl rfl rfl ?_)
      refine ok_fg [some (vr 14), some (vl b), none, some (vi n), some (vl _), none, some (vi (i + 1)), none] ⟨rfl, rfl, rfl, rfl, rfl, trivial⟩ (ih _ (i + 1) ⟨by omega, by omega, v1, v2, fun x y p q r s => ?_, fun m p q => ?_⟩ (by omega))
      · first | exact v3 x y p r s (by omega) | exact dvd_1 (by omega) v1
      · exact v4 m p (fun x y a c d e => q x y a (by omega) c d)
    · refine ok_lload 12 rfl rfl rfl (ok_lconst (w := 1) 13 rfl rfl rfl (by decide) (ok_lcmp_le 14 15 54 rfl rfl rfl rfl rfl (fun h24 => ?_) (fun h24 => ?_)))
      · refine ok_inc6 29 rfl rfl rfl (by first | omega | (simp [up_if]; omega) | (simp [up_if] at *; omega)) (ok_goto 30 6 rfl rfl rfl ?_)
        refine ok_fg [some (vr 14), some (vl b), none, some (vi n), some (vl _), none, some (vi (i + 1)), none] ⟨rfl, rfl, rfl, rfl, rfl, trivial⟩ (ih _ (i + 1) ⟨by omega, by omega, v1, v2, fun x y p q r s => ?_, fun m p q => ?_⟩ (by omega))
        · first | exact v3 x y p r s (by omega) | exact dvd_1 (by omega) v1
        · exact v4 m p (fun x y a c d e => q x y a (by omega) c d)
      · have s1 := hS (i * 8 + j) (by omega) (by omega)
        have s2 := (hg 15 (i * 8 + j)).1.2
        refine ok_lload 16 rfl rfl rfl (ok_aload_n 17 rfl rfl rfl (ok_getR 18 rfl rfl fl_X2_9 rfl rfl (ok_iload 19 rfl rfl rfl (ok_bipush 20 rfl rfl (by decide) (by decide) (ok_imul 21 rfl rfl (by first | omega | (simp [up_if]; omega) | (simp [up_if] at *; omega)) (ok_iload 22 rfl rfl rfl (ok_iadd 23 rfl rfl (by first | omega | (simp [up_if]; omega) | (simp [up_if] at *; omega)) (ok_lald 24 rfl rfl rfl (by first | omega | (simp [up_if]; omega) | (simp [up_if] at *; omega)) (ok_callSL (M' := M_Nu_greatestDivisor) (as := [_, _]) 25 rfl rfl ml_X2_66 (s_Nu_greatestDivisor (by omega) ⟨s1, by omega⟩) ⟨Nat.le_of_ble_eq_true rfl, Nat.le_of_ble_eq_true rfl⟩ rfl (Nat.le_of_ble_eq_true rfl) (fun σ' z hz => ?_))))))))))
        rw [hz.1, hz.2]
        clear hz z σ'
        refine ok_lst4 26 rfl rfl rfl (ok_inc7 27 rfl rfl rfl (by first | omega | (simp [up_if]; omega) | (simp [up_if] at *; omega)) (ok_goto 28 15 rfl rfl rfl ?_))
        obtain ⟨d1, d2, d3⟩ := gcd_or (b := σ 15 (i * 8 + j)) v1
        refine ih2 _ (j + 1) ⟨by omega, by omega, d1, Int.dvd_trans d2 v2, fun x y p q r s => ?_, fun m p q => ?_⟩ (by omega)
        · rcases (by omega : (x < i ∨ (x = i ∧ y < j)) ∨ (x = i ∧ y = j)) with w | w
          · exact Int.dvd_trans d2 (v3 x y p q r w)
          · rw [w.1, w.2]; exact d3
        · exact Int.dvd_coe_gcd (v4 m p (fun x y a c d e => q x y a c d (by omega))) (q i j i1 j1 (by omega) (by omega))
theorem t_Mk_areCells {σ : eS} {g n : Int} (hg1 : 1 ≤ g) (hn : n ≤ 8) (hS : iSu σ) : MtI shA M_Mk_areCells [vr 14, vl g, vi n] σ (fun σ' z => σ' = σ ∧ ((z = 0 ∧ ¬ cS σ g n) ∨ (z = 1 ∧ cS σ g n))) := by
  refine Mt.of okM_Mk_areCells (Nat.le_of_ble_eq_true rfl) (fun hk hg => ?_)
  refine ok_iconst 0 rfl rfl (by decide) (ok_ist4 1 rfl rfl rfl ?_)
  refine lpO (fun i : Int => [some (vr 14), some (vl g), none, some (vi n), some (vi i), none]) (fun _ => σ) (fun i => 0 ≤ i ∧ i ≤ 8 ∧ ∀ k j, 0 ≤ k → k < i → 0 ≤ j → j < n → σ 15 (k * 8 + j) / g ≤ 99999999) (fun i => (8 - i).toNat) ?_ 0 ⟨by omega, by omega, fun k j a b => by omega⟩
  rintro i ⟨i1, i2, hi⟩ ih
  refine ok_iload 2 rfl rfl rfl (ok_iload_n 3 rfl rfl rfl (ok_icmp_ge 4 54 rfl rfl rfl (fun h6 => ?_) (fun h6 => ?_)))
  · refine ok_iconst 29 rfl rfl (by decide) (ok_zret 30 rfl rfl rfl (by first | omega | (simp [up_if]; omega) | (simp [up_if] at *; omega)) ?_)
    exact ⟨_, rfl, rfl, Or.inr ⟨rfl, fun k j a b c d => hi k j a (by omega) c d⟩⟩
  · refine ok_iconst 5 rfl rfl (by decide) (ok_ist5 6 rfl rfl rfl ?_)
    have il : i < n := by omega
    refine lpO (fun j : Int => [some (vr 14), some (vl g), none, some (vi n), some (vi i), some (vi j)]) (fun _ => σ) (fun j => 0 ≤ j ∧ j ≤ 8 ∧ ∀ k, 0 ≤ k → k < j → σ 15 (i * 8 + k) / g ≤ 99999999) (fun j => (8 - j).toNat) ?_ 0 ⟨by omega, by omega, fun k a b => by omega⟩
    rintro j ⟨j1, j2, hj⟩ ih2
    refine ok_iload 7 rfl rfl rfl (ok_iload_n 8 rfl rfl rfl (ok_icmp_ge 9 48 rfl rfl rfl (fun h15 => ?_) (fun h15 => ?_)))
    · refine ok_inc4 27 rfl rfl rfl (by first | omega | (simp [up_if]; omega) | (simp [up_if] at *; omega)) (ok_goto 28 3 rfl rfl rfl ?_)
      exact ok_fg [some (vr 14), some (vl g), none, some (vi n), some (vi (i + 1)), none] ⟨rfl, rfl, rfl, rfl, trivial⟩ (ih (i + 1) ⟨by omega, by omega, fun k l a b c d => up_to (P := fun k => ∀ l, 0 ≤ l → l < n → σ 15 (k * 8 + l) / g ≤ 99999999) (fun k a b l c d => hi k l a b c d) (fun l c d => hj l c (by omega)) k a b l c d⟩ (by omega))
    · have s1 := hS (i * 8 + j) (by omega) (by omega)
      refine ok_aload_n 10 rfl rfl rfl (ok_getR 11 rfl rfl fl_X2_9 rfl rfl (ok_iload 12 rfl rfl rfl (ok_bipush 13 rfl rfl (by decide) (by decide) (ok_imul 14 rfl rfl (by first | omega | (simp [up_if]; omega) | (simp [up_if] at *; omega)) (ok_iload 15 rfl rfl rfl (ok_iadd 16 rfl rfl (by first | omega | (simp [up_if]; omega) | (simp [up_if] at *; omega)) (ok_lald 17 rfl rfl rfl (by first | omega | (simp [up_if]; omega) | (simp [up_if] at *; omega)) (ok_lload_n 18 rfl rfl rfl (ok_ldiv 19 rfl rfl (by first | omega | (simp [up_if]; omega) | (simp [up_if] at *; omega)) (by first | omega | (simp [up_if]; omega) | (simp [up_if] at *; omega)) (ok_ldc2 20 (99999999) rfl rfl kc_X2_69 (by decide) (ok_lcmp_le 21 22 42 rfl rfl rfl rfl rfl (fun h36 => ?_) (fun h36 => ?_))))))))))))
      · refine ok_inc5 25 rfl rfl rfl (by first | omega | (simp [up_if]; omega) | (simp [up_if] at *; omega)) (ok_goto 26 12 rfl rfl rfl ?_)
        exact ih2 (j + 1) ⟨by omega, by omega, up_to hj (by omega)⟩ (by omega)
      · refine ok_iconst 23 rfl rfl (by decide) (ok_zret 24 rfl rfl rfl (by first | omega | (simp [up_if]; omega) | (simp [up_if] at *; omega)) ?_)
        exact ⟨_, rfl, rfl, Or.inl ⟨rfl, fun q => by have := q i j i1 il j1 (by omega); omega⟩⟩
theorem t_Mk_bring {σ : eS} {t : Nat} {b n : Int} (ht : tA t) (hb : 1 ≤ b) (hn : 0 ≤ n ∧ n ≤ 8) (hS : iSu σ) (hT : iT σ t) (hM : mT σ t) : MtI shA M_Mk_bring [vr 14, vl b, vi n, vr t] σ (fun σ' z => fr (rgBr t) σ σ' ∧ iT σ' t ∧ mT σ' t ∧ (z = 0 ∨ z = 1) ∧ MA σ t n b (suF σ) σ' z) := by
  refine Mt.of okM_Mk_bring (Nat.le_of_ble_eq_true rfl) (fun hk hg => ?_)
  have nA := tA_10 ht
  refine ok_aload_n 0 rfl rfl rfl (ok_lload_n 1 rfl rfl rfl (ok_iload_n 2 rfl rfl rfl (ok_callVL (M' := M_Mk_sharedDivisor) (as := [_, _]) 3 rfl rfl ml_X2_52 (t_Mk_sharedDivisor hb hn hS) rfl rfl (Nat.le_of_ble_eq_true rfl) ⟨Nat.le_of_ble_eq_true rfl, Nat.le_of_ble_eq_true rfl⟩ rfl (Nat.le_of_ble_eq_true rfl) (fun σ' g hz => ?_))))
  obtain ⟨hs_, hz⟩ := hz
  rw [hs_]; clear hs_ σ'
  refine ok_lst5 4 rfl rfl rfl (ok_lload 5 rfl rfl rfl (ok_lconst (w := 1) 6 rfl rfl rfl (by decide) (ok_lcmp_lt 7 8 36 rfl rfl rfl rfl rfl (fun h11 => ?_) (fun h11 => ?_))))
  · exact absurd hz.1 (by omega)
  · refine ok_lload_n 9 rfl rfl rfl (ok_lload 10 rfl rfl rfl (ok_ldiv 11 rfl rfl (by first | omega | (simp [up_if]; omega) | (simp [up_if] at *; omega)) (by first | omega | (simp [up_if]; omega) | (simp [up_if] at *; omega)) (ok_ldc2 12 (999999) rfl rfl kc_X2_56 (by decide) (ok_lcmp_gt 13 14 36 rfl rfl rfl rfl rfl (fun h22 => ?_) (fun h22 => ?_)))))
    · refine ok_iconst 20 rfl rfl (by decide) (ok_zret 21 rfl rfl rfl (by first | omega | (simp [up_if]; omega) | (simp [up_if] at *; omega)) ?_)
      exact ⟨_, rfl, fr.rf, hT, hM, Or.inl rfl, g, hz, Or.inl ⟨rfl, fun q => by have := q.1; omega, fun _ _ _ _ _ => rfl⟩⟩
    · refine ok_aload_n 15 rfl rfl rfl (ok_lload 16 rfl rfl rfl (ok_iload_n 17 rfl rfl rfl (ok_callVI (M' := M_Mk_areCells) (as := [_, _]) 18 rfl rfl ml_X2_58 (t_Mk_areCells (by omega) hn.2 hS) rfl rfl (Nat.le_of_ble_eq_true rfl) ⟨Nat.le_of_ble_eq_true rfl, Nat.le_of_ble_eq_true rfl⟩ rfl (Nat.le_of_ble_eq_true rfl) (fun σ' z1 hz1 => ?_))))
      obtain ⟨hs_, hz1⟩ := hz1
      rw [hs_]; clear hs_ σ'
      refine ok_if_ne 19 38 rfl rfl rfl (fun h33 => ?_) (fun h33 => ?_)
      · have hc : cS σ g n := by
          rcases hz1 with q | q
          · exact absurd q.1 h33
          · exact q.2
        clear hz1 h33
        refine ok_iconst 22 rfl rfl (by decide) (ok_ist7 23 rfl rfl rfl ?_)
        refine lpO2 (fun (i : Int) (_ : eS) => [some (vr 14), some (vl b), none, some (vi n), some (vr t), some (vl g), none, some (vi i), none, none]) (fun _ ρ => ρ) (fun i ρ => 0 ≤ i ∧ i ≤ 8 ∧ fr (fun c _ => c = t + 4) σ ρ ∧ (∀ k, 0 ≤ k → k < 64 → 0 ≤ ρ (t + 4) k ∧ ρ (t + 4) k ≤ 99999999) ∧ ∀ x y, 0 ≤ x → x < i → 0 ≤ y → y < n → ρ (t + 4) (x * 8 + y) = σ 15 (x * 8 + y) / g) (fun i _ => (8 - i).toNat) ?_ 0 σ ⟨by omega, by omega, fr.rf, hT.2.2.2, fun x y p q => by omega⟩
        rintro i ρ ⟨i1, i2, f, hcc, hx⟩ ih
        refine ok_iload 24 rfl rfl rfl (ok_iload_n 25 rfl rfl rfl (ok_icmp_ge 26 97 rfl rfl rfl (fun h44 => ?_) (fun h44 => ?_)))
        · have dd : 0 ≤ b / g := Int.ediv_nonneg (by omega) (by omega)
          have d1 : 1 ≤ b / g := Int.le_ediv_of_mul_le (by have := hz.1; omega) (by have := Int.le_of_dvd (by omega) hz.2.1; omega)
          refine ok_aload 53 rfl rfl rfl (ok_iload_n 54 rfl rfl rfl (ok_lload_n 55 rfl rfl rfl (ok_lload 56 rfl rfl rfl (ok_ldiv 57 rfl rfl (by first | omega | (simp [up_if]; omega) | (simp [up_if] at *; omega)) (by first | omega | (simp [up_if]; omega) | (simp [up_if] at *; omega)) (ok_l2i 58 rfl rfl (by first | omega | (simp [up_if]; omega) | (simp [up_if] at *; omega)) (ok_callVV (M' := M_Ta_settle) (as := [_, _]) 59 rfl rfl ml_X2_62 (s_Ta_settle ht hn (by omega) hcc) (sT ht) rfl (Nat.le_of_ble_eq_true rfl) ⟨Nat.le_of_ble_eq_true rfl, Nat.le_of_ble_eq_true rfl⟩ rfl (Nat.le_of_ble_eq_true rfl) (fun τ hs => ?_)))))))
          refine ok_iconst 60 rfl rfl (by decide) (ok_zret 61 rfl rfl rfl (by first | omega | (simp [up_if]; omega) | (simp [up_if] at *; omega)) ?_)
          refine ⟨_, rfl, (f.mono (fun c k q => by simp only [rgBr]; omega)).tr (hs.1.mono (fun c k q => by simp only [rgT1, rgBr] at q ⊢; omega)), hs.2.1, hs.2.2.1, Or.inr rfl, g, hz, Or.inr ⟨rfl, ⟨by omega, hc⟩, hs.2.2.2.1, by rw [hs.2.2.2.2.1]; omega, fun x y p q r s => ?_, fun c k a1 a2 a3 a4 => ?_⟩⟩
          · rw [hs.1 (t + 4) _ (by simp only [rgT1]; omega)]; exact hx x y p (by omega) r s
          · rw [hs.1 c k (by simp only [rgT1]; omega)]; exact f c k (by omega)
        · refine ok_iconst 27 rfl rfl (by decide) (ok_ist8 28 rfl rfl rfl ?_)
          have il : i < n := by omega
          clear h44
          refine lpO2 (fun (j : Int) (_ : eS) => [some (vr 14), some (vl b), none, some (vi n), some (vr t), some (vl g), none, some (vi i), some (vi j), none]) (fun _ ρ => ρ) (fun j ρ => 0 ≤ j ∧ j ≤ 8 ∧ fr (fun c _ => c = t + 4) σ ρ ∧ (∀ k, 0 ≤ k → k < 64 → 0 ≤ ρ (t + 4) k ∧ ρ (t + 4) k ≤ 99999999) ∧ ∀ x y, 0 ≤ x → 0 ≤ y → y < n → (x < i ∨ (x = i ∧ y < j)) → ρ (t + 4) (x * 8 + y) = σ 15 (x * 8 + y) / g) (fun j _ => (8 - j).toNat) ?_ 0 ρ ⟨by omega, by omega, f, hcc, fun x y p q r s => hx x y p (by omega) q r⟩
          clear f hcc hx ρ
          rintro j ρ ⟨j1, j2, f, hcc, hx⟩ ih2
          have e15 : ρ 15 (i * 8 + j) = σ 15 (i * 8 + j) := f 15 _ (by omega)
          refine ok_iload 29 rfl rfl rfl (ok_iload_n 30 rfl rfl rfl (ok_icmp_ge 31 91 rfl rfl rfl (fun h53 => ?_) (fun h53 => ?_)))
          · refine ok_inc7 51 rfl rfl rfl (by first | omega | (simp [up_if]; omega) | (simp [up_if] at *; omega)) (ok_goto 52 41 rfl rfl rfl ?_)
            exact ok_fg [some (vr 14), some (vl b), none, some (vi n), some (vr t), some (vl g), none, some (vi (i + 1)), none, none] ⟨rfl, rfl, rfl, rfl, rfl, rfl, trivial⟩ (ih (i + 1) ρ ⟨by omega, by omega, f, hcc, fun x y p q r s => hx x y p r s (by omega)⟩ (by omega))
          · have s1 : 0 ≤ ρ 15 (i * 8 + j) := by rw [e15]; exact hS _ (by omega) (by omega)
            have d1 := hc i j i1 il j1 (by omega)
            rw [← e15] at d1
            have d0 : 0 ≤ ρ 15 (i * 8 + j) / g := Int.ediv_nonneg s1 (by omega)
            refine ok_iload 32 rfl rfl rfl (ok_bipush 33 rfl rfl (by decide) (by decide) (ok_imul 34 rfl rfl (by first | omega | (simp [up_if]; omega) | (simp [up_if] at *; omega)) (ok_iload 35 rfl rfl rfl (ok_iadd 36 rfl rfl (by first | omega | (simp [up_if]; omega) | (simp [up_if] at *; omega)) (ok_ist9 37 rfl rfl rfl (ok_aload 38 rfl rfl rfl (ok_getR 39 rfl rfl fl_X2_34 (sT ht) rfl (ok_iload 40 rfl rfl rfl (ok_aload_n 41 rfl rfl rfl (ok_getR 42 rfl rfl fl_X2_9 rfl rfl (ok_iload 43 rfl rfl rfl (ok_lald 44 rfl rfl rfl (by first | omega | (simp [up_if]; omega) | (simp [up_if] at *; omega)) (ok_lload 45 rfl rfl rfl (ok_ldiv 46 rfl rfl (by first | omega | (simp [up_if]; omega) | (simp [up_if] at *; omega)) (by first | omega | (simp [up_if]; omega) | (simp [up_if] at *; omega)) (ok_l2i 47 rfl rfl (by first | omega | (simp [up_if]; omega) | (simp [up_if] at *; omega)) (ok_iast 48 rfl rfl (sC ht) (by first | omega | (simp [up_if]; omega) | (simp [up_if] at *; omega)) (ok_inc8 49 rfl rfl rfl (by first | omega | (simp [up_if]; omega) | (simp [up_if] at *; omega)) (ok_goto 50 50 rfl rfl rfl ?_))))))))))))))))))
            refine ok_fg [some (vr 14), some (vl b), none, some (vi n), some (vr t), some (vl g), none, some (vi i), some (vi (j + 1)), none] ⟨rfl, rfl, rfl, rfl, rfl, rfl, rfl, trivial⟩ (ih2 (j + 1) _ ⟨by omega, by omega, fr_up f rfl, fun k a c => ?_, fun x y p q r s => ?_⟩ (by omega))
            · rw [up_if]
              by_cases q : k = i * 8 + j
              · rw [if_pos ⟨rfl, q⟩]; exact ⟨d0, d1⟩
              · rw [if_neg (fun y => q y.2)]; exact hcc k a c
            · rcases (by omega : (x < i ∨ (x = i ∧ y < j)) ∨ (x = i ∧ y = j)) with w | w
              · rw [up_nk _ _ _ _ (by omega)]; exact hx x y p q r w
              · rw [w.1, w.2, up_same, e15]
      · refine ok_iconst 20 rfl rfl (by decide) (ok_zret 21 rfl rfl rfl (by first | omega | (simp [up_if]; omega) | (simp [up_if] at *; omega)) ?_)
        refine ⟨_, rfl, fr.rf, hT, hM, Or.inl rfl, g, hz, Or.inl ⟨rfl, fun q => ?_, fun _ _ _ _ _ => rfl⟩⟩
        rcases hz1 with w | w
        · exact w.2 q.2
        · omega
