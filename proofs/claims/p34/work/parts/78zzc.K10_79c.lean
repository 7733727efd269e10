section
/-! SHOW: what is written, as one list -/
def bfl (f : Int → Int) (n : Int) (l : List Int) : Prop := n = (l.length : Int) ∧ ∀ k : Nat, k < l.length → l[k]? = some (f (k : Int))
theorem bfl_app {f g : Int → Int} {n c : Int} {l : List Int} (h : bfl f n l) (hg : ∀ k, g k = if k = n then c else f k) : bfl g (n + 1) (l ++ [c]) := by
  obtain ⟨h1, h2⟩ := h
  have e : (l ++ [c]).length = l.length + 1 := by simp
  refine ⟨by rw [e]; omega, fun k hk => ?_⟩
  rw [e] at hk
  rw [hg]
  by_cases q : k < l.length
  · rw [List.getElem?_append_left q, if_neg (by omega)]
    exact h2 k q
  · have e2 : k = l.length := by omega
    rw [List.getElem?_append_right (by omega), if_pos (by omega), e2]
    simp
/-- a number's digits, from the e-th on -/
def dgI (w : Int) : Nat → List Int
  | 0 => []
  | e + 1 => (48 + w / tn (e : Int) % 10) :: dgI w e
theorem dgI_s {w e : Int} (h : 0 ≤ e) : dgI w (e + 1).toNat = (48 + w / tn e % 10) :: dgI w e.toNat := by
  rw [show (e + 1).toNat = e.toNat + 1 by omega, dgI, Int.toNat_of_nonneg h]
def eN (w : Int) : Int := if w ≤ 9 then 0 else if w ≤ 99 then 1 else if w ≤ 999 then 2 else if w ≤ 9999 then 3 else if w ≤ 99999 then 4 else if w ≤ 999999 then 5 else if w ≤ 9999999 then 6 else if w ≤ 99999999 then 7 else 8
theorem eN_bd (w : Int) : 0 ≤ eN w ∧ eN w ≤ 8 := by unfold eN; omega
theorem eN_of {w e : Int} (hw : 0 ≤ w ∧ w ≤ 799999992) (he : 0 ≤ e ∧ e ≤ 8) (h1 : w / tn e ≤ 9) (h2 : e = 0 ∨ 9 < w / tn (e - 1)) : e = eN w := by
  have t : tn 0 = 1 ∧ tn 1 = 10 ∧ tn 2 = 100 ∧ tn 3 = 1000 ∧ tn 4 = 10000 ∧ tn 5 = 100000 ∧ tn 6 = 1000000 ∧ tn 7 = 10000000 ∧ tn 8 = 100000000 := ⟨rfl, rfl, rfl, rfl, rfl, rfl, rfl, rfl, rfl⟩
  obtain ⟨t0, t1, t2, t3, t4, t5, t6, t7, t8⟩ := t
  rcases (show e = 0 ∨ e = 1 ∨ e = 2 ∨ e = 3 ∨ e = 4 ∨ e = 5 ∨ e = 6 ∨ e = 7 ∨ e = 8 by omega) with q | q | q | q | q | q | q | q | q <;> subst q
  · rw [t0] at h1; unfold eN; omega
  · rw [t1] at h1; rw [show (1 : Int) - 1 = 0 by decide, t0] at h2; unfold eN; omega
  · rw [t2] at h1; rw [show (2 : Int) - 1 = 1 by decide, t1] at h2; unfold eN; omega
  · rw [t3] at h1; rw [show (3 : Int) - 1 = 2 by decide, t2] at h2; unfold eN; omega
  · rw [t4] at h1; rw [show (4 : Int) - 1 = 3 by decide, t3] at h2; unfold eN; omega
  · rw [t5] at h1; rw [show (5 : Int) - 1 = 4 by decide, t4] at h2; unfold eN; omega
  · rw [t6] at h1; rw [show (6 : Int) - 1 = 5 by decide, t5] at h2; unfold eN; omega
  · rw [t7] at h1; rw [show (7 : Int) - 1 = 6 by decide, t6] at h2; unfold eN; omega
  · rw [t8] at h1; rw [show (8 : Int) - 1 = 7 by decide, t7] at h2; unfold eN; omega
def coL (col : Int → Int) : Nat → List Int
  | 0 => []
  | k + 1 => coL col k ++ [48 + col (k : Int)]
theorem coL_s {col : Int → Int} {k : Int} (h : 0 ≤ k) : coL col (k + 1).toNat = coL col k.toNat ++ [48 + col k] := by
  rw [show (k + 1).toNat = k.toNat + 1 by omega, coL, Int.toNat_of_nonneg h]
theorem coL_cg {f g : Int → Int} : ∀ {k : Nat}, (∀ i : Int, 0 ≤ i → i < k → f i = g i) → coL f k = coL g k
  | 0, _ => rfl
  | k + 1, h => by rw [coL, coL, coL_cg (fun i a b => h i a (by omega)), h k (by omega) (by omega)]
def shL (wt : Int → Int) (col : Int → Int → Int) (n : Int) : Nat → List Int
  | 0 => []
  | p + 1 => shL wt col n p ++ dgI (wt (p : Int)) (eN (wt (p : Int)) + 1).toNat ++ [58] ++ coL (col (p : Int)) n.toNat ++ [59]
theorem shL_s {wt : Int → Int} {col : Int → Int → Int} {n p : Int} (h : 0 ≤ p) : shL wt col n (p + 1).toNat = shL wt col n p.toNat ++ dgI (wt p) (eN (wt p) + 1).toNat ++ [58] ++ coL (col p) n.toNat ++ [59] := by
  rw [show (p + 1).toNat = p.toNat + 1 by omega, shL, Int.toNat_of_nonneg h]
theorem shL_cg {wt wt' : Int → Int} {col col' : Int → Int → Int} {n : Int} : ∀ {p : Nat}, (∀ q : Int, 0 ≤ q → q < p → wt q = wt' q ∧ ∀ i, 0 ≤ i → i < n → col q i = col' q i) → shL wt col n p = shL wt' col' n p
  | 0, _ => rfl
  | p + 1, h => by
    obtain ⟨a, b⟩ := h p (by omega) (by omega)
    rw [shL, shL, shL_cg (fun q x y => h q x (by omega)), a, coL_cg (fun i x y => b i x (by omega))]
/-! the class -/
theorem t_Sh_put {σ : eS} {z : Int} (h : 0 ≤ σ 46 1 ∧ σ 46 1 < 1216) : MtV shA M_Sh_put [vr 46, vi z] σ (fun σ' => fr rgS1 σ σ' ∧ σ' 46 1 = σ 46 1 + 1 ∧ ∀ k, σ' 47 k = if k = σ 46 1 then z else σ 47 k) := by
  refine Mt.of okM_Sh_put (Nat.le_of_ble_eq_true rfl) (fun hk hg => ?_)
  refine ok_aload_n 0 rfl rfl rfl (ok_getI 1 rfl rfl fl_X8_15 rfl rfl (Or.inl rfl) (ok_sipush 2 rfl rfl (by decide) (by decide) (ok_icmp_ge 3 30 rfl rfl rfl (fun h7 => ?_) (fun h7 => ?_))))
  · exfalso; omega
  · refine ok_aload_n 4 rfl rfl rfl (ok_getR 5 rfl rfl fl_X8_11 rfl rfl (ok_aload_n 6 rfl rfl rfl (ok_getI 7 rfl rfl fl_X8_15 rfl rfl (Or.inl rfl) (ok_iload_n 8 rfl rfl rfl (ok_iast 9 rfl rfl rfl (by first | omega | (simp [up_if]; omega) | (simp [up_if] at *; omega)) (ok_aload_n 10 rfl rfl rfl (ok_dup 11 rfl rfl rfl (ok_getI 12 rfl rfl fl_X8_15 rfl rfl (Or.inl rfl) (ok_iconst 13 rfl rfl (by decide) (ok_iadd 14 rfl rfl (by first | omega | (simp [up_if]; omega) | (simp [up_if] at *; omega)) (ok_putI 15 rfl rfl fl_X8_15 rfl rfl rfl rfl (ok_vret 16 rfl rfl rfl ?_))))))))))))
    refine ⟨rfl, fr_up (fr_up fr.rf (by simp [rgS1])) (by simp [rgS1]), by simp [up_if], fun k => ?_⟩
    rw [up_ne _ _ _ _ (by decide), up_if]
    by_cases q : k = σ 46 1
    · rw [if_pos ⟨rfl, q⟩, if_pos q]
    · rw [if_neg (fun y => q y.2), if_neg q]
theorem t_Sh_putNumber {σ : eS} {z : Int} {l : List Int} (hz : 0 ≤ z ∧ z ≤ 799999992) (hl : 0 ≤ σ 46 1 ∧ σ 46 1 + 9 ≤ 1216) (hb : bfl (fun k => σ 47 k) (σ 46 1) l) : MtV shA M_Sh_putNumber [vr 46, vi z] σ (fun σ' => fr rgS1 σ σ' ∧ (0 ≤ σ' 46 1 ∧ σ' 46 1 ≤ σ 46 1 + 9) ∧ bfl (fun k => σ' 47 k) (σ' 46 1) (l ++ dgI z (eN z + 1).toNat)) := by
  refine Mt.of okM_Sh_putNumber (Nat.le_of_ble_eq_true rfl) (fun hk hg => ?_)
  have eb := eN_bd z
  refine ok_iconst 0 rfl rfl (by decide) (ok_ist2 1 rfl rfl rfl (ok_iconst 2 rfl rfl (by decide) (ok_ist3 3 rfl rfl rfl ?_)))
  refine lpO (fun (j : Int) => [some (vr 46), some (vi z), some (vi (tn j)), some (vi j)]) (fun _ => σ) (fun j => 0 ≤ j ∧ j ≤ 8 ∧ (j = 0 ∨ 9 < z / tn (j - 1))) (fun j => (9 - j).toNat) ?_ 0 ⟨by omega, by omega, Or.inl rfl⟩
  rintro j ⟨j1, j2, j3⟩ ih
  obtain ⟨t1, t2, t3⟩ := tn_s (e := j) ⟨j1, j2⟩
  have dv := div_bd (u := z) (g := tn j) (B := 799999992) hz t2
  refine ok_iload_n 4 rfl rfl rfl (ok_bipush 5 rfl rfl (by decide) (by decide) (ok_icmp_ge 6 29 rfl rfl rfl (fun h7 => ?_) (fun h7 => ?_)))
  · exfalso; omega
  · refine ok_iload_n 7 rfl rfl rfl (ok_iload_n 8 rfl rfl rfl (ok_idiv 9 rfl rfl (by first | omega | (simp [up_if]; omega) | (simp [up_if] at *; omega)) (by first | omega | (simp [up_if]; omega) | (simp [up_if] at *; omega)) (ok_bipush 10 rfl rfl (by decide) (by decide) (ok_icmp_le 11 29 rfl rfl rfl (fun h15 => ?_) (fun h15 => ?_)))))
    · refine ok_iconst 18 rfl rfl (by decide) (ok_ist3 19 rfl rfl rfl ?_)
      have ej := eN_of hz ⟨j1, j2⟩ (by omega) j3
      clear ih j3 h15 dv t1 t2 t3
      refine lpO3 (fun (e c : Int) (_ : eS) => [some (vr 46), some (vi z), some (vi (tn e)), some (vi c)]) (fun _ _ ρ => ρ) (fun e c ρ => (-1 ≤ e ∧ e ≤ eN z ∧ c = eN z - e) ∧ fr rgS1 σ ρ ∧ ρ 46 1 = σ 46 1 + c ∧ ∃ l', bfl (fun k => ρ 47 k) (ρ 46 1) l' ∧ l' ++ dgI z (e + 1).toNat = l ++ dgI z (eN z + 1).toNat) (fun e _ _ => (e + 1).toNat) ?_ j 0 σ ⟨⟨by omega, by omega, by omega⟩, fr.rf, by omega, l, hb, by rw [ej]⟩
      clear ej h7 j1 j2 j
      rintro e c ρ ⟨⟨e1, e2, e3⟩, f, s1, l', hb', hl'⟩ ih
      refine ok_iload_n 20 rfl rfl rfl (ok_bipush 21 rfl rfl (by decide) (by decide) (ok_icmp_ge 22 65 rfl rfl rfl (fun h34 => ?_) (fun h34 => ?_)))
      · exfalso; omega
      · refine ok_iload_n 23 rfl rfl rfl (ok_if_le 24 65 rfl rfl rfl (fun h38 => ?_) (fun h38 => ?_))
        · refine ok_vret 40 rfl rfl rfl ?_
          have e0 : e = -1 := by
            by_cases q : 0 ≤ e
            · have := (tn_s (e := e) ⟨q, by omega⟩).2.1; omega
            · omega
          refine ⟨rfl, f, ⟨by omega, by omega⟩, ?_⟩
          rw [← hl', e0]
          show bfl _ _ (l' ++ [])
          rw [List.append_nil]
          exact hb'
        · have e0 : 0 ≤ e := tn_n (by omega)
          obtain ⟨t1, t2, t3⟩ := tn_s (e := e) ⟨e0, by omega⟩
          have dv := div_bd (u := z) (g := tn e) (B := 799999992) hz t2
          refine ok_aload_n 25 rfl rfl rfl (ok_bipush 26 rfl rfl (by decide) (by decide) (ok_iload_n 27 rfl rfl rfl (ok_iload_n 28 rfl rfl rfl (ok_idiv 29 rfl rfl (by first | omega | (simp [up_if]; omega) | (simp [up_if] at *; omega)) (by first | omega | (simp [up_if]; omega) | (simp [up_if] at *; omega)) (ok_bipush 30 rfl rfl (by decide) (by decide) (ok_irem 31 rfl rfl (by first | omega | (simp [up_if]; omega) | (simp [up_if] at *; omega)) (by first | omega | (simp [up_if]; omega) | (simp [up_if] at *; omega)) (ok_iadd 32 rfl rfl (by first | omega | (simp [up_if]; omega) | (simp [up_if] at *; omega)) (ok_callVV (M' := M_Sh_put) (as := [_]) 33 rfl rfl ml_X8_31 (t_Sh_put ⟨by omega, by omega⟩) rfl rfl (Nat.le_of_ble_eq_true rfl) ⟨Nat.le_of_ble_eq_true rfl, Nat.le_of_ble_eq_true rfl⟩ rfl (Nat.le_of_ble_eq_true rfl) (fun τ f1 => ?_)))))))))
          refine ok_iload_n 34 rfl rfl rfl (ok_bipush 35 rfl rfl (by decide) (by decide) (ok_idiv 36 rfl rfl (by first | omega | (simp [up_if]; omega) | (simp [up_if] at *; omega)) (by first | omega | (simp [up_if]; omega) | (simp [up_if] at *; omega)) (ok_ist2 37 rfl rfl rfl (ok_inc3 38 rfl rfl rfl (by first | omega | (simp [up_if]; omega) | (simp [up_if] at *; omega)) (ok_goto 39 31 rfl rfl rfl ?_)))))
          rw [tn_d ⟨e0, by omega⟩]
          refine ih (e - 1) (c + 1) τ ⟨⟨by omega, by omega, by omega⟩, f.tr f1.1, by rw [f1.2.1]; omega, l' ++ [48 + z / tn e % 10], by rw [f1.2.1]; exact bfl_app hb' f1.2.2, ?_⟩ (by omega)
          rw [← hl', dgI_s e0, show e - 1 + 1 = e by omega, List.append_assoc]
          rfl
    · have e8 : j ≠ 8 := by
        intro q
        rw [q, tn_8] at h15
        omega
      refine ok_iload_n 12 rfl rfl rfl (ok_bipush 13 rfl rfl (by decide) (by decide) (ok_imul 14 rfl rfl (by first | omega | (simp [up_if]; omega) | (simp [up_if] at *; omega)) (ok_ist2 15 rfl rfl rfl (ok_inc3 16 rfl rfl rfl (by first | omega | (simp [up_if]; omega) | (simp [up_if] at *; omega)) (ok_goto 17 4 rfl rfl rfl ?_)))))
      rw [t1]
      exact ih (j + 1) ⟨by omega, by omega, Or.inr (by rw [show j + 1 - 1 = j by omega]; omega)⟩ (by omega)
theorem t_Sh_write {σ : eS} (hm : iMi σ) : MtV shA M_Sh_write [vr 46, vr 22] σ (fun σ' => fr rgS1 σ σ' ∧ iSh σ' ∧ bfl (fun k => σ' 47 k) (σ' 46 1) (shL (wA σ) (kA σ) (σ 22 4) (σ 22 5).toNat)) := by
  refine Mt.of okM_Sh_write (Nat.le_of_ble_eq_true rfl) (fun hk hg => ?_)
  obtain ⟨⟨h1, h2, h3, h4, h5, h6, h7⟩, a, b, d⟩ := id hm
  refine ok_aload_n 0 rfl rfl rfl (ok_iconst 1 rfl rfl (by decide) (ok_putI 2 rfl rfl fl_X8_15 rfl rfl rfl rfl (ok_iconst 3 rfl rfl (by decide) (ok_ist2 4 rfl rfl rfl ?_))))
  refine lpO2 (fun (k : Int) (_ : eS) => [some (vr 46), some (vr 22), some (vi k), none]) (fun _ ρ => ρ) (fun k ρ => 0 ≤ k ∧ k ≤ σ 22 5 ∧ fr rgS1 σ ρ ∧ (0 ≤ ρ 46 1 ∧ ρ 46 1 ≤ 19 * k) ∧ bfl (fun k => ρ 47 k) (ρ 46 1) (shL (wA σ) (kA σ) (σ 22 4) k.toNat)) (fun k _ => (64 - k).toNat) ?_ 0 _ ⟨by omega, by omega, fr_up fr.rf (by simp [rgS1]), by simp [up_if], by simp [up_if, shL], fun k hk => by cases hk⟩
  rintro k ρ ⟨k1, k2, f, hS, hb⟩ ih
  have e5 : ρ 22 5 = σ 22 5 := f 22 5 (by simp [rgS1])
  refine ok_iload_n 5 rfl rfl rfl (ok_aload_n 6 rfl rfl rfl (ok_getI 7 rfl rfl fl_X8_19 rfl rfl (Or.inl rfl) (ok_icmp_ge 8 72 rfl rfl rfl (fun h12 => ?_) (fun h12 => ?_))))
  · refine ok_vret 39 rfl rfl rfl ?_
    exact ⟨rfl, f, ⟨hS.1, by omega⟩, by rw [show σ 22 5 = k by omega]; exact hb⟩
  · have w0 := mi_bd hm k1 (by omega)
    have ew : ρ 23 k = wA σ k := f 23 k (by simp [rgS1])
    have wk0 : wA σ k = σ 23 k := rfl
    refine ok_aload_n 9 rfl rfl rfl (ok_aload_n 10 rfl rfl rfl (ok_getR 11 rfl rfl fl_X8_24 rfl rfl (ok_iload_n 12 rfl rfl rfl (ok_iald 13 rfl rfl rfl (by first | omega | (simp [up_if]; omega) | (simp [up_if] at *; omega)) (ok_callVV (M' := M_Sh_putNumber) (as := [_]) 14 rfl rfl ml_X8_27 (t_Sh_putNumber ⟨by omega, by omega⟩ ⟨hS.1, by omega⟩ hb) rfl rfl (Nat.le_of_ble_eq_true rfl) ⟨Nat.le_of_ble_eq_true rfl, Nat.le_of_ble_eq_true rfl⟩ rfl (Nat.le_of_ble_eq_true rfl) (fun ρ1 f1 => ?_))))))
    obtain ⟨g1, g2, g3⟩ := f1
    rw [ew] at g3
    refine ok_aload_n 15 rfl rfl rfl (ok_bipush 16 rfl rfl (by decide) (by decide) (ok_callVV (M' := M_Sh_put) (as := [_]) 17 rfl rfl ml_X8_31 (t_Sh_put ⟨by omega, by omega⟩) rfl rfl (Nat.le_of_ble_eq_true rfl) ⟨Nat.le_of_ble_eq_true rfl, Nat.le_of_ble_eq_true rfl⟩ rfl (Nat.le_of_ble_eq_true rfl) (fun ρ2 f2 => ?_)))
    obtain ⟨u1, u2, u3⟩ := f2
    have b2 := bfl_app g3 u3
    rw [← u2] at b2
    refine ok_iconst 18 rfl rfl (by decide) (ok_ist3 19 rfl rfl rfl ?_)
    have f3 := (f.tr g1).tr u1
    obtain ⟨B, eB⟩ : ∃ B, B = shL (wA σ) (kA σ) (σ 22 4) k.toNat ++ dgI (wA σ k) (eN (wA σ k) + 1).toNat ++ [58] := ⟨_, rfl⟩
    rw [← eB] at b2
    refine lpO2 (fun (j : Int) (_ : eS) => [some (vr 46), some (vr 22), some (vi k), some (vi j)]) (fun _ ρ => ρ) (fun j ρ => 0 ≤ j ∧ j ≤ σ 22 4 ∧ fr rgS1 σ ρ ∧ (0 ≤ ρ 46 1 ∧ ρ 46 1 ≤ 19 * k + 10 + j) ∧ bfl (fun k => ρ 47 k) (ρ 46 1) (B ++ coL (kA σ k) j.toNat)) (fun j _ => (8 - j).toNat) ?_ 0 ρ2 ⟨by omega, by omega, f3, ⟨by omega, by omega⟩, by show bfl _ _ (B ++ []); rw [List.append_nil]; exact b2⟩
    have kl : k < σ 22 5 := by omega
    clear f3 b2 u1 u2 u3 ρ2 g1 g2 g3 ρ1 w0 e5 ew h12 f hS hb ρ
    rintro j ρ ⟨j1, j2, f, hS, hb⟩ ih2
    have e4 : ρ 22 4 = σ 22 4 := f 22 4 (by simp [rgS1])
    refine ok_iload_n 20 rfl rfl rfl (ok_aload_n 21 rfl rfl rfl (ok_getI 22 rfl rfl fl_X8_34 rfl rfl (Or.inl rfl) (ok_icmp_ge 23 60 rfl rfl rfl (fun h38 => ?_) (fun h38 => ?_))))
    · refine ok_aload_n 34 rfl rfl rfl (ok_bipush 35 rfl rfl (by decide) (by decide) (ok_callVV (M' := M_Sh_put) (as := [_]) 36 rfl rfl ml_X8_31 (t_Sh_put ⟨by omega, by omega⟩) rfl rfl (Nat.le_of_ble_eq_true rfl) ⟨Nat.le_of_ble_eq_true rfl, Nat.le_of_ble_eq_true rfl⟩ rfl (Nat.le_of_ble_eq_true rfl) (fun ρ1 f1 => ?_)))
      refine ok_inc2 37 rfl rfl rfl (by first | omega | (simp [up_if]; omega) | (simp [up_if] at *; omega)) (ok_goto 38 7 rfl rfl rfl ?_)
      obtain ⟨u1, u2, u3⟩ := f1
      have b2 := bfl_app hb u3
      rw [← u2, show j = σ 22 4 by omega, eB, ← shL_s k1] at b2
      exact ok_fg [some (vr 46), some (vr 22), some (vi (k + 1)), none] ⟨rfl, rfl, rfl, trivial⟩ (ih (k + 1) ρ1 ⟨by omega, by omega, f.tr u1, ⟨by omega, by omega⟩, b2⟩ (by omega))
    · refine ok_aload_n 24 rfl rfl rfl (ok_bipush 25 rfl rfl (by decide) (by decide) (ok_aload_n 26 rfl rfl rfl (ok_iload_n 27 rfl rfl rfl (ok_iload_n 28 rfl rfl rfl (ok_callVI (M' := M_Mi_columnOf) (as := [_, _]) 29 rfl rfl ml_X8_37 (s_Mi_columnOf (iMi_cg hm (fun c k a b => f c k (by simp only [rgS1]; omega))) ⟨k1, by omega⟩ ⟨j1, by omega⟩) rfl rfl (Nat.le_of_ble_eq_true rfl) ⟨Nat.le_of_ble_eq_true rfl, Nat.le_of_ble_eq_true rfl⟩ rfl (Nat.le_of_ble_eq_true rfl) (fun σ' z hz => ?_))))))
      obtain ⟨hs_, hz⟩ := hz
      rw [hs_]; clear hs_ σ'
      have ez : z = kA σ k j := by rw [hz.1, f 24 _ (by simp [rgS1])]; unfold kA; congr 1; omega
      refine ok_iadd 30 rfl rfl (by first | omega | (simp [up_if]; omega) | (simp [up_if] at *; omega)) (ok_callVV (M' := M_Sh_put) (as := [_]) 31 rfl rfl ml_X8_31 (t_Sh_put ⟨by omega, by omega⟩) rfl rfl (Nat.le_of_ble_eq_true rfl) ⟨Nat.le_of_ble_eq_true rfl, Nat.le_of_ble_eq_true rfl⟩ rfl (Nat.le_of_ble_eq_true rfl) (fun ρ1 f1 => ?_))
      refine ok_inc3 32 rfl rfl rfl (by first | omega | (simp [up_if]; omega) | (simp [up_if] at *; omega)) (ok_goto 33 33 rfl rfl rfl ?_)
      obtain ⟨u1, u2, u3⟩ := f1
      have b2 := bfl_app hb u3
      rw [← u2, ez, List.append_assoc, ← coL_s j1] at b2
      exact ih2 (j + 1) ρ1 ⟨by omega, by omega, f.tr u1, ⟨by omega, by omega⟩, b2⟩ (by omega)
theorem t_Ev_show {σ : eS} (h : IA σ) : MtI shA M_Ev_show [vr 0] σ (fun σ' z => QAw σ σ' ∧ z = σ' 46 1 ∧ bfl (fun k => σ' 47 k) (σ' 46 1) (shL (wA σ) (kA σ) (σ 22 4) (σ 22 5).toNat)) := by
  refine Mt.of okM_Ev_show (Nat.le_of_ble_eq_true rfl) (fun hk hg => ?_)
  refine ok_aload_n 0 rfl rfl rfl (ok_getR 1 rfl rfl fl_X11_69 rfl rfl (ok_aload_n 2 rfl rfl rfl (ok_getR 3 rfl rfl fl_X11_48 rfl rfl (ok_callVV (M' := M_Sh_write) (as := [_]) 4 rfl rfl ml_X11_286 (t_Sh_write h.2.2.2.1) rfl rfl (Nat.le_of_ble_eq_true rfl) ⟨Nat.le_of_ble_eq_true rfl, Nat.le_of_ble_eq_true rfl⟩ rfl (Nat.le_of_ble_eq_true rfl) (fun τ f => ?_)))))
  refine ok_aload_n 5 rfl rfl rfl (ok_getR 6 rfl rfl fl_X11_69 rfl rfl (ok_getI 7 rfl rfl fl_X11_290 rfl rfl (Or.inl rfl) (ok_iret 8 rfl rfl rfl ?_)))
  refine ⟨_, rfl, ⟨⟨?_, iTs_cg h.2.1 (fun c k a b d => f.1 c k (by simp only [rgS1]; omega)), iCh_cg h.2.2.1 (fun k => f.1 _ k (by simp [rgS1])), iMi_cg h.2.2.2.1 (fun c k a b => f.1 c k (by simp only [rgS1]; omega)), f.2.1, iSu_cg h.2.2.2.2.2 (fun k => f.1 _ k (by simp [rgS1]))⟩, ⟨fun k => f.1 _ k (by simp [rgS1]), fun k => f.1 _ k (by simp [rgS1])⟩, fun c k a b d => f.1 c k (by simp only [rgS1]; omega), fun c k a b => f.1 c k (by simp only [rgS1]; omega), mkS_fr (by decide) f.1 (by simp [rgS1]) (fun k => by simp [rgS1])⟩, rfl, f.2.2⟩
  unfold tL
  rw [f.1 10 3 (by simp [rgS1])]
  exact h.1
def ouS (n : Int) (f : Int → Int) (i z : Int) : Prop := (z = -1 ∧ ¬ (0 ≤ i ∧ i < n)) ∨ ((0 ≤ i ∧ i < n) ∧ z = f i)
theorem t_Ev_out {σ : eS} {i : Int} (h : IA σ) : MtI shA M_Ev_out [vr 0, vi i] σ (fun σ' z => σ' = σ ∧ ouS (σ 46 1) (fun k => σ 47 k) i z) := by
  refine Mt.of okM_Ev_out (Nat.le_of_ble_eq_true rfl) (fun hk hg => ?_)
  have h1 := h.2.2.2.2.1.1
  have h2 := h.2.2.2.2.1.2
  refine ok_iload_n 0 rfl rfl rfl (ok_if_lt 1 15 rfl rfl rfl (fun h1 => ?_) (fun h1 => ?_))
  · refine ok_iconst 7 rfl rfl (by decide) (ok_goto 8 28 rfl rfl rfl (ok_iret 14 rfl rfl rfl ?_))
    refine ⟨_, rfl, rfl, ?_⟩
    first | exact Or.inl ⟨rfl, by omega⟩ | exact Or.inr ⟨by omega, rfl⟩
  · refine ok_iload_n 2 rfl rfl rfl (ok_aload_n 3 rfl rfl rfl (ok_getR 4 rfl rfl fl_X11_69 rfl rfl (ok_getI 5 rfl rfl fl_X11_290 rfl rfl (Or.inl rfl) (ok_icmp_lt 6 19 rfl rfl rfl (fun h12 => ?_) (fun h12 => ?_)))))
    · refine ok_aload_n 9 rfl rfl rfl (ok_getR 10 rfl rfl fl_X11_69 rfl rfl (ok_getR 11 rfl rfl fl_X11_291 rfl rfl (ok_iload_n 12 rfl rfl rfl (ok_iald 13 rfl rfl rfl (by first | omega | (simp [up_if]; omega) | (simp [up_if] at *; omega)) (ok_iret 14 rfl rfl rfl ?_)))))
      refine ⟨_, rfl, rfl, ?_⟩
      first | exact Or.inl ⟨rfl, by omega⟩ | exact Or.inr ⟨by omega, rfl⟩
    · refine ok_iconst 7 rfl rfl (by decide) (ok_goto 8 28 rfl rfl rfl (ok_iret 14 rfl rfl rfl ?_))
      refine ⟨_, rfl, rfl, ?_⟩
      first | exact Or.inl ⟨rfl, by omega⟩ | exact Or.inr ⟨by omega, rfl⟩
/-! the reference -/
theorem t_Mo_says {σ : eS} {b : Int} (h : 0 ≤ σ 0 42 ∧ σ 0 42 < 1400) : MtV shB M_Mo_says [vr 0, vi b] σ (fun σ' => fr rgW σ σ' ∧ σ' 0 42 = σ 0 42 + 1 ∧ ∀ k, σ' 23 k = if k = σ 0 42 then b else σ 23 k) := by
  refine Mt.of okM_Mo_says (Nat.le_of_ble_eq_true rfl) (fun hk hg => ?_)
  refine ok_aload_n 0 rfl rfl rfl (ok_getR 1 rfl rfl fl_X12_82 rfl rfl (ok_aload_n 2 rfl rfl rfl (ok_getI 3 rfl rfl fl_X12_357 rfl rfl (Or.inl rfl) (ok_iload_n 4 rfl rfl rfl (ok_iast 5 rfl rfl rfl (by first | omega | (simp [up_if]; omega) | (simp [up_if] at *; omega)) (ok_aload_n 6 rfl rfl rfl (ok_dup 7 rfl rfl rfl (ok_getI 8 rfl rfl fl_X12_357 rfl rfl (Or.inl rfl) (ok_iconst 9 rfl rfl (by decide) (ok_iadd 10 rfl rfl (by first | omega | (simp [up_if]; omega) | (simp [up_if] at *; omega)) (ok_putI 11 rfl rfl fl_X12_357 rfl rfl rfl rfl (ok_vret 12 rfl rfl rfl ?_))))))))))))
  refine ⟨rfl, fr_up (fr_up fr.rf (by simp [rgW])) (by simp [rgW]), by simp [up_if], fun k => ?_⟩
  rw [up_ne _ _ _ _ (by decide), up_if]
  by_cases q : k = σ 0 42
  · rw [if_pos ⟨rfl, q⟩, if_pos q]
  · rw [if_neg (fun y => q y.2), if_neg q]
theorem t_Mo_show {σ : eS} (h : iK σ) : MtI shB M_Mo_show [vr 0] σ (fun σ' z => fr rgW σ σ' ∧ (0 ≤ σ' 0 42 ∧ σ' 0 42 ≤ 1216) ∧ z = σ' 0 42 ∧ bfl (fun k => σ' 23 k) (σ' 0 42) (shL (wB σ) (kB σ) (σ 0 28) (σ 0 27).toNat)) := by
  refine Mt.of okM_Mo_show (Nat.le_of_ble_eq_true rfl) (fun hk hg => ?_)
  obtain ⟨k1, k2, k3, k4, k5, k6, -⟩ := id h
  refine ok_aload_n 0 rfl rfl rfl (ok_iconst 1 rfl rfl (by decide) (ok_putI 2 rfl rfl fl_X12_357 rfl rfl rfl rfl (ok_iconst 3 rfl rfl (by decide) (ok_ist1 4 rfl rfl rfl ?_))))
  refine lpO2 (fun (p : Int) (_ : eS) => [some (vr 0), some (vi p), none, none]) (fun _ ρ => ρ) (fun p ρ => 0 ≤ p ∧ p ≤ σ 0 27 ∧ fr rgW σ ρ ∧ (0 ≤ ρ 0 42 ∧ ρ 0 42 ≤ 19 * p) ∧ bfl (fun k => ρ 23 k) (ρ 0 42) (shL (wB σ) (kB σ) (σ 0 28) p.toNat)) (fun p _ => (64 - p).toNat) ?_ 0 _ ⟨by omega, by omega, fr_up fr.rf (by simp [rgW]), by simp [up_if], by simp [up_if, shL], fun k hk => by cases hk⟩
  rintro p ρ ⟨p1, p2, f, s1, hb⟩ ih
  have e27 : ρ 0 27 = σ 0 27 := f 0 27 (by simp only [rgW]; omega)
  refine ok_iload_n 5 rfl rfl rfl (ok_aload_n 6 rfl rfl rfl (ok_getI 7 rfl rfl fl_X12_273 rfl rfl (Or.inl rfl) (ok_icmp_ge 8 120 rfl rfl rfl (fun h12 => ?_) (fun h12 => ?_))))
  · refine ok_aload_n 71 rfl rfl rfl (ok_getI 72 rfl rfl fl_X12_357 rfl rfl (Or.inl rfl) (ok_iret 73 rfl rfl rfl ?_))
    exact ⟨_, rfl, f, ⟨s1.1, by omega⟩, rfl, by rw [show σ 0 27 = p by omega]; exact hb⟩
  · have plt : p < σ 0 27 := by omega
    obtain ⟨w1, w2⟩ := wt_le h p1 plt
    refine ok_iconst 9 rfl rfl (by decide) (ok_ist2 10 rfl rfl rfl ?_)
    have e12 : ρ 12 p = σ 12 p := f 12 p (by simp only [rgW]; omega)
    have wp : wB σ p = σ 12 p := rfl
    have eb := eN_bd (σ 12 p)
    refine lpO (fun e : Int => [some (vr 0), some (vi p), some (vi (tn e)), none]) (fun _ => ρ) (fun e => 0 ≤ e ∧ e ≤ 8 ∧ (e = 0 ∨ 9 < σ 12 p / tn (e - 1))) (fun e => (8 - e).toNat) ?_ 0 ⟨by omega, by omega, Or.inl rfl⟩
    rintro e ⟨e1, e2, e3⟩ ih2
    obtain ⟨t1, t2, t3⟩ := tn_s ⟨e1, e2⟩
    have dv := div_bd (u := ρ 12 p) (g := tn e) (B := 799999992) ⟨by omega, by omega⟩ t2
    refine ok_aload_n 11 rfl rfl rfl (ok_getR 12 rfl rfl fl_X12_48 rfl rfl (ok_iload_n 13 rfl rfl rfl (ok_iald 14 rfl rfl rfl (by first | omega | (simp [up_if]; omega) | (simp [up_if] at *; omega)) (ok_iload_n 15 rfl rfl rfl (ok_idiv 16 rfl rfl (by first | omega | (simp [up_if]; omega) | (simp [up_if] at *; omega)) (by first | omega | (simp [up_if]; omega) | (simp [up_if] at *; omega)) (ok_bipush 17 rfl rfl (by decide) (by decide) (ok_icmp_le 18 38 rfl rfl rfl (fun h27 => ?_) (fun h27 => ?_))))))))
    · clear ih2
      rw [e12] at h27
      have ee := eN_of (w := σ 12 p) ⟨by omega, by omega⟩ ⟨e1, e2⟩ (by omega) e3
      obtain ⟨L, eL⟩ : ∃ L, L = shL (wB σ) (kB σ) (σ 0 28) p.toNat ++ dgI (wB σ p) (eN (wB σ p) + 1).toNat := ⟨_, rfl⟩
      refine lpO2 (fun (e : Int) (_ : eS) => [some (vr 0), some (vi p), some (vi (tn e)), none]) (fun _ υ => υ) (fun e υ => -1 ≤ e ∧ e ≤ 8 ∧ fr rgW σ υ ∧ 0 ≤ υ 0 42 ∧ υ 0 42 + e ≤ 19 * p + 8 ∧ ∃ l', bfl (fun k => υ 23 k) (υ 0 42) l' ∧ l' ++ dgI (σ 12 p) (e + 1).toNat = L) (fun e _ => (e + 1).toNat) ?_ e ρ ⟨by omega, by omega, f, s1.1, by omega, _, hb, by rw [eL, wp, ee]⟩
      clear t1 t2 t3 dv h12 h27 e1 e2 e3 ee e e27 s1 f hb e12 ρ
      rintro e υ ⟨e1, e2, f, s1, s2, l', hb', hl'⟩ ih2
      have e12 : υ 12 p = σ 12 p := f 12 p (by simp only [rgW]; omega)
      refine ok_iload_n 24 rfl rfl rfl (ok_if_le 25 68 rfl rfl rfl (fun h39 => ?_) (fun h39 => ?_))
      · have e0 : e = -1 := by
          by_cases q : 0 ≤ e
          · have := (tn_s ⟨q, e2⟩).2.1; omega
          · omega
        have hbL : bfl (fun k => υ 23 k) (υ 0 42) L := by
          rw [← hl', e0]
          show bfl _ _ (l' ++ [])
          rw [List.append_nil]
          exact hb'
        refine ok_aload_n 43 rfl rfl rfl (ok_bipush 44 rfl rfl (by decide) (by decide) (ok_callVV (M' := M_Mo_says) (as := [_]) 45 rfl rfl ml_X12_360 (t_Mo_says ⟨s1, by omega⟩) rfl rfl (Nat.le_of_ble_eq_true rfl) ⟨Nat.le_of_ble_eq_true rfl, Nat.le_of_ble_eq_true rfl⟩ rfl (Nat.le_of_ble_eq_true rfl) (fun υ' hz => ?_)))
        obtain ⟨u1, u2, u3⟩ := hz
        have f' := f.tr u1
        have b2 := bfl_app hbL u3
        rw [← u2] at b2
        refine ok_iconst 46 rfl rfl (by decide) (ok_ist3 47 rfl rfl rfl ?_)
        refine lpO2 (fun (i : Int) (_ : eS) => [some (vr 0), some (vi p), some (vi (tn e)), some (vi i)]) (fun _ υ => υ) (fun i υ => 0 ≤ i ∧ i ≤ σ 0 28 ∧ fr rgW σ υ ∧ (0 ≤ υ 0 42 ∧ υ 0 42 ≤ 19 * p + 10 + i) ∧ bfl (fun k => υ 23 k) (υ 0 42) (L ++ [58] ++ coL (kB σ p) i.toNat)) (fun i _ => (8 - i).toNat) ?_ 0 υ' ⟨by omega, by omega, f', ⟨by omega, by omega⟩, by show bfl _ _ (L ++ [58] ++ []); rw [List.append_nil]; exact b2⟩
        clear e12 s1 s2 f f' hb' hl' hbL b2 u1 u2 u3 ih2
        rintro i υ ⟨i1, i2, f, s1, hb⟩ ih2
        have e28 : υ 0 28 = σ 0 28 := f 0 28 (by simp only [rgW]; omega)
        have e13 : ∀ k, υ 13 k = σ 13 k := fun k => f 13 k (by simp only [rgW]; omega)
        have kp : kB σ p i = σ 13 (8 * p + i) := rfl
        refine ok_iload_n 48 rfl rfl rfl (ok_aload_n 49 rfl rfl rfl (ok_getI 50 rfl rfl fl_X12_276 rfl rfl (Or.inl rfl) (ok_icmp_ge 51 108 rfl rfl rfl (fun h81 => ?_) (fun h81 => ?_))))
        · refine ok_aload_n 66 rfl rfl rfl (ok_bipush 67 rfl rfl (by decide) (by decide) (ok_callVV (M' := M_Mo_says) (as := [_]) 68 rfl rfl ml_X12_360 (t_Mo_says ⟨s1.1, by omega⟩) rfl rfl (Nat.le_of_ble_eq_true rfl) ⟨Nat.le_of_ble_eq_true rfl, Nat.le_of_ble_eq_true rfl⟩ rfl (Nat.le_of_ble_eq_true rfl) (fun υ'' hz => ?_)))
          refine ok_inc1 69 rfl rfl rfl (by first | omega | (simp [up_if]; omega) | (simp [up_if] at *; omega)) (ok_goto 70 7 rfl rfl rfl ?_)
          obtain ⟨u1, u2, u3⟩ := hz
          have b2 := bfl_app hb u3
          rw [← u2, show i = σ 0 28 by omega, eL, ← shL_s p1] at b2
          exact ok_fg [some (vr 0), some (vi (p + 1)), none, none] ⟨rfl, rfl, trivial⟩ (ih (p + 1) _ ⟨by omega, by omega, f.tr u1, ⟨by omega, by omega⟩, b2⟩ (by omega))
        · have hc := h.2.2.2.2.2.2.2.1 p i p1 (by omega) i1 (by omega)
          rw [← e13] at hc
          refine ok_aload_n 52 rfl rfl rfl (ok_bipush 53 rfl rfl (by decide) (by decide) (ok_aload_n 54 rfl rfl rfl (ok_getR 55 rfl rfl fl_X12_51 rfl rfl (ok_bipush 56 rfl rfl (by decide) (by decide) (ok_iload_n 57 rfl rfl rfl (ok_imul 58 rfl rfl (by first | omega | (simp [up_if]; omega) | (simp [up_if] at *; omega)) (ok_iload_n 59 rfl rfl rfl (ok_iadd 60 rfl rfl (by first | omega | (simp [up_if]; omega) | (simp [up_if] at *; omega)) (ok_iald 61 rfl rfl rfl (by first | omega | (simp [up_if]; omega) | (simp [up_if] at *; omega)) (ok_iadd 62 rfl rfl (by first | omega | (simp [up_if]; omega) | (simp [up_if] at *; omega)) (ok_callVV (M' := M_Mo_says) (as := [_]) 63 rfl rfl ml_X12_360 (t_Mo_says ⟨s1.1, by omega⟩) rfl rfl (Nat.le_of_ble_eq_true rfl) ⟨Nat.le_of_ble_eq_true rfl, Nat.le_of_ble_eq_true rfl⟩ rfl (Nat.le_of_ble_eq_true rfl) (fun υ'' hz => ?_))))))))))))
          refine ok_inc3 64 rfl rfl rfl (by first | omega | (simp [up_if]; omega) | (simp [up_if] at *; omega)) (ok_goto 65 76 rfl rfl rfl ?_)
          obtain ⟨u1, u2, u3⟩ := hz
          have b2 := bfl_app hb u3
          rw [← u2, e13, ← kp, List.append_assoc, ← coL_s i1] at b2
          exact ih2 (i + 1) _ ⟨by omega, by omega, f.tr u1, ⟨by omega, by omega⟩, b2⟩ (by omega)
      · have e0 : 0 ≤ e := tn_n (by omega)
        obtain ⟨t1, t2, t3⟩ := tn_s (e := e) ⟨e0, e2⟩
        have dv := div_bd (u := υ 12 p) (g := tn e) (B := 799999992) ⟨by omega, by omega⟩ t2
        refine ok_aload_n 26 rfl rfl rfl (ok_bipush 27 rfl rfl (by decide) (by decide) (ok_aload_n 28 rfl rfl rfl (ok_getR 29 rfl rfl fl_X12_48 rfl rfl (ok_iload_n 30 rfl rfl rfl (ok_iald 31 rfl rfl rfl (by first | omega | (simp [up_if]; omega) | (simp [up_if] at *; omega)) (ok_iload_n 32 rfl rfl rfl (ok_idiv 33 rfl rfl (by first | omega | (simp [up_if]; omega) | (simp [up_if] at *; omega)) (by first | omega | (simp [up_if]; omega) | (simp [up_if] at *; omega)) (ok_bipush 34 rfl rfl (by decide) (by decide) (ok_irem 35 rfl rfl (by first | omega | (simp [up_if]; omega) | (simp [up_if] at *; omega)) (by first | omega | (simp [up_if]; omega) | (simp [up_if] at *; omega)) (ok_iadd 36 rfl rfl (by first | omega | (simp [up_if]; omega) | (simp [up_if] at *; omega)) (ok_callVV (M' := M_Mo_says) (as := [_]) 37 rfl rfl ml_X12_360 (t_Mo_says ⟨s1, by omega⟩) rfl rfl (Nat.le_of_ble_eq_true rfl) ⟨Nat.le_of_ble_eq_true rfl, Nat.le_of_ble_eq_true rfl⟩ rfl (Nat.le_of_ble_eq_true rfl) (fun υ' hz => ?_))))))))))))
        obtain ⟨u1, u2, u3⟩ := hz
        refine ok_iload_n 38 rfl rfl rfl (ok_bipush 39 rfl rfl (by decide) (by decide) (ok_idiv 40 rfl rfl (by first | omega | (simp [up_if]; omega) | (simp [up_if] at *; omega)) (by first | omega | (simp [up_if]; omega) | (simp [up_if] at *; omega)) (ok_ist2 41 rfl rfl rfl (ok_goto 42 38 rfl rfl rfl ?_))))
        rw [tn_d ⟨e0, e2⟩]
        have b2 := bfl_app hb' u3
        rw [← u2, e12] at b2
        refine ih2 (e - 1) _ ⟨by omega, by omega, f.tr u1, by omega, by omega, _, b2, ?_⟩ (by omega)
        rw [← hl', dgI_s e0, show e - 1 + 1 = e by omega, List.append_assoc]
        rfl
    · have e8 : e ≠ 8 := by
        intro q
        rw [q, tn_8] at h27
        omega
      rw [e12] at h27
      refine ok_iload_n 19 rfl rfl rfl (ok_bipush 20 rfl rfl (by decide) (by decide) (ok_imul 21 rfl rfl (by first | omega | (simp [up_if]; omega) | (simp [up_if] at *; omega)) (ok_ist2 22 rfl rfl rfl (ok_goto 23 17 rfl rfl rfl ?_))))
      rw [t1]
      exact ih2 (e + 1) ⟨by omega, by omega, Or.inr (by rw [show e + 1 - 1 = e by omega]; omega)⟩ (by omega)
theorem t_Mo_out {σ : eS} {p : Int} (h : 0 ≤ σ 0 42 ∧ σ 0 42 ≤ 1400) : MtI shB M_Mo_out [vr 0, vi p] σ (fun σ' z => σ' = σ ∧ ouS (σ 0 42) (fun k => σ 23 k) p z) := by
  refine Mt.of okM_Mo_out (Nat.le_of_ble_eq_true rfl) (fun hk hg => ?_)
  refine ok_iload_n 0 rfl rfl rfl (ok_i2l 1 rfl rfl (ok_lconst (w := 0) 2 rfl rfl rfl (by decide) (ok_aload_n 3 rfl rfl rfl (ok_getI 4 rfl rfl fl_X12_357 rfl rfl (Or.inl rfl) (ok_iconst 5 rfl rfl (by decide) (ok_isub 6 rfl rfl (by first | omega | (simp [up_if]; omega) | (simp [up_if] at *; omega)) (ok_i2l 7 rfl rfl (ok_callSI (M' := M_Mo_isIn) (as := [_, _, _]) 8 rfl rfl ml_X12_99 (s_Mo_isIn_r) ⟨Nat.le_of_ble_eq_true rfl, Nat.le_of_ble_eq_true rfl⟩ rfl (Nat.le_of_ble_eq_true rfl) (fun σ' z hz => ?_)))))))))
  obtain ⟨hs_, hz⟩ := hz
  rw [hs_]; clear hs_ σ'
  refine ok_if_eq 9 25 rfl rfl rfl (fun h13 => ?_) (fun h13 => ?_)
  · refine ok_iconst 15 rfl rfl (by decide) (ok_iret 16 rfl rfl rfl ?_)
    refine ⟨_, rfl, rfl, ?_⟩
    first | exact Or.inl ⟨rfl, by omega⟩ | exact Or.inr ⟨by omega, rfl⟩
  · refine ok_aload_n 10 rfl rfl rfl (ok_getR 11 rfl rfl fl_X12_82 rfl rfl (ok_iload_n 12 rfl rfl rfl (ok_iald 13 rfl rfl rfl (by first | omega | (simp [up_if]; omega) | (simp [up_if] at *; omega)) (ok_goto 14 26 rfl rfl rfl (ok_iret 16 rfl rfl rfl ?_)))))
    refine ⟨_, rfl, rfl, ?_⟩
    first | exact Or.inl ⟨rfl, by omega⟩ | exact Or.inr ⟨by omega, rfl⟩
end
section
/-! MIXING: powers of the joins, on both sides -/
def pwR (n : Int) (W : Int → Int → Int) : Nat → Int → Int → Prop
  | 0 => fun i j => 1 ≤ W i j
  | m + 1 => fun i j => ∃ k, 0 ≤ k ∧ k < n ∧ pwR n W m i k ∧ 1 ≤ W k j
def fuR (n : Int) (op : Int → Int → Prop) : Prop := ∀ i j, 0 ≤ i → i < n → 0 ≤ j → j < n → op i j
def mxG (n : Int) (W : Int → Int → Int) (z : Int) : Prop := (z = -1 ∧ ∀ m : Int, 1 ≤ m → m ≤ 64 → ¬ fuR n (pwR n W (m - 1).toNat)) ∨ ((1 ≤ z ∧ z ≤ 64) ∧ fuR n (pwR n W (z - 1).toNat) ∧ ∀ m : Int, 1 ≤ m → m < z → ¬ fuR n (pwR n W (m - 1).toNat))
theorem pwR_cg {n : Int} {W V : Int → Int → Int} (h : ag n W V) : ∀ (m : Nat) (i j : Int), 0 ≤ i → i < n → 0 ≤ j → j < n → (pwR n W m i j ↔ pwR n V m i j)
  | 0, i, j, a, b, c, d => by show 1 ≤ W i j ↔ 1 ≤ V i j; rw [h i j a b c d]
  | m + 1, i, j, a, b, c, d => by
    constructor
    · rintro ⟨k, x, y, z, w⟩; exact ⟨k, x, y, (pwR_cg h m i k a b x y).mp z, by rw [← h k j x y c d]; exact w⟩
    · rintro ⟨k, x, y, z, w⟩; exact ⟨k, x, y, (pwR_cg h m i k a b x y).mpr z, by rw [h k j x y c d]; exact w⟩
theorem fuR_cg {n : Int} {W V : Int → Int → Int} (h : ag n W V) (m : Nat) : fuR n (pwR n W m) ↔ fuR n (pwR n V m) :=
  ⟨fun q i j a b c d => (pwR_cg h m i j a b c d).mp (q i j a b c d), fun q i j a b c d => (pwR_cg h m i j a b c d).mpr (q i j a b c d)⟩
theorem mxG_un {n z z' : Int} {W V : Int → Int → Int} (h : ag n W V) (a : mxG n W z) (b : mxG n V z') : z = z' := by
  rcases a with ⟨a1, a2⟩ | ⟨a1, a2, a3⟩ <;> rcases b with ⟨b1, b2⟩ | ⟨b1, b2, b3⟩
  · omega
  · exact absurd ((fuR_cg h _).mpr b2) (a2 z' b1.1 b1.2)
  · exact absurd ((fuR_cg h _).mp a2) (b2 z a1.1 a1.2)
  · rcases (by omega : z < z' ∨ z = z' ∨ z' < z) with q | q | q
    · exact absurd ((fuR_cg h _).mp a2) (b3 z a1.1 q)
    · exact q
    · exact absurd ((fuR_cg h _).mpr b2) (a3 z' b1.1 q)
theorem lb_small {z : Int} (h : 0 ≤ z ∧ z < 256) (k : Nat) : lb z k = z.toNat.testBit k := by
  by_cases q : k < 64
  · show (BitVec.ofInt 64 z).getLsbD k = _
    rw [← BitVec.testBit_toNat, BitVec.toNat_ofInt]
    have : (z % ((2 ^ 64 : Nat) : Int)).toNat = z.toNat := by omega
    rw [this]
  · rw [lb_big (by omega), Nat.testBit_lt_two_pow (Nat.lt_of_lt_of_le (by omega : z.toNat < 2 ^ 8) (Nat.pow_le_pow_right (by decide) (by omega)))]
theorem jb_put {v z r x y : Int} (hz : 0 ≤ z ∧ z < 256) (hr : 0 ≤ r ∧ r < 8) (hx : 0 ≤ x ∧ x < 8) (hy : 0 ≤ y ∧ y < 8) : jb (lor v (lshl z (r * 8))) x y = (jb v x y || (decide (x = r) && bt z y)) := by
  unfold jb
  rw [lb_or]
  congr 1
  obtain ⟨m, hm⟩ : ∃ m : Nat, r * 8 = (m : Int) := ⟨(r * 8).toNat, by omega⟩
  rw [hm, lb_shl z (by omega) (by omega), lb_small hz]
  by_cases q : x = r
  · rw [decide_eq_true q, decide_eq_true (by omega), show (x * 8 + y).toNat - m = y.toNat by omega]
    rfl
  · rw [decide_eq_false q, Bool.false_and]
    by_cases w : m ≤ (x * 8 + y).toNat
    · rw [Nat.testBit_lt_two_pow (Nat.lt_of_lt_of_le (by omega : z.toNat < 2 ^ 8) (Nat.pow_le_pow_right (by decide) (by omega))), Bool.and_false]
    · rw [decide_eq_false w, Bool.false_and]
theorem t_Jo_product {σ : eS} {P J n : Int} {op op' : Int → Int → Prop} (hn : 0 ≤ n ∧ n ≤ 8) (hP : jOf P n op) (hJ : jOf J n op') : MtL shA M_Jo_product [vl P, vl J, vi n] σ (fun σ' z => σ' = σ ∧ jOf z n (fun i j => ∃ k, 0 ≤ k ∧ k < n ∧ op i k ∧ op' k j)) := by
  refine Mt.of okM_Jo_product (Nat.le_of_ble_eq_true rfl) (fun hk hg => ?_)
  refine ok_lconst (w := 0) 0 rfl rfl rfl (by decide) (ok_lst5 1 rfl rfl rfl (ok_iconst 2 rfl rfl (by decide) (ok_ist7 3 rfl rfl rfl ?_)))
  refine lpO2 (fun v i : Int => [some (vl P), none, some (vl J), none, some (vi n), some (vl v), none, some (vi i)]) (fun _ _ => σ) (fun v i => 0 ≤ i ∧ i ≤ n ∧ rl v ∧ ∀ x y : Int, 0 ≤ x → x < 8 → 0 ≤ y → y < 8 → (jb v x y = true ↔ (x < i ∧ y < n ∧ ∃ k, 0 ≤ k ∧ k < n ∧ op x k ∧ op' k y))) (fun _ i => (8 - i).toNat) ?_ 0 0 ⟨by omega, by omega, ⟨by omega, by omega⟩, fun x y a b d e => by rw [jb_0]; constructor; intro q; cases q; intro q; omega⟩
  rintro v i ⟨i1, i2, v1, v2⟩ ih
  refine ok_iload 4 rfl rfl rfl (ok_iload 5 rfl rfl rfl (ok_icmp_ge 6 43 rfl rfl rfl (fun h10 => ?_) (fun h10 => ?_)))
  · refine ok_lload 23 rfl rfl rfl (ok_lret 24 rfl rfl rfl ?_)
    exact ⟨_, rfl, rfl, v1, fun x y a b d e => by rw [v2 x y a b d e, show i = n by omega]⟩
  · have rj := rowJ_sp (J := P) (r := i) ⟨by omega, by omega⟩
    refine ok_lload 7 rfl rfl rfl (ok_lload_n 8 rfl rfl rfl (ok_lload_n 9 rfl rfl rfl (ok_iload 10 rfl rfl rfl (ok_callSI (M' := M_Jo_rowOf) (as := [_, _]) 11 rfl rfl ml_X1_17 (s_Jo_rowOf) ⟨Nat.le_of_ble_eq_true rfl, Nat.le_of_ble_eq_true rfl⟩ rfl (Nat.le_of_ble_eq_true rfl) (fun σ' z hz => ?_)))))
    rw [hz.1, hz.2]
    clear hz z σ'
    refine ok_iload 12 rfl rfl rfl (ok_callSI (M' := M_Jo_columnsOf) (as := [_, _, _]) 13 rfl rfl ml_X1_25 (t_Jo_columnsOf hn rj.1) ⟨Nat.le_of_ble_eq_true rfl, Nat.le_of_ble_eq_true rfl⟩ rfl (Nat.le_of_ble_eq_true rfl) (fun σ' z hz => ?_))
    obtain ⟨hs_, hz⟩ := hz
    rw [hs_]; clear hs_ σ'
    obtain ⟨z1, z2⟩ := cOf_op hn.2 hJ hz
    refine ok_i2l 14 rfl rfl (ok_iload 15 rfl rfl rfl (ok_bipush 16 rfl rfl (by decide) (by decide) (ok_imul 17 rfl rfl (by first | omega | (simp [up_if]; omega) | (simp [up_if] at *; omega)) (ok_lshl 18 rfl rfl (ok_lor 19 rfl rfl (ok_lst5 20 rfl rfl rfl (ok_inc7 21 rfl rfl rfl (by first | omega | (simp [up_if]; omega) | (simp [up_if] at *; omega)) (ok_goto 22 6 rfl rfl rfl ?_))))))))
    refine ih _ (i + 1) ⟨by omega, by omega, rl_lor _ _, fun x y a b d e => ?_⟩ (by omega)
    rw [jb_put z1 ⟨i1, by omega⟩ ⟨a, b⟩ ⟨d, e⟩, Bool.or_eq_true, Bool.and_eq_true, v2 x y a b d e, z2 y d e, decide_eq_true_eq]
    constructor
    · rintro (⟨q1, q2⟩ | ⟨q1, q2, k, k1, k2, k3, k4⟩)
      · exact ⟨by omega, q2⟩
      · rw [rj.2 k k1 (by omega), hP.2 i k i1 (by omega) k1 (by omega)] at k3
        exact ⟨by omega, q2, k, k1, k2, by rw [q1]; exact k3.2.2, k4⟩
    · rintro ⟨q1, q2, k, k1, k2, k3, k4⟩
      by_cases w : x = i
      · refine Or.inr ⟨w, q2, k, k1, k2, ?_, k4⟩
        rw [rj.2 k k1 (by omega), hP.2 i k i1 (by omega) k1 (by omega)]
        exact ⟨by omega, k2, by rw [← w]; exact k3⟩
      · exact Or.inl ⟨by omega, q2, k, k1, k2, k3, k4⟩
theorem full_eq {P F n : Int} {op op' : Int → Int → Prop} (hn : n ≤ 8) (hP : jOf P n op) (hF : jOf F n op') (hf : fuR n op') : P = F ↔ fuR n op := by
  constructor
  · intro e i j a b c d
    have x := (hF.2 i j a (by omega) c (by omega)).mpr ⟨b, d, hf i j a b c d⟩
    rw [← e] at x
    exact ((hP.2 i j a (by omega) c (by omega)).mp x).2.2
  · intro h
    refine jb_ext hP.1 hF.1 (fun x y a b c d => ?_)
    have e1 := hP.2 x y a b c d
    have e2 := hF.2 x y a b c d
    by_cases q : x < n ∧ y < n
    · rw [e1.mpr ⟨q.1, q.2, h x y a q.1 c q.2⟩, e2.mpr ⟨q.1, q.2, hf x y a q.1 c q.2⟩]
    · have f1 : jb P x y = false := by
        cases w : jb P x y with
        | false => rfl
        | true => have := e1.mp w; omega
      have f2 : jb F x y = false := by
        cases w : jb F x y with
        | false => rfl
        | true => have := e2.mp w; omega
      rw [f1, f2]
theorem t_Jo_leastFullPower {σ : eS} {J F n : Int} {W : Int → Int → Int} {op' : Int → Int → Prop} (hn : 0 ≤ n ∧ n ≤ 8) (hJ : jOf J n (fun i j => 1 ≤ W i j)) (hF : jOf F n op') (hf : fuR n op') : MtI shA M_Jo_leastFullPower [vl J, vl F, vi n] σ (fun σ' z => σ' = σ ∧ mxG n W z) := by
  refine Mt.of okM_Jo_leastFullPower (Nat.le_of_ble_eq_true rfl) (fun hk hg => ?_)
  refine ok_lload_n 0 rfl rfl rfl (ok_lst5 1 rfl rfl rfl (ok_iconst 2 rfl rfl (by decide) (ok_ist7 3 rfl rfl rfl ?_)))
  refine lpO2 (fun v m : Int => [some (vl J), none, some (vl F), none, some (vi n), some (vl v), none, some (vi m)]) (fun _ _ => σ) (fun v m => 1 ≤ m ∧ m ≤ 65 ∧ jOf v n (pwR n W (m - 1).toNat) ∧ ∀ q : Int, 1 ≤ q → q < m → ¬ fuR n (pwR n W (q - 1).toNat)) (fun _ m => (65 - m).toNat) ?_ J 1 ⟨by omega, by omega, hJ, fun q a b => by omega⟩
  rintro v m ⟨m1, m2, v1, v2⟩ ih
  have fe := full_eq hn.2 v1 hF hf
  refine ok_iload 4 rfl rfl rfl (ok_bipush 5 rfl rfl (by decide) (by decide) (ok_icmp_gt 6 39 rfl rfl rfl (fun h10 => ?_) (fun h10 => ?_)))
  · refine ok_iconst 20 rfl rfl (by decide) (ok_iret 21 rfl rfl rfl ?_)
    exact ⟨_, rfl, rfl, Or.inl ⟨rfl, fun q a b => v2 q a (by omega)⟩⟩
  · refine ok_lload 7 rfl rfl rfl (ok_lload_n 8 rfl rfl rfl (ok_lcmp_ne 9 10 23 rfl rfl rfl rfl rfl (fun h16 => ?_) (fun h16 => ?_)))
    · refine ok_lload 13 rfl rfl rfl (ok_lload_n 14 rfl rfl rfl (ok_iload 15 rfl rfl rfl (ok_callSL (M' := M_Jo_product) (as := [_, _, _]) 16 rfl rfl ml_X1_40 (t_Jo_product hn v1 hJ) ⟨Nat.le_of_ble_eq_true rfl, Nat.le_of_ble_eq_true rfl⟩ rfl (Nat.le_of_ble_eq_true rfl) (fun σ' z hz => ?_))))
      obtain ⟨hs_, hz⟩ := hz
      rw [hs_]; clear hs_ σ'
      refine ok_lst5 17 rfl rfl rfl (ok_inc7 18 rfl rfl rfl (by first | omega | (simp [up_if]; omega) | (simp [up_if] at *; omega)) (ok_goto 19 6 rfl rfl rfl ?_))
      refine ih _ (m + 1) ⟨by omega, by omega, ?_, ?_⟩ (by omega)
      · rw [show (m + 1 - 1).toNat = (m - 1).toNat + 1 by omega]; exact hz
      · intro q a b
        by_cases y : q = m
        · rw [y]; exact fun w => absurd (fe.mpr w) (by omega)
        · exact v2 q a (by omega)
    · refine ok_iload 11 rfl rfl rfl (ok_iret 12 rfl rfl rfl ?_)
      exact ⟨_, rfl, rfl, Or.inr ⟨⟨m1, by omega⟩, fe.mp (by omega), v2⟩⟩
theorem t_Ev_mixing {σ : eS} {s : Int} (h : IA σ) : MtI shA M_Ev_mixing [vr 0, vi s] σ (fun σ' z => σ' = σ ∧ ((¬ tabA σ s ∧ z = -1) ∨ (tabA σ s ∧ mxG (σ (s.toNat + 2) 1) (cT σ (s.toNat + 2)) z))) := by
  refine Mt.of okM_Ev_mixing (Nat.le_of_ble_eq_true rfl) (fun hk hg => ?_)
  refine ok_aload_n 0 rfl rfl rfl (ok_iload_n 1 rfl rfl rfl (ok_callVR (M' := M_Ev_filledSlot) (as := [_]) 2 rfl rfl ml_X11_137 (s_Ev_filledSlot) rfl rfl (Nat.le_of_ble_eq_true rfl) ⟨Nat.le_of_ble_eq_true rfl, Nat.le_of_ble_eq_true rfl⟩ rfl (Nat.le_of_ble_eq_true rfl) (fun σ' z hz => ?_)))
  obtain ⟨hs_, hz⟩ := hz
  rw [hs_]; clear hs_ σ'
  rcases hz with ⟨q, q0⟩ | ⟨q1, q2, q, q3⟩
  · subst q
    refine ok_ast2 3 rfl rfl rfl (ok_aload_n 4 rfl rfl rfl (ok_ifnonnullN 5 rfl rfl (ok_iconst 6 rfl rfl (by decide) (ok_goto 7 31 rfl rfl rfl (ok_iret 17 rfl rfl rfl ?_)))))
    exact ⟨_, rfl, rfl, Or.inl ⟨q0, rfl⟩⟩
  · subst q
    have ht := sl_tA ⟨q1, q2⟩
    have hT := (h.2.1 _ ht).1
    have m2 := hT.2.1
    refine ok_ast2 3 rfl rfl rfl (ok_aload_n 4 rfl rfl rfl (ok_ifnonnull 5 14 rfl rfl rfl (ok_aload_n 8 rfl rfl rfl (ok_iconst 9 rfl rfl (by decide) (ok_callVL (M' := M_Ta_joinedBy) (as := [_]) 10 rfl rfl ml_X11_119 (t_Ta_joinedBy ht hT) (sT ht) rfl (Nat.le_of_ble_eq_true rfl) ⟨Nat.le_of_ble_eq_true rfl, Nat.le_of_ble_eq_true rfl⟩ rfl (Nat.le_of_ble_eq_true rfl) (fun σ' z1 x1 => ?_))))))
    obtain ⟨hs_, x1⟩ := x1
    rw [hs_]; clear hs_ σ'
    refine ok_aload_n 11 rfl rfl rfl (ok_iconst 12 rfl rfl (by decide) (ok_callVL (M' := M_Ta_joinedBy) (as := [_]) 13 rfl rfl ml_X11_119 (t_Ta_joinedBy ht hT) (sT ht) rfl (Nat.le_of_ble_eq_true rfl) ⟨Nat.le_of_ble_eq_true rfl, Nat.le_of_ble_eq_true rfl⟩ rfl (Nat.le_of_ble_eq_true rfl) (fun σ' z2 x2 => ?_)))
    obtain ⟨hs_, x2⟩ := x2
    rw [hs_]; clear hs_ σ'
    refine ok_aload_n 14 rfl rfl rfl (ok_getI 15 rfl rfl fl_X11_103 (sT ht) rfl (Or.inl rfl) (ok_callSI (M' := M_Jo_leastFullPower) (as := [_, _, _]) 16 rfl rfl ml_X11_279 (t_Jo_leastFullPower ⟨hT.1, hT.2.1⟩ x1 x2 (fun i j a b c d => (cT_bd hT ⟨a, by omega⟩ ⟨c, by omega⟩).1)) ⟨Nat.le_of_ble_eq_true rfl, Nat.le_of_ble_eq_true rfl⟩ rfl (Nat.le_of_ble_eq_true rfl) (fun σ' z3 x3 => ?_)))
    obtain ⟨hs_, x3⟩ := x3
    rw [hs_]; clear hs_ σ'
    refine ok_iret 17 rfl rfl rfl ?_
    exact ⟨_, rfl, rfl, Or.inr ⟨⟨q1, q2, q3⟩, x3⟩⟩
/-- a field of booleans says a relation, up to a place -/
def fdB (ρ : eS) (c : Nat) (n m : Int) (op : Int → Int → Prop) : Prop := ∀ i j, 0 ≤ i → i < n → 0 ≤ j → j < n → n * i + j < m → (ρ c (n * i + j) = 0 ∨ ρ c (n * i + j) = 1) ∧ (ρ c (n * i + j) = 1 ↔ op i j)
theorem fdB_s {ρ : eS} {c : Nat} {n i j v : Int} {op : Int → Int → Prop} (hn : 1 ≤ n ∧ n ≤ 8) (hi : 0 ≤ i ∧ i < n) (hj : 0 ≤ j ∧ j < n) (h : fdB ρ c n (n * i + j) op) (hv : v = 0 ∨ v = 1) (hv2 : v = 1 ↔ op i j) : fdB (up ρ c (n * i + j) v) c n (n * i + (j + 1)) op := fun x y a b d e l => by
  by_cases q : n * x + y = n * i + j
  · obtain ⟨q1, q2⟩ := ix_inj hn ⟨d, e⟩ hj q
    rw [q1, q2, up_same]
    exact ⟨hv, hv2⟩
  · rw [up_nk _ _ _ _ q]
    exact h x y a b d e (by omega)
theorem fdB_r {ρ : eS} {c : Nat} {n i : Int} {op : Int → Int → Prop} (h : fdB ρ c n (n * i + n) op) : fdB ρ c n (n * (i + 1)) op := by
  rw [Int.mul_add, Int.mul_one]
  exact h
theorem fdB_all {ρ : eS} {c : Nat} {n : Int} {op : Int → Int → Prop} (hn : 1 ≤ n ∧ n ≤ 8) (h : fdB ρ c n (n * n) op) {i j : Int} (hi : 0 ≤ i ∧ i < n) (hj : 0 ≤ j ∧ j < n) : (ρ c (n * i + j) = 0 ∨ ρ c (n * i + j) = 1) ∧ (ρ c (n * i + j) = 1 ↔ op i j) :=
  h i j hi.1 hi.2 hj.1 hj.2 (ix8 (n := n) (i := i) (j := j) ⟨by omega, hn.2⟩ hi hj).2.2.1
theorem fdB_lin {ρ : eS} {c : Nat} {n : Int} {f : Int → Prop} {op : Int → Int → Prop} (hn : 1 ≤ n ∧ n ≤ 8) (h : ∀ q, 0 ≤ q → q < n * n → (ρ c q = 0 ∨ ρ c q = 1) ∧ (ρ c q = 1 ↔ f q)) (e : ∀ i j, 0 ≤ i → i < n → 0 ≤ j → j < n → (f (n * i + j) ↔ op i j)) : fdB ρ c n (n * n) op := fun i j a b d g l => by
  have x := ix8 (n := n) (i := i) (j := j) ⟨by omega, hn.2⟩ ⟨a, b⟩ ⟨d, g⟩
  have y := h (n * i + j) (by omega) l
  exact ⟨y.1, y.2.trans (e i j a b d g)⟩
theorem fu_lin {ρ : eS} {c : Nat} {n : Int} {op : Int → Int → Prop} (hn : 1 ≤ n ∧ n ≤ 8) (h : fdB ρ c n (n * n) op) : (∀ q, 0 ≤ q → q < n * n → ρ c q = 1) ↔ fuR n op := by
  constructor
  · intro q i j a b d e
    have x := ix8 (n := n) (i := i) (j := j) ⟨by omega, hn.2⟩ ⟨a, b⟩ ⟨d, e⟩
    exact (fdB_all hn h ⟨a, b⟩ ⟨d, e⟩).2.mp (q _ (by omega) (by omega))
  · intro w q a b
    have g1 := Int.mul_ediv_add_emod q n
    have g2 := Int.emod_nonneg q (by omega : n ≠ 0)
    have g3 := Int.emod_lt_of_pos q (by omega : 0 < n)
    have g4 : q / n < n := Int.ediv_lt_of_lt_mul (by omega) (by omega)
    have g5 : 0 ≤ q / n := Int.ediv_nonneg a (by omega)
    have x := (fdB_all hn h ⟨g5, g4⟩ ⟨g2, g3⟩).2.mpr (w _ _ g5 g4 g2 g3)
    rw [g1] at x
    exact x
theorem bl_01 {ρ : eS} {c : Nat} {n q : Int} {op : Int → Int → Prop} (hn : 1 ≤ n ∧ n ≤ 8) (h : fdB ρ c n (n * n) op) (a : 0 ≤ q) (b : q < n * n) : ρ c q = 0 ∨ ρ c q = 1 := by
  have g1 := Int.mul_ediv_add_emod q n
  have g2 := Int.emod_nonneg q (by omega : n ≠ 0)
  have g3 := Int.emod_lt_of_pos q (by omega : 0 < n)
  have g4 : q / n < n := Int.ediv_lt_of_lt_mul (by omega) (by omega)
  have g5 : 0 ≤ q / n := Int.ediv_nonneg a (by omega)
  have x := (fdB_all hn h ⟨g5, g4⟩ ⟨g2, g3⟩).1
  rw [g1] at x
  exact x
theorem t_Mo_mixing {σ : eS} {s : Int} (hB : iB1 σ) : MtI shB M_Mo_mixing [vr 0, vi s] σ (fun σ' z => fr rgX σ σ' ∧ ((¬ tabB σ s ∧ z = -1) ∨ (tabB σ s ∧ mxG (σ 1 s) (cB σ s) z))) := by
  refine Mt.of okM_Mo_mixing (Nat.le_of_ble_eq_true rfl) (fun hk hg => ?_)
  refine ok_aload_n 0 rfl rfl rfl (ok_iload_n 1 rfl rfl rfl (ok_callVI (M' := M_Mo_isTable) (as := [_]) 2 rfl rfl ml_X12_111 (s_Mo_isTable_r) rfl rfl (Nat.le_of_ble_eq_true rfl) ⟨Nat.le_of_ble_eq_true rfl, Nat.le_of_ble_eq_true rfl⟩ rfl (Nat.le_of_ble_eq_true rfl) (fun σ' z1 a1 => ?_)))
  obtain ⟨hs_, a1⟩ := a1
  rw [hs_]; clear hs_ σ'
  refine ok_if_ne 3 10 rfl rfl rfl (fun h5 => ?_) (fun h5 => ?_)
  · obtain ⟨u1, u2, u3⟩ := yes1 a1 h5
    have tn := hB.1 s u1 u2
    have ht : tabB σ s := ⟨u1, u2, u3⟩
    refine ok_aload_n 6 rfl rfl rfl (ok_getR 7 rfl rfl fl_X12_7 rfl rfl (ok_iload_n 8 rfl rfl rfl (ok_iald 9 rfl rfl rfl (by first | omega | (simp [up_if]; omega) | (simp [up_if] at *; omega)) (ok_ist2 10 rfl rfl rfl (ok_iconst 11 rfl rfl (by decide) (ok_ist3 12 rfl rfl rfl ?_))))))
    obtain ⟨n, en⟩ : ∃ n, n = σ 1 s := ⟨_, rfl⟩
    rw [← en]
    have n1 : 1 ≤ n ∧ n ≤ 8 := by omega
    obtain ⟨q1, q2⟩ := sq8 (n := n) ⟨by omega, by omega⟩
    have E : ∀ τ : eS, fr rgX σ τ → iB1 τ ∧ τ 1 s = n ∧ (∀ k, τ 3 k = σ 3 k) ∧ cB τ s = cB σ s := fun τ g => by
      have e1 : τ 1 s = σ 1 s := g 1 s (by simp [rgX])
      have e3 : ∀ k, τ 3 k = σ 3 k := fun k => g 3 k (by simp [rgX])
      exact ⟨iB1_frS hB g (fun c k q => by simp only [rgX]; omega), by rw [e1, en], e3, by funext i j; unfold cB; rw [e1, e3]⟩
    refine lpO2 (fun (k : Int) (_ : eS) => [some (vr 0), some (vi s), some (vi n), some (vi k), none, none, none, none, none]) (fun _ ρ => ρ) (fun k ρ => 0 ≤ k ∧ k ≤ n * n ∧ fr rgX σ ρ ∧ ∀ q, 0 ≤ q → q < k → (ρ 21 q = 0 ∨ ρ 21 q = 1) ∧ (ρ 21 q = 1 ↔ 0 < σ 3 (64 * s + q))) (fun k _ => (n * n - k).toNat) ?_ 0 _ ⟨by omega, by omega, fr.rf, fun q a b => by omega⟩
    rintro k ρ ⟨k1, k2, f, hl⟩ ih
    have e3 := (E ρ f).2.2.1 (64 * s + k)
    refine ok_iload_n 13 rfl rfl rfl (ok_iload_n 14 rfl rfl rfl (ok_iload_n 15 rfl rfl rfl (ok_imul 16 rfl rfl (by first | omega | (simp [up_if]; omega) | (simp [up_if] at *; omega)) (ok_icmp_ge 17 57 rfl rfl rfl (fun h23 => ?_) (fun h23 => ?_)))))
    · refine ok_iconst 36 rfl rfl (by decide) (ok_ist3 37 rfl rfl rfl ?_)
      clear ih k1
      have ek : k = n * n := by omega
      rw [ek] at hl
      have hP : fdB ρ 21 n (n * n) (pwR n (cB σ s) 0) := fdB_lin n1 hl (fun i j a b c d => by show 0 < σ 3 (64 * s + (n * i + j)) ↔ 1 ≤ cB σ s i j; unfold cB; rw [← en, ← Int.add_assoc]; omega)
      clear ek k2 hl e3
      refine lpO2 (fun (k : Int) (_ : eS) => [some (vr 0), some (vi s), some (vi n), some (vi k), none, none, none, none, none]) (fun _ ρ => ρ) (fun k ρ => 1 ≤ k ∧ k ≤ 65 ∧ fr rgX σ ρ ∧ fdB ρ 21 n (n * n) (pwR n (cB σ s) (k - 1).toNat) ∧ ∀ q : Int, 1 ≤ q → q < k → ¬ fuR n (pwR n (cB σ s) (q - 1).toNat)) (fun k _ => (65 - k).toNat) ?_ 1 ρ ⟨by omega, by omega, f, hP, fun q a b => by omega⟩
      clear f hP h23 k ρ
      rintro k ρ ⟨k1, k2, f, hP, hno⟩ ih
      have fl := fu_lin n1 hP
      refine ok_iload_n 38 rfl rfl rfl (ok_bipush 39 rfl rfl (by decide) (by decide) (ok_icmp_gt 40 252 rfl rfl rfl (fun h62 => ?_) (fun h62 => ?_)))
      · refine ok_iconst 139 rfl rfl (by decide) (ok_iret 140 rfl rfl rfl ?_)
        exact ⟨_, rfl, f, Or.inr ⟨ht, Or.inl ⟨rfl, fun q a b => hno q a (by omega)⟩⟩⟩
      · refine ok_iconst 41 rfl rfl (by decide) (ok_ist4 42 rfl rfl rfl (ok_iconst 43 rfl rfl (by decide) (ok_ist5 44 rfl rfl rfl ?_)))
        refine lpO2 (fun (a i : Int) => [some (vr 0), some (vi s), some (vi n), some (vi k), some (vi a), some (vi i), none, none, none]) (fun _ _ => ρ) (fun a i => 0 ≤ i ∧ i ≤ n * n ∧ (a = 0 ∨ a = 1) ∧ (a = 1 ↔ ∀ q, 0 ≤ q → q < i → ρ 21 q = 1)) (fun _ i => (n * n - i).toNat) ?_ 1 0 ⟨by omega, by omega, by omega, fun _ q a b => by omega, fun _ => rfl⟩
        rintro a i ⟨i1, i2, i3, i4⟩ ih2
        refine ok_iload 45 rfl rfl rfl (ok_iload_n 46 rfl rfl rfl (ok_iload_n 47 rfl rfl rfl (ok_imul 48 rfl rfl (by first | omega | (simp [up_if]; omega) | (simp [up_if] at *; omega)) (ok_icmp_ge 49 107 rfl rfl rfl (fun h76 => ?_) (fun h76 => ?_)))))
        · refine ok_iload 63 rfl rfl rfl (ok_if_eq 64 114 rfl rfl rfl (fun h109 => ?_) (fun h109 => ?_))
          · refine ok_iconst 67 rfl rfl (by decide) (ok_ist5 68 rfl rfl rfl ?_)
            have ei : i = n * n := by omega
            rw [ei] at i4
            have hn0 : ¬ fuR n (pwR n (cB σ s) (k - 1).toNat) := fun y => by have := i4.mpr (fl.mpr y); omega
            clear ih2 i1 i2 i3 i4 ei
            obtain ⟨op, eop⟩ : ∃ op, op = pwR n (cB σ s) ((k - 1).toNat + 1) := ⟨_, rfl⟩
            have r21 : fr (fun c _ => c = 22) ρ ρ := fr.rf
            obtain ⟨R, eR⟩ : ∃ R, R = ρ := ⟨_, rfl⟩
            rw [← eR] at hP
            refine lpO2 (fun (i : Int) (_ : eS) => [some (vr 0), some (vi s), some (vi n), some (vi k), some (vi a), some (vi i), none, none, none]) (fun _ ρ => ρ) (fun i ρ => 0 ≤ i ∧ i ≤ n ∧ fr rgX σ ρ ∧ fr (fun c _ => c = 22) R ρ ∧ fdB ρ 22 n (n * i) op) (fun i _ => (n - i).toNat) ?_ 0 ρ ⟨by omega, by omega, f, by rw [eR]; exact fr.rf, fun x y c d e g l => by have := ix8 (n := n) (i := x) (j := y) ⟨by omega, by omega⟩ ⟨c, d⟩ ⟨e, g⟩; omega⟩
            clear f eR fl r21 h76 i ρ
            rintro i ρ ⟨i1, i2, f, fR, hz⟩ ih2
            refine ok_iload 69 rfl rfl rfl (ok_iload_n 70 rfl rfl rfl (ok_icmp_ge 71 215 rfl rfl rfl (fun h120 => ?_) (fun h120 => ?_)))
            · refine ok_iconst 120 rfl rfl (by decide) (ok_ist5 121 rfl rfl rfl ?_)
              have hz' : fdB ρ 22 n (n * n) op := by rw [show i = n by omega] at hz; exact hz
              clear ih2 i1 i2 hz fR
              obtain ⟨T, eT⟩ : ∃ T, T = ρ := ⟨_, rfl⟩
              rw [← eT] at hz'
              refine lpO2 (fun (i : Int) (_ : eS) => [some (vr 0), some (vi s), some (vi n), some (vi k), some (vi a), some (vi i), none, none, none]) (fun _ ρ => ρ) (fun i ρ => 0 ≤ i ∧ i ≤ n * n ∧ fr rgX σ ρ ∧ (∀ q, ρ 22 q = T 22 q) ∧ ∀ q, 0 ≤ q → q < i → ρ 21 q = T 22 q) (fun i _ => (n * n - i).toNat) ?_ 0 ρ ⟨by omega, by omega, f, fun q => by rw [eT], fun q a b => by omega⟩
              clear f eT ρ h120 i
              rintro i ρ ⟨i1, i2, f, fT, hq⟩ ih2
              refine ok_iload 122 rfl rfl rfl (ok_iload_n 123 rfl rfl rfl (ok_iload_n 124 rfl rfl rfl (ok_imul 125 rfl rfl (by first | omega | (simp [up_if]; omega) | (simp [up_if] at *; omega)) (ok_icmp_ge 126 246 rfl rfl rfl (fun h223 => ?_) (fun h223 => ?_)))))
              · refine ok_inc3 137 rfl rfl rfl (by first | omega | (simp [up_if]; omega) | (simp [up_if] at *; omega)) (ok_goto 138 59 rfl rfl rfl ?_)
                refine ok_fg [some (vr 0), some (vi s), some (vi n), some (vi (k + 1)), none, none, none, none, none] ⟨rfl, rfl, rfl, rfl, trivial⟩ (ih (k + 1) _ ⟨by omega, by omega, f, ?_, ?_⟩ (by omega))
                · rw [show (k + 1 - 1).toNat = (k - 1).toNat + 1 by omega, ← eop]
                  intro x y c d e g l
                  have bx := ix8 (n := n) (i := x) (j := y) ⟨by omega, by omega⟩ ⟨c, d⟩ ⟨e, g⟩
                  rw [hq _ (by omega) (by omega)]
                  exact hz' x y c d e g l
                · intro q c d
                  by_cases y : q = k
                  · rw [y]; exact hn0
                  · exact hno q c (by omega)
              · refine ok_aload_n 127 rfl rfl rfl (ok_getR 128 rfl rfl fl_X12_75 rfl rfl (ok_iload 129 rfl rfl rfl (ok_aload_n 130 rfl rfl rfl (ok_getR 131 rfl rfl fl_X12_79 rfl rfl (ok_iload 132 rfl rfl rfl (ok_zald 133 rfl rfl rfl (by first | omega | (simp [up_if]; omega) | (simp [up_if] at *; omega)) (ok_zast 134 rfl rfl rfl (by omega) (by rw [fT]; exact bl_01 n1 hz' i1 (by omega)) (ok_inc5 135 rfl rfl rfl (by first | omega | (simp [up_if]; omega) | (simp [up_if] at *; omega)) (ok_goto 136 218 rfl rfl rfl ?_)))))))))
                refine ih2 (i + 1) _ ⟨by omega, by omega, fr_up f (by simp [rgX]), fun q => by rw [up_ne _ _ _ _ (by decide)]; exact fT q, lt_ext (fun q a b => by rw [up_nk _ _ _ _ (by omega)]; exact hq q a b) ?_⟩ (by omega)
                rw [up_same, fT]
            · refine ok_iconst 72 rfl rfl (by decide) (ok_ist6 73 rfl rfl rfl ?_)
              refine lpO2 (fun (j : Int) (_ : eS) => [some (vr 0), some (vi s), some (vi n), some (vi k), some (vi a), some (vi i), some (vi j), none, none]) (fun _ ρ => ρ) (fun j ρ => 0 ≤ j ∧ j ≤ n ∧ fr rgX σ ρ ∧ fr (fun c _ => c = 22) R ρ ∧ fdB ρ 22 n (n * i + j) op) (fun j _ => (n - j).toNat) ?_ 0 ρ ⟨by omega, by omega, f, fR, by rw [Int.add_zero]; exact hz⟩
              clear f fR hz ρ
              rintro j ρ ⟨j1, j2, f, fR, hz⟩ ih3
              refine ok_iload 74 rfl rfl rfl (ok_iload_n 75 rfl rfl rfl (ok_icmp_ge 76 209 rfl rfl rfl (fun h129 => ?_) (fun h129 => ?_)))
              · refine ok_inc5 118 rfl rfl rfl (by first | omega | (simp [up_if]; omega) | (simp [up_if] at *; omega)) (ok_goto 119 117 rfl rfl rfl ?_)
                exact ok_fg [some (vr 0), some (vi s), some (vi n), some (vi k), some (vi a), some (vi (i + 1)), none, none, none] ⟨rfl, rfl, rfl, rfl, rfl, rfl, trivial⟩ (ih2 (i + 1) _ ⟨by omega, by omega, f, fR, fdB_r (by rw [show j = n by omega] at hz; exact hz)⟩ (by omega))
              · refine ok_iconst 77 rfl rfl (by decide) (ok_ist7 78 rfl rfl rfl (ok_iconst 79 rfl rfl (by decide) (ok_ist8 80 rfl rfl rfl ?_)))
                obtain ⟨eb, e1, e3, ec⟩ := E ρ f
                refine lpO2 (fun (v m : Int) => [some (vr 0), some (vi s), some (vi n), some (vi k), some (vi a), some (vi i), some (vi j), some (vi v), some (vi m)]) (fun _ _ => ρ) (fun v m => 0 ≤ m ∧ m ≤ n ∧ (v = 0 ∨ v = 1) ∧ (v = 1 ↔ ∃ q, 0 ≤ q ∧ q < m ∧ pwR n (cB σ s) (k - 1).toNat i q ∧ 1 ≤ cB σ s q j)) (fun _ m => (n - m).toNat) ?_ 0 0 ⟨by omega, by omega, by omega, fun y => absurd y (by decide), fun ⟨q, a, b, _⟩ => by omega⟩
                rintro v m ⟨m1, m2, m3, m4⟩ ih4
                have bi := ix8 (n := n) (i := i) (j := j) ⟨by omega, by omega⟩ ⟨by omega, by omega⟩ ⟨by omega, by omega⟩
                have old : (∃ q, 0 ≤ q ∧ q < m ∧ pwR n (cB σ s) (k - 1).toNat i q ∧ 1 ≤ cB σ s q j) → (∃ q, 0 ≤ q ∧ q < m + 1 ∧ pwR n (cB σ s) (k - 1).toNat i q ∧ 1 ≤ cB σ s q j) := fun ⟨q, a, b, c⟩ => ⟨q, a, by omega, c⟩
                refine ok_iload 81 rfl rfl rfl (ok_iload_n 82 rfl rfl rfl (ok_icmp_ge 83 189 rfl rfl rfl (fun h141 => ?_) (fun h141 => ?_)))
                · refine ok_aload_n 107 rfl rfl rfl (ok_getR 108 rfl rfl fl_X12_79 rfl rfl (ok_iload_n 109 rfl rfl rfl (ok_iload 110 rfl rfl rfl (ok_imul 111 rfl rfl (by first | omega | (simp [up_if]; omega) | (simp [up_if] at *; omega)) (ok_iload 112 rfl rfl rfl (ok_iadd 113 rfl rfl (by first | omega | (simp [up_if]; omega) | (simp [up_if] at *; omega)) (ok_iload 114 rfl rfl rfl (ok_zast 115 rfl rfl rfl (by first | omega | (simp [up_if]; omega) | (simp [up_if] at *; omega)) (by first | omega | (simp [up_if]; omega) | (simp [up_if] at *; omega)) (ok_inc6 116 rfl rfl rfl (by first | omega | (simp [up_if]; omega) | (simp [up_if] at *; omega)) (ok_goto 117 126 rfl rfl rfl ?_))))))))))
                  have em : m = n := by omega
                  rw [em] at m4
                  refine ok_fg [some (vr 0), some (vi s), some (vi n), some (vi k), some (vi a), some (vi i), some (vi (j + 1)), none, none] ⟨rfl, rfl, rfl, rfl, rfl, rfl, rfl, trivial⟩ (ih3 (j + 1) _ ⟨by omega, by omega, fr_up f (by simp [rgX]), fr_up fR rfl, fdB_s n1 ⟨by omega, by omega⟩ ⟨by omega, by omega⟩ hz m3 ?_⟩ (by omega))
                  rw [eop]
                  exact m4
                · have bm := ix8 (n := n) (i := i) (j := m) ⟨by omega, by omega⟩ ⟨by omega, by omega⟩ ⟨by omega, by omega⟩
                  have rm := fdB_all n1 hP (i := i) (j := m) ⟨by omega, by omega⟩ ⟨m1, by omega⟩
                  rw [← fR 21 (n * i + m) (by omega)] at rm
                  refine ok_iload 84 rfl rfl rfl (ok_if_ne 85 176 rfl rfl rfl (fun h146 => ?_) (fun h146 => ?_))
                  · refine ok_iconst 101 rfl rfl (by decide) (ok_goto 102 181 rfl rfl rfl (ok_ist7 104 rfl rfl rfl (ok_inc8 105 rfl rfl rfl (by first | omega | (simp [up_if]; omega) | (simp [up_if] at *; omega)) (ok_goto 106 138 rfl rfl rfl ?_))))
                    exact ih4 _ (m + 1) ⟨by omega, by omega, by omega, fun _ => old (m4.mp (by omega)), fun _ => rfl⟩ (by omega)
                  · refine ok_aload_n 86 rfl rfl rfl (ok_getR 87 rfl rfl fl_X12_75 rfl rfl (ok_iload_n 88 rfl rfl rfl (ok_iload 89 rfl rfl rfl (ok_imul 90 rfl rfl (by first | omega | (simp [up_if]; omega) | (simp [up_if] at *; omega)) (ok_iload 91 rfl rfl rfl (ok_iadd 92 rfl rfl (by first | omega | (simp [up_if]; omega) | (simp [up_if] at *; omega)) (ok_zald 93 rfl rfl rfl (by first | omega | (simp [up_if]; omega) | (simp [up_if] at *; omega)) (ok_if_eq 94 180 rfl rfl rfl (fun h161 => ?_) (fun h161 => ?_)))))))))
                    · refine ok_iconst 103 rfl rfl (by decide) (ok_ist7 104 rfl rfl rfl (ok_inc8 105 rfl rfl rfl (by first | omega | (simp [up_if]; omega) | (simp [up_if] at *; omega)) (ok_goto 106 138 rfl rfl rfl ?_)))
                      refine ih4 _ (m + 1) ⟨by omega, by omega, by omega, fun y => absurd y (by decide), fun ⟨q, a, b, c, d⟩ => ?_⟩ (by omega)
                      exfalso
                      rcases (by omega : q < m ∨ q = m) with w | w
                      · have := m4.mpr ⟨q, a, w, c, d⟩; omega
                      · rw [w] at c; have := rm.2.mpr c; omega
                    · refine ok_aload_n 95 rfl rfl rfl (ok_iload_n 96 rfl rfl rfl (ok_iload 97 rfl rfl rfl (ok_iload 98 rfl rfl rfl (ok_callVI (M' := M_Mo_at) (as := [_, _, _]) 99 rfl rfl ml_X12_107 (s_Mo_at eb ⟨u1, u2⟩ ⟨by omega, by omega⟩ ⟨by omega, by omega⟩) rfl rfl (Nat.le_of_ble_eq_true rfl) ⟨Nat.le_of_ble_eq_true rfl, Nat.le_of_ble_eq_true rfl⟩ rfl (Nat.le_of_ble_eq_true rfl) (fun σ' z hz => ?_)))))
                      rw [hz.1, hz.2, ec]; clear hz z σ'
                      refine ok_if_le 100 180 rfl rfl rfl (fun h173 => ?_) (fun h173 => ?_)
                      · refine ok_iconst 103 rfl rfl (by decide) (ok_ist7 104 rfl rfl rfl (ok_inc8 105 rfl rfl rfl (by first | omega | (simp [up_if]; omega) | (simp [up_if] at *; omega)) (ok_goto 106 138 rfl rfl rfl ?_)))
                        refine ih4 _ (m + 1) ⟨by omega, by omega, by omega, fun y => absurd y (by decide), fun ⟨q, a, b, c, d⟩ => ?_⟩ (by omega)
                        exfalso
                        rcases (by omega : q < m ∨ q = m) with w | w
                        · have := m4.mpr ⟨q, a, w, c, d⟩; omega
                        · rw [w] at d; omega
                      · refine ok_iconst 101 rfl rfl (by decide) (ok_goto 102 181 rfl rfl rfl (ok_ist7 104 rfl rfl rfl (ok_inc8 105 rfl rfl rfl (by first | omega | (simp [up_if]; omega) | (simp [up_if] at *; omega)) (ok_goto 106 138 rfl rfl rfl ?_))))
                        exact ih4 _ (m + 1) ⟨by omega, by omega, by omega, fun _ => ⟨m, m1, by omega, rm.2.mp (by omega), by omega⟩, fun _ => rfl⟩ (by omega)
          · refine ok_iload_n 65 rfl rfl rfl (ok_iret 66 rfl rfl rfl ?_)
            have ei : i = n * n := by omega
            rw [ei] at i4
            exact ⟨_, rfl, f, Or.inr ⟨ht, Or.inr ⟨⟨k1, by omega⟩, fl.mp (i4.mp (by omega)), hno⟩⟩⟩
        · refine ok_iload 50 rfl rfl rfl (ok_if_eq 51 98 rfl rfl rfl (fun h81 => ?_) (fun h81 => ?_))
          · refine ok_iconst 59 rfl rfl (by decide) (ok_ist4 60 rfl rfl rfl (ok_inc5 61 rfl rfl rfl (by first | omega | (simp [up_if]; omega) | (simp [up_if] at *; omega)) (ok_goto 62 71 rfl rfl rfl ?_)))
            refine ih2 _ (i + 1) ⟨by omega, by omega, by omega, ?_⟩ (by omega)
            first
              | (refine ⟨fun _ => lt_ext (i4.mp (by omega)) ?_, fun _ => rfl⟩
                 have := bl_01 n1 hP i1 (by omega)
                 omega)
              | (refine ⟨fun y => absurd y (by decide), fun y => ?_⟩
                 exfalso
                 have y1 := y i i1 (by omega)
                 have y2 := i4.mpr (fun q c d => y q c (by omega))
                 omega)
          · refine ok_aload_n 52 rfl rfl rfl (ok_getR 53 rfl rfl fl_X12_75 rfl rfl (ok_iload 54 rfl rfl rfl (ok_zald 55 rfl rfl rfl (by first | omega | (simp [up_if]; omega) | (simp [up_if] at *; omega)) (ok_if_eq 56 98 rfl rfl rfl (fun h91 => ?_) (fun h91 => ?_)))))
            · refine ok_iconst 59 rfl rfl (by decide) (ok_ist4 60 rfl rfl rfl (ok_inc5 61 rfl rfl rfl (by first | omega | (simp [up_if]; omega) | (simp [up_if] at *; omega)) (ok_goto 62 71 rfl rfl rfl ?_)))
              refine ih2 _ (i + 1) ⟨by omega, by omega, by omega, ?_⟩ (by omega)
              first
                | (refine ⟨fun _ => lt_ext (i4.mp (by omega)) ?_, fun _ => rfl⟩
                   have := bl_01 n1 hP i1 (by omega)
                   omega)
                | (refine ⟨fun y => absurd y (by decide), fun y => ?_⟩
                   exfalso
                   have y1 := y i i1 (by omega)
                   have y2 := i4.mpr (fun q c d => y q c (by omega))
                   omega)
            · refine ok_iconst 57 rfl rfl (by decide) (ok_goto 58 99 rfl rfl rfl (ok_ist4 60 rfl rfl rfl (ok_inc5 61 rfl rfl rfl (by first | omega | (simp [up_if]; omega) | (simp [up_if] at *; omega)) (ok_goto 62 71 rfl rfl rfl ?_))))
              refine ih2 _ (i + 1) ⟨by omega, by omega, by omega, ?_⟩ (by omega)
              first
                | (refine ⟨fun _ => lt_ext (i4.mp (by omega)) ?_, fun _ => rfl⟩
                   have := bl_01 n1 hP i1 (by omega)
                   omega)
                | (refine ⟨fun y => absurd y (by decide), fun y => ?_⟩
                   exfalso
                   have y1 := y i i1 (by omega)
                   have y2 := i4.mpr (fun q c d => y q c (by omega))
                   omega)
    · refine ok_aload_n 18 rfl rfl rfl (ok_getR 19 rfl rfl fl_X12_75 rfl rfl (ok_iload_n 20 rfl rfl rfl (ok_aload_n 21 rfl rfl rfl (ok_getR 22 rfl rfl fl_X12_16 rfl rfl (ok_bipush 23 rfl rfl (by decide) (by decide) (ok_iload_n 24 rfl rfl rfl (ok_imul 25 rfl rfl (by first | omega | (simp [up_if]; omega) | (simp [up_if] at *; omega)) (ok_iload_n 26 rfl rfl rfl (ok_iadd 27 rfl rfl (by first | omega | (simp [up_if]; omega) | (simp [up_if] at *; omega)) (ok_iald 28 rfl rfl rfl (by first | omega | (simp [up_if]; omega) | (simp [up_if] at *; omega)) (ok_if_le 29 49 rfl rfl rfl (fun h42 => ?_) (fun h42 => ?_))))))))))))
      · refine ok_iconst 32 rfl rfl (by decide) (ok_zast 33 rfl rfl rfl (by first | omega | (simp [up_if]; omega) | (simp [up_if] at *; omega)) (by first | omega | (simp [up_if]; omega) | (simp [up_if] at *; omega)) (ok_inc3 34 rfl rfl rfl (by first | omega | (simp [up_if]; omega) | (simp [up_if] at *; omega)) (ok_goto 35 19 rfl rfl rfl ?_)))
        refine ih (k + 1) _ ⟨by omega, by omega, fr_up f (by simp [rgX]), lt_ext (fun q a b => by rw [up_nk _ _ _ _ (by omega)]; exact hl q a b) ?_⟩ (by omega)
        rw [up_same]
        omega
      · refine ok_iconst 30 rfl rfl (by decide) (ok_goto 31 50 rfl rfl rfl (ok_zast 33 rfl rfl rfl (by first | omega | (simp [up_if]; omega) | (simp [up_if] at *; omega)) (by first | omega | (simp [up_if]; omega) | (simp [up_if] at *; omega)) (ok_inc3 34 rfl rfl rfl (by first | omega | (simp [up_if]; omega) | (simp [up_if] at *; omega)) (ok_goto 35 19 rfl rfl rfl ?_))))
        refine ih (k + 1) _ ⟨by omega, by omega, fr_up f (by simp [rgX]), lt_ext (fun q a b => by rw [up_nk _ _ _ _ (by omega)]; exact hl q a b) ?_⟩ (by omega)
        rw [up_same]
        omega
  · refine ok_iconst 4 rfl rfl (by decide) (ok_iret 5 rfl rfl rfl ?_)
    exact ⟨_, rfl, fr.rf, Or.inl ⟨no1 a1 h5, rfl⟩⟩
end
section
/-! KIN: what can be reached, by rounds and by Warshall's way -/
def RS (n : Int) (W : Int → Int → Int) (a : Int) : Nat → Int → Prop
  | 0 => fun c => c = a
  | m + 1 => fun c => RS n W a m c ∨ (c < n ∧ ∃ r, 0 ≤ r ∧ r < n ∧ RS n W a m r ∧ 1 ≤ W r c)
def RT (n : Int) (W : Int → Int → Int) (a c : Int) : Prop := ∃ m, RS n W a m c
section K12
variable {n a b c : Int} {W V : Int → Int → Int}
theorem RS_le {m : Nat} : ∀ {k : Nat}, RS n W a m c → RS n W a (m + k) c
  | 0, h => h
  | _ + 1, h => Or.inl (RS_le h)
theorem stab {m : Nat} (h : ∀ c, 0 ≤ c → c < n → RS n W a (m + 1) c → RS n W a m c) (ha : 0 ≤ a ∧ a < n) : ∀ (k : Nat) (c : Int), 0 ≤ c → RS n W a (m + k) c → RS n W a m c
  | 0, _, _, q => q
  | k + 1, c, hc, q => by
    rcases q with q | ⟨q1, r, q2, q3, q4, q5⟩
    · exact stab h ha k c hc q
    · exact h c hc q1 (Or.inr ⟨q1, r, q2, q3, stab h ha k r q2 q4, q5⟩)
noncomputable def cn (n : Int) (W : Int → Int → Int) (a : Int) (m : Nat) : Int := sm (fun c => @ite Int (RS n W a m c) (Classical.propDecidable _) 1 0) n.toNat
theorem cn_bd (hn : 0 ≤ n) (m : Nat) : cn n W a m ≤ n := by
  have := sm_bd (f := fun c => @ite Int (RS n W a m c) (Classical.propDecidable _) 1 0) (B := 1) (by decide) (n := n.toNat) (fun k _ _ => by (try dsimp only); split <;> omega)
  unfold cn
  omega
theorem cn_s {m : Nat} (h : ¬ ∀ c, 0 ≤ c → c < n → RS n W a (m + 1) c → RS n W a m c) : cn n W a m + 1 ≤ cn n W a (m + 1) := by
  obtain ⟨c, hc⟩ := Classical.not_forall.mp h
  obtain ⟨c1, hc⟩ := Classical.not_imp.mp hc
  obtain ⟨c2, hc⟩ := Classical.not_imp.mp hc
  obtain ⟨c3, c4⟩ := Classical.not_imp.mp hc
  unfold cn
  refine sm_less (x := c) (fun k p q => ?_) c1 (by omega) ?_
  · by_cases w : RS n W a m k
    · rw [if_pos w, if_pos (show RS n W a (m + 1) k from Or.inl w)]; exact Int.le_refl _
    · rw [if_neg w]; split <;> omega
  · rw [if_neg c4, if_pos c3]; decide
theorem cn_0 (ha : 0 ≤ a ∧ a < n) : 1 ≤ cn n W a 0 := by
  have := sm_le (f := fun c => @ite Int (RS n W a 0 c) (Classical.propDecidable _) 1 0) (n := n.toNat) (fun k _ _ => by (try dsimp only); split <;> omega) a ha.1 (by omega)
  try dsimp only at this
  rw [if_pos (show RS n W a 0 a from rfl)] at this
  unfold cn
  exact this
theorem some_st (ha : 0 ≤ a ∧ a < n) : ∀ m : Nat, (∃ k, k < m ∧ ∀ c, 0 ≤ c → c < n → RS n W a (k + 1) c → RS n W a k c) ∨ (m : Int) + 1 ≤ cn n W a m
  | 0 => Or.inr (by have := cn_0 (n := n) (W := W) ha; omega)
  | m + 1 => by
    rcases some_st ha m with ⟨k, h1, h2⟩ | h
    · exact Or.inl ⟨k, by omega, h2⟩
    · by_cases q : ∀ c, 0 ≤ c → c < n → RS n W a (m + 1) c → RS n W a m c
      · exact Or.inl ⟨m, by omega, q⟩
      · have := cn_s q
        exact Or.inr (by omega)
/-- n rounds are enough -/
theorem RS_n (ha : 0 ≤ a ∧ a < n) (hc : 0 ≤ c) : RS n W a n.toNat c ↔ RT n W a c := by
  refine ⟨fun h => ⟨_, h⟩, fun ⟨m, h⟩ => ?_⟩
  rcases some_st (W := W) ha n.toNat with ⟨k, h1, h2⟩ | q
  · have x := RS_le (k := k) h
    rw [Nat.add_comm m k] at x
    have y := stab h2 ha m c hc x
    have z := RS_le (k := n.toNat - k) y
    rwa [show k + (n.toNat - k) = n.toNat by omega] at z
  · have := cn_bd (n := n) (W := W) (a := a) (by omega) n.toNat
    omega
theorem RT_tr (h : RT n W a b) : ∀ (m : Nat) (c : Int), RS n W b m c → RT n W a c
  | 0, c, q => by
    have q : c = b := q
    rw [q]; exact h
  | m + 1, c, q => by
    rcases q with q | ⟨q1, r, q2, q3, q4, q5⟩
    · exact RT_tr h m c q
    · obtain ⟨k, hk⟩ := RT_tr h m r q4
      exact ⟨k + 1, Or.inr ⟨q1, r, q2, q3, hk, q5⟩⟩
theorem RS_cg (e : ag n W V) (ha : 0 ≤ a ∧ a < n) : ∀ (m : Nat) (c : Int), 0 ≤ c → RS n W a m c → RS n V a m c
  | 0, _, _, q => q
  | m + 1, c, hc, q => by
    rcases q with q | ⟨q1, r, q2, q3, q4, q5⟩
    · exact Or.inl (RS_cg e ha m c hc q)
    · exact Or.inr ⟨q1, r, q2, q3, RS_cg e ha m r q2 q4, by rw [← e r c q2 q3 hc q1]; exact q5⟩
theorem RT_cg (e : ag n W V) (ha : 0 ≤ a ∧ a < n) (hc : 0 ≤ c) : RT n W a c ↔ RT n V a c := ⟨fun ⟨m, h⟩ => ⟨m, RS_cg e ha m c hc h⟩, fun ⟨m, h⟩ => ⟨m, RS_cg e.sy ha m c hc h⟩⟩
end K12
/-- by way of the first k alone -/
def WP (W : Int → Int → Int) : Nat → Int → Int → Prop
  | 0 => fun i j => i = j ∨ 1 ≤ W i j
  | k + 1 => fun i j => WP W k i j ∨ (WP W k i (k : Int) ∧ WP W k (k : Int) j)
section K12b
variable {n : Int} {W : Int → Int → Int}
theorem WP_le {k : Nat} {i j : Int} : ∀ {d : Nat}, WP W k i j → WP W (k + d) i j
  | 0, h => h
  | _ + 1, h => Or.inl (WP_le h)
theorem WP_k1 {k : Nat} {i : Int} : WP W (k + 1) i (k : Int) ↔ WP W k i (k : Int) := ⟨fun h => by
  rcases h with h | h
  · exact h
  · exact h.1, Or.inl⟩
theorem WP_k2 {k : Nat} {j : Int} : WP W (k + 1) (k : Int) j ↔ WP W k (k : Int) j := ⟨fun h => by
  rcases h with h | h
  · exact h
  · exact h.2, Or.inl⟩
theorem WP_tr {k : Nat} : ∀ (d : Nat) (i j : Int), WP W (k + 1 + d) i (k : Int) → WP W (k + 1 + d) (k : Int) j → WP W (k + 1 + d) i j
  | 0, i, j, h, g => Or.inr ⟨WP_k1.mp h, WP_k2.mp g⟩
  | d + 1, i, j, h, g => by
    rcases h with h | ⟨h1, h2⟩ <;> rcases g with g | ⟨g1, g2⟩
    · exact Or.inl (WP_tr d i j h g)
    · exact Or.inr ⟨WP_tr d i _ h g1, g2⟩
    · exact Or.inr ⟨h1, WP_tr d _ j h2 g⟩
    · exact Or.inr ⟨h1, g2⟩
theorem WP_RT : ∀ (k : Nat) (i j : Int), (k : Int) ≤ n → 0 ≤ i → i < n → 0 ≤ j → j < n → WP W k i j → RT n W i j
  | 0, i, j, _, i1, i2, j1, j2, h => by
    rcases h with h | h
    · exact ⟨0, h.symm⟩
    · exact ⟨1, Or.inr ⟨j2, i, i1, i2, rfl, h⟩⟩
  | k + 1, i, j, hk, i1, i2, j1, j2, h => by
    rcases h with h | ⟨h1, h2⟩
    · exact WP_RT k i j (by omega) i1 i2 j1 j2 h
    · obtain ⟨m, hm⟩ := WP_RT k (k : Int) j (by omega) (by omega) (by omega) j1 j2 h2
      exact RT_tr (WP_RT k i (k : Int) (by omega) i1 i2 (by omega) (by omega) h1) m j hm
theorem RS_WP {i : Int} (hi : 0 ≤ i ∧ i < n) : ∀ (m : Nat) (j : Int), 0 ≤ j → RS n W i m j → WP W n.toNat i j
  | 0, j, _, h => by
    have x : WP W 0 i j := Or.inl (Eq.symm h)
    have y := WP_le (d := n.toNat) x
    rwa [Nat.zero_add] at y
  | m + 1, j, hj, h => by
    rcases h with h | ⟨h1, r, h2, h3, h4, h5⟩
    · exact RS_WP hi m j hj h
    · have x := RS_WP hi m r h2 h4
      have y : WP W 0 r j := Or.inr h5
      have y := WP_le (d := n.toNat) y
      rw [Nat.zero_add] at y
      have e : n.toNat = r.toNat + 1 + (n.toNat - r.toNat - 1) := by omega
      have er : ((r.toNat : Nat) : Int) = r := Int.toNat_of_nonneg h2
      rw [e] at x y ⊢
      exact WP_tr _ i j (by rw [er]; exact x) (by rw [er]; exact y)
theorem WP_iff {i j : Int} (hi : 0 ≤ i ∧ i < n) (hj : 0 ≤ j ∧ j < n) : WP W n.toNat i j ↔ RT n W i j := ⟨fun h => WP_RT n.toNat i j (by omega) hi.1 hi.2 hj.1 hj.2 h, fun ⟨m, h⟩ => RS_WP hi m j hj.1 h⟩
end K12b
def kiS (n : Int) (W : Int → Int → Int) (r z : Int) : Prop := (0 ≤ z ∧ z < 256) ∧ ∀ c : Int, 0 ≤ c → c < 8 → (bt z c = true ↔ (c < n ∧ RT n W r c ∧ RT n W c r))
theorem kiS_un {n r z z' : Int} {W V : Int → Int → Int} (hn : n ≤ 8) (e : ag n W V) (hr : 0 ≤ r ∧ r < n) (h : kiS n W r z) (h' : kiS n V r z') : z = z' := bt_ext h.1 h'.1 (fun c a b => by
  have x : bt z c = true ↔ bt z' c = true := by
    rw [h.2 c a b, h'.2 c a b]
    constructor
    · rintro ⟨p, q, w⟩; exact ⟨p, (RT_cg e hr a).mp q, (RT_cg e ⟨a, p⟩ hr.1).mp w⟩
    · rintro ⟨p, q, w⟩; exact ⟨p, (RT_cg e hr a).mpr q, (RT_cg e ⟨a, p⟩ hr.1).mpr w⟩
  cases q : bt z c <;> cases q' : bt z' c <;> simp_all)
theorem ior0_f : ∀ j : Fin 8, ior 0 (ishl 1 (j.val : Int)) = ishl 1 (j.val : Int) := by decide +kernel
theorem ior0 {j : Int} (h : 0 ≤ j ∧ j < 8) : ior 0 (ishl 1 j) = ishl 1 j := by
  have := ior0_f ⟨j.toNat, by omega⟩
  rwa [show (((⟨j.toNat, by omega⟩ : Fin 8).val : Nat) : Int) = j by show ((j.toNat : Nat) : Int) = j; omega] at this
theorem ior_z_f : ∀ s : Fin 256, ∀ j : Fin 8, ior (s.val : Int) (ishl 0 (j.val : Int)) = (s.val : Int) := by decide +kernel
theorem ior_z {s j : Int} (h1 : 0 ≤ s ∧ s < 256) (h2 : 0 ≤ j ∧ j < 8) : ior s (ishl 0 j) = s := fin2 (P := fun s j => ior s (ishl 0 j) = s) ior_z_f h1.1 h1.2 h2.1 h2.2
theorem t_Jo_reachedFrom {σ : eS} {J r n : Int} {W : Int → Int → Int} (hn : 0 ≤ n ∧ n ≤ 8) (hr : 0 ≤ r ∧ r < n) (hJ : jOf J n (fun i j => 1 ≤ W i j)) : MtI shA M_Jo_reachedFrom [vl J, vi r, vi n] σ (fun σ' z => σ' = σ ∧ (0 ≤ z ∧ z < 256) ∧ ∀ c : Int, 0 ≤ c → c < 8 → (bt z c = true ↔ RT n W r c)) := by
  refine Mt.of okM_Jo_reachedFrom (Nat.le_of_ble_eq_true rfl) (fun hk hg => ?_)
  have o0 := or8 (s := 0) (j := r) ⟨by omega, by omega⟩ ⟨hr.1, by omega⟩
  have p0 := bitP (s := 0) (j := r) ⟨by omega, by omega⟩ ⟨hr.1, by omega⟩
  have i0 : ior 0 (ishl 1 r) = ishl 1 r := ior0 ⟨hr.1, by omega⟩
  rw [i0] at o0 p0
  refine ok_iconst 0 rfl rfl (by decide) (ok_iload_n 1 rfl rfl rfl (ok_ishl 2 rfl rfl (ok_ist4 3 rfl rfl rfl (ok_iconst 4 rfl rfl (by decide) (ok_ist5 5 rfl rfl rfl ?_)))))
  refine lpO2 (fun v i : Int => [some (vl J), none, some (vi r), some (vi n), some (vi v), some (vi i)]) (fun _ _ => σ) (fun v i => 0 ≤ i ∧ i ≤ n ∧ (0 ≤ v ∧ v < 256) ∧ ∀ c : Int, 0 ≤ c → c < 8 → (bt v c = true ↔ RS n W r i.toNat c)) (fun _ i => (8 - i).toNat) ?_ _ 0 ⟨by omega, by omega, o0, fun c a b => by rw [p0, bt_sB' hr.1 a, bt_0]; exact ⟨fun q => by rcases q with q | q; cases q; exact q, fun q => Or.inr q⟩⟩
  rintro v i ⟨i1, i2, v1, v2⟩ ih
  refine ok_iload 6 rfl rfl rfl (ok_iload_n 7 rfl rfl rfl (ok_icmp_ge 8 32 rfl rfl rfl (fun h11 => ?_) (fun h11 => ?_)))
  · refine ok_iload 18 rfl rfl rfl (ok_iret 19 rfl rfl rfl ?_)
    refine ⟨_, rfl, rfl, v1, fun c a b => ?_⟩
    rw [v2 c a b, show i = n by omega]
    exact RS_n hr a
  · refine ok_iload 9 rfl rfl rfl (ok_lload_n 10 rfl rfl rfl (ok_iload 11 rfl rfl rfl (ok_iload_n 12 rfl rfl rfl (ok_callSI (M' := M_Jo_columnsOf) (as := [_, _, _]) 13 rfl rfl ml_X1_25 (t_Jo_columnsOf hn v1) ⟨Nat.le_of_ble_eq_true rfl, Nat.le_of_ble_eq_true rfl⟩ rfl (Nat.le_of_ble_eq_true rfl) (fun σ' z hz => ?_)))))
    obtain ⟨hs_, hz⟩ := hz
    rw [hs_]; clear hs_ σ'
    obtain ⟨z1, z2⟩ := cOf_op hn.2 hJ hz
    have os := ior_sp v1 z1
    refine ok_ior 14 rfl rfl (ok_ist4 15 rfl rfl rfl (ok_inc5 16 rfl rfl rfl (by first | omega | (simp [up_if]; omega) | (simp [up_if] at *; omega)) (ok_goto 17 8 rfl rfl rfl ?_)))
    refine ih _ (i + 1) ⟨by omega, by omega, os.1, fun c a b => ?_⟩ (by omega)
    rw [os.2 c a b, Bool.or_eq_true, v2 c a b, z2 c a b, show (i + 1).toNat = i.toNat + 1 by omega]
    constructor
    · rintro (q | ⟨q1, k, k1, k2, k3, k4⟩)
      · exact Or.inl q
      · exact Or.inr ⟨q1, k, k1, k2, (v2 k k1 (by omega)).mp k3, k4⟩
    · rintro (q | ⟨q1, k, k1, k2, k3, k4⟩)
      · exact Or.inl q
      · exact Or.inr ⟨q1, k, k1, k2, (v2 k k1 (by omega)).mpr k3, k4⟩
theorem t_Jo_kinOf {σ : eS} {J r n : Int} {W : Int → Int → Int} (hn : 0 ≤ n ∧ n ≤ 8) (hr : 0 ≤ r ∧ r < n) (hJ : jOf J n (fun i j => 1 ≤ W i j)) : MtI shA M_Jo_kinOf [vl J, vi r, vi n] σ (fun σ' z => σ' = σ ∧ kiS n W r z) := by
  refine Mt.of okM_Jo_kinOf (Nat.le_of_ble_eq_true rfl) (fun hk hg => ?_)
  refine ok_lload_n 0 rfl rfl rfl (ok_iload_n 1 rfl rfl rfl (ok_iload_n 2 rfl rfl rfl (ok_callSI (M' := M_Jo_reachedFrom) (as := [_, _, _]) 3 rfl rfl ml_X1_37 (t_Jo_reachedFrom hn hr hJ) ⟨Nat.le_of_ble_eq_true rfl, Nat.le_of_ble_eq_true rfl⟩ rfl (Nat.le_of_ble_eq_true rfl) (fun σ' R hR => ?_))))
  obtain ⟨hs_, hR⟩ := hR
  rw [hs_]; clear hs_ σ'
  refine ok_ist4 4 rfl rfl rfl (ok_iconst 5 rfl rfl (by decide) (ok_ist5 6 rfl rfl rfl (ok_iconst 7 rfl rfl (by decide) (ok_ist6 8 rfl rfl rfl ?_))))
  obtain ⟨R1, R2⟩ := hR
  refine lpO2 (fun v i : Int => [some (vl J), none, some (vi r), some (vi n), some (vi R), some (vi v), some (vi i)]) (fun _ _ => σ) (fun v i => 0 ≤ i ∧ i ≤ n ∧ (0 ≤ v ∧ v < 256) ∧ ∀ c : Int, 0 ≤ c → c < 8 → (bt v c = true ↔ (c < i ∧ RT n W r c ∧ RT n W c r))) (fun _ i => (8 - i).toNat) ?_ 0 0 ⟨by omega, by omega, ⟨by omega, by omega⟩, fun c a b => by rw [bt_0]; constructor; intro q; cases q; intro q; omega⟩
  rintro v i ⟨i1, i2, v1, v2⟩ ih
  have nx : ∀ v', (0 ≤ v' ∧ v' < 256) → (∀ c : Int, 0 ≤ c → c < 8 → (bt v' c = true ↔ (bt v c = true ∨ (c = i ∧ RT n W r i ∧ RT n W i r)))) → ∀ c : Int, 0 ≤ c → c < 8 → (bt v' c = true ↔ (c < i + 1 ∧ RT n W r c ∧ RT n W c r)) := fun v' _ e c a b => by
    rw [e c a b, v2 c a b]
    constructor
    · rintro (q | ⟨q, q1, q2⟩)
      · exact ⟨by omega, q.2⟩
      · subst q; exact ⟨by omega, q1, q2⟩
    · rintro ⟨q, q1, q2⟩
      by_cases w : c = i
      · subst w; exact Or.inr ⟨rfl, q1, q2⟩
      · exact Or.inl ⟨by omega, q1, q2⟩
  refine ok_iload 9 rfl rfl rfl (ok_iload_n 10 rfl rfl rfl (ok_icmp_ge 11 59 rfl rfl rfl (fun h17 => ?_) (fun h17 => ?_)))
  · refine ok_iload 35 rfl rfl rfl (ok_iret 36 rfl rfl rfl ?_)
    exact ⟨_, rfl, rfl, v1, fun c a b => by rw [v2 c a b, show i = n by omega]⟩
  · have b1 := b_nz (s := R) (j := i) R1 ⟨i1, by omega⟩
    have r2 := R2 i i1 (by omega)
    refine ok_iload 12 rfl rfl rfl (ok_iload 13 rfl rfl rfl (ok_ishr 14 rfl rfl (ok_iconst 15 rfl rfl (by decide) (ok_iand 16 rfl rfl (ok_if_eq 17 53 rfl rfl rfl (fun h27 => ?_) (fun h27 => ?_))))))
    · refine ok_inc6 33 rfl rfl rfl (by first | omega | (simp [up_if]; omega) | (simp [up_if] at *; omega)) (ok_goto 34 14 rfl rfl rfl ?_)
      refine ih _ (i + 1) ⟨by omega, by omega, v1, nx v v1 (fun c a b => ⟨Or.inl, fun q => ?_⟩)⟩ (by omega)
      rcases q with q | ⟨-, q, -⟩
      · exact q
      · have := r2.mpr q; rw [b1.2.mp (by omega)] at this; cases this
    · refine ok_lload_n 18 rfl rfl rfl (ok_iload 19 rfl rfl rfl (ok_iload_n 20 rfl rfl rfl (ok_callSI (M' := M_Jo_reachedFrom) (as := [_, _, _]) 21 rfl rfl ml_X1_37 (t_Jo_reachedFrom hn ⟨i1, by omega⟩ hJ) ⟨Nat.le_of_ble_eq_true rfl, Nat.le_of_ble_eq_true rfl⟩ rfl (Nat.le_of_ble_eq_true rfl) (fun σ' S hS => ?_))))
      obtain ⟨hs_, hS⟩ := hS
      rw [hs_]; clear hs_ σ'
      obtain ⟨S1, S2⟩ := hS
      have b2 := b_nz (s := S) (j := r) S1 ⟨hr.1, by omega⟩
      have s2 := S2 r hr.1 (by omega)
      refine ok_iload_n 22 rfl rfl rfl (ok_ishr 23 rfl rfl (ok_iconst 24 rfl rfl (by decide) (ok_iand 25 rfl rfl (ok_if_eq 26 53 rfl rfl rfl (fun h41 => ?_) (fun h41 => ?_)))))
      · refine ok_inc6 33 rfl rfl rfl (by first | omega | (simp [up_if]; omega) | (simp [up_if] at *; omega)) (ok_goto 34 14 rfl rfl rfl ?_)
        refine ih _ (i + 1) ⟨by omega, by omega, v1, nx v v1 (fun c a b => ⟨Or.inl, fun q => ?_⟩)⟩ (by omega)
        rcases q with q | ⟨-, -, q⟩
        · exact q
        · have := s2.mpr q; rw [b2.2.mp (by omega)] at this; cases this
      · refine ok_iload 27 rfl rfl rfl (ok_iconst 28 rfl rfl (by decide) (ok_iload 29 rfl rfl rfl (ok_ishl 30 rfl rfl (ok_ior 31 rfl rfl (ok_ist5 32 rfl rfl rfl (ok_inc6 33 rfl rfl rfl (by first | omega | (simp [up_if]; omega) | (simp [up_if] at *; omega)) (ok_goto 34 14 rfl rfl rfl ?_)))))))
        have ob := or8 v1 (j := i) ⟨i1, by omega⟩
        refine ih _ (i + 1) ⟨by omega, by omega, ob, nx _ ob (fun c a b => ?_)⟩ (by omega)
        rw [bitP v1 ⟨i1, by omega⟩, bt_sB' i1 a]
        constructor
        · rintro (q | q)
          · exact Or.inl q
          · exact Or.inr ⟨q, r2.mp (b1.1.mp (by omega)), s2.mp (b2.1.mp (by omega))⟩
        · rintro (q | q)
          · exact Or.inl q
          · exact Or.inr q.1
def okKn (T : Prop) (n r : Int) : Prop := T ∧ 0 ≤ r ∧ r < n
theorem t_Ev_kin {σ : eS} {s r : Int} (h : IA σ) : MtI shA M_Ev_kin [vr 0, vi s, vi r] σ (fun σ' z => σ' = σ ∧ ((¬ okKn (tabA σ s) (σ (s.toNat + 2) 1) r ∧ z = -1) ∨ (okKn (tabA σ s) (σ (s.toNat + 2) 1) r ∧ kiS (σ (s.toNat + 2) 1) (cT σ (s.toNat + 2)) r z))) := by
  refine Mt.of okM_Ev_kin (Nat.le_of_ble_eq_true rfl) (fun hk hg => ?_)
  refine ok_aload_n 0 rfl rfl rfl (ok_iload_n 1 rfl rfl rfl (ok_callVR (M' := M_Ev_slotAt) (as := [_]) 2 rfl rfl ml_X11_86 (s_Ev_slotAt) rfl rfl (Nat.le_of_ble_eq_true rfl) ⟨Nat.le_of_ble_eq_true rfl, Nat.le_of_ble_eq_true rfl⟩ rfl (Nat.le_of_ble_eq_true rfl) (fun σ' z hz => ?_)))
  obtain ⟨hs_, hz⟩ := hz
  rw [hs_]; clear hs_ σ'
  rcases hz with ⟨q, q2⟩ | ⟨q1, q2, q⟩
  · subst q
    refine ok_ast3 3 rfl rfl rfl (ok_aload_n 4 rfl rfl rfl (ok_ifnullN 5 18 rfl rfl rfl (ok_iconst 10 rfl rfl (by decide) (ok_goto 11 35 rfl rfl rfl (ok_iret 19 rfl rfl rfl ?_)))))
    exact ⟨_, rfl, rfl, Or.inl ⟨fun c => q2 ⟨c.1.1, c.1.2.1⟩, rfl⟩⟩
  · subst q
    have ht := sl_tA ⟨q1, q2⟩
    have hT := (h.2.1 _ ht).1
    refine ok_ast3 3 rfl rfl rfl (ok_aload_n 4 rfl rfl rfl (ok_ifnull 5 rfl rfl (ok_aload_n 6 rfl rfl rfl (ok_iload_n 7 rfl rfl rfl (ok_callVI (M' := M_Ta_has) (as := [_]) 8 rfl rfl ml_X11_129 (s_Ta_has ht) (sT ht) rfl (Nat.le_of_ble_eq_true rfl) ⟨Nat.le_of_ble_eq_true rfl, Nat.le_of_ble_eq_true rfl⟩ rfl (Nat.le_of_ble_eq_true rfl) (fun σ' z1 x1 => ?_))))))
    obtain ⟨hs_, x1⟩ := x1
    rw [hs_]; clear hs_ σ'
    refine ok_if_ne 9 22 rfl rfl rfl (fun h15 => ?_) (fun h15 => ?_)
    · refine ok_aload_n 12 rfl rfl rfl (ok_iconst 13 rfl rfl (by decide) (ok_callVL (M' := M_Ta_joinedBy) (as := [_]) 14 rfl rfl ml_X11_119 (t_Ta_joinedBy ht hT) (sT ht) rfl (Nat.le_of_ble_eq_true rfl) ⟨Nat.le_of_ble_eq_true rfl, Nat.le_of_ble_eq_true rfl⟩ rfl (Nat.le_of_ble_eq_true rfl) (fun σ' z2 x2 => ?_)))
      obtain ⟨hs_, x2⟩ := x2
      rw [hs_]; clear hs_ σ'
      refine ok_iload_n 15 rfl rfl rfl (ok_aload_n 16 rfl rfl rfl (ok_getI 17 rfl rfl fl_X11_103 (sT ht) rfl (Or.inl rfl) (ok_callSI (M' := M_Jo_kinOf) (as := [_, _, _]) 18 rfl rfl ml_X11_283 (t_Jo_kinOf ⟨hT.1, hT.2.1⟩ ⟨by omega, by omega⟩ x2) ⟨Nat.le_of_ble_eq_true rfl, Nat.le_of_ble_eq_true rfl⟩ rfl (Nat.le_of_ble_eq_true rfl) (fun σ' z3 x3 => ?_))))
      obtain ⟨hs_, x3⟩ := x3
      rw [hs_]; clear hs_ σ'
      refine ok_iret 19 rfl rfl rfl ?_
      exact ⟨_, rfl, rfl, Or.inr ⟨⟨⟨q1, q2, by omega⟩, by omega⟩, x3⟩⟩
    · refine ok_iconst 10 rfl rfl (by decide) (ok_goto 11 35 rfl rfl rfl (ok_iret 19 rfl rfl rfl ?_))
      exact ⟨_, rfl, rfl, Or.inl ⟨fun c => by have := c.2; omega, rfl⟩⟩
/-- a round of Warshall's way, up to a place -/
def fdW (ρ : eS) (n : Int) (W : Int → Int → Int) (k : Nat) (m : Int) : Prop := ∀ x y, 0 ≤ x → x < n → 0 ≤ y → y < n → (ρ 21 (n * x + y) = 0 ∨ ρ 21 (n * x + y) = 1) ∧ (n * x + y < m → (ρ 21 (n * x + y) = 1 ↔ WP W (k + 1) x y)) ∧ (m ≤ n * x + y → (ρ 21 (n * x + y) = 1 ↔ WP W k x y))
theorem fdW_s {ρ : eS} {n i j v : Int} {W : Int → Int → Int} {k : Nat} (hn : 1 ≤ n ∧ n ≤ 8) (hi : 0 ≤ i ∧ i < n) (hj : 0 ≤ j ∧ j < n) (h : fdW ρ n W k (n * i + j)) (hv : v = 0 ∨ v = 1) (hv2 : v = 1 ↔ WP W (k + 1) i j) : fdW (up ρ 21 (n * i + j) v) n W k (n * i + (j + 1)) := fun x y a b d e => by
  by_cases q : n * x + y = n * i + j
  · obtain ⟨q1, q2⟩ := ix_inj hn ⟨d, e⟩ hj q
    rw [q1, q2, up_same]
    exact ⟨hv, fun _ => hv2, fun w => by omega⟩
  · rw [up_nk _ _ _ _ q]
    obtain ⟨h1, h2, h3⟩ := h x y a b d e
    exact ⟨h1, fun w => h2 (by omega), fun w => h3 (by omega)⟩
theorem t_Mo_kin {σ : eS} {s r : Int} (hB : iB1 σ) : MtI shB M_Mo_kin [vr 0, vi s, vi r] σ (fun σ' z => fr rgX σ σ' ∧ ((¬ okKn (tabB σ s) (σ 1 s) r ∧ z = -1) ∨ (okKn (tabB σ s) (σ 1 s) r ∧ kiS (σ 1 s) (cB σ s) r z))) := by
  refine Mt.of okM_Mo_kin (Nat.le_of_ble_eq_true rfl) (fun hk hg => ?_)
  refine ok_aload_n 0 rfl rfl rfl (ok_iload_n 1 rfl rfl rfl (ok_callVI (M' := M_Mo_isTable) (as := [_]) 2 rfl rfl ml_X12_111 (s_Mo_isTable_r) rfl rfl (Nat.le_of_ble_eq_true rfl) ⟨Nat.le_of_ble_eq_true rfl, Nat.le_of_ble_eq_true rfl⟩ rfl (Nat.le_of_ble_eq_true rfl) (fun σ' z1 a1 => ?_)))
  obtain ⟨hs_, a1⟩ := a1
  rw [hs_]; clear hs_ σ'
  refine ok_if_eq 3 26 rfl rfl rfl (fun h5 => ?_) (fun h5 => ?_)
  · refine ok_iconst 16 rfl rfl (by decide) (ok_iret 17 rfl rfl rfl ?_)
    exact ⟨_, rfl, fr.rf, Or.inl ⟨fun c => no1 a1 h5 c.1, rfl⟩⟩
  · obtain ⟨u1, u2, u3⟩ := yes1 a1 h5
    have tn := hB.1 s u1 u2
    refine ok_iload_n 4 rfl rfl rfl (ok_i2l 5 rfl rfl (ok_lconst (w := 0) 6 rfl rfl rfl (by decide) (ok_aload_n 7 rfl rfl rfl (ok_getR 8 rfl rfl fl_X12_7 rfl rfl (ok_iload_n 9 rfl rfl rfl (ok_iald 10 rfl rfl rfl (by first | omega | (simp [up_if]; omega) | (simp [up_if] at *; omega)) (ok_iconst 11 rfl rfl (by decide) (ok_isub 12 rfl rfl (by first | omega | (simp [up_if]; omega) | (simp [up_if] at *; omega)) (ok_i2l 13 rfl rfl (ok_callSI (M' := M_Mo_isIn) (as := [_, _, _]) 14 rfl rfl ml_X12_99 (s_Mo_isIn_r) ⟨Nat.le_of_ble_eq_true rfl, Nat.le_of_ble_eq_true rfl⟩ rfl (Nat.le_of_ble_eq_true rfl) (fun σ' z2 a2 => ?_)))))))))))
    obtain ⟨hs_, a2⟩ := a2
    rw [hs_]; clear hs_ σ'
    refine ok_if_ne 15 28 rfl rfl rfl (fun h23 => ?_) (fun h23 => ?_)
    · refine ok_aload_n 18 rfl rfl rfl (ok_getR 19 rfl rfl fl_X12_7 rfl rfl (ok_iload_n 20 rfl rfl rfl (ok_iald 21 rfl rfl rfl (by first | omega | (simp [up_if]; omega) | (simp [up_if] at *; omega)) (ok_ist3 22 rfl rfl rfl (ok_iconst 23 rfl rfl (by decide) (ok_ist4 24 rfl rfl rfl ?_))))))
      have hr := yes1 a2 h23
      have hok : okKn (tabB σ s) (σ 1 s) r := ⟨⟨u1, u2, u3⟩, by omega⟩
      obtain ⟨n, en⟩ : ∃ n, n = σ 1 s := ⟨_, rfl⟩
      rw [← en] at hok ⊢
      have n1 : 1 ≤ n ∧ n ≤ 8 := by omega
      have r1 : 0 ≤ r ∧ r < n := by omega
      obtain ⟨W, eW⟩ : ∃ W, W = cB σ s := ⟨_, rfl⟩
      have E : ∀ τ : eS, fr rgX σ τ → iB1 τ ∧ τ 1 s = n ∧ cB τ s = W := fun τ g => by
        have e1 : τ 1 s = σ 1 s := g 1 s (by simp [rgX])
        have e3 : ∀ k, τ 3 k = σ 3 k := fun k => g 3 k (by simp [rgX])
        exact ⟨iB1_frS hB g (fun c k q => by simp only [rgX]; omega), by rw [e1, en], by rw [eW]; funext i j; unfold cB; rw [e1, e3]⟩
      refine lpO2 (fun (k : Int) (_ : eS) => [some (vr 0), some (vi s), some (vi r), some (vi n), some (vi k), none, none]) (fun _ ρ => ρ) (fun k ρ => 0 ≤ k ∧ k ≤ n ∧ fr rgX σ ρ ∧ fdB ρ 21 n (n * k) (WP W 0)) (fun k _ => (n - k).toNat) ?_ 0 _ ⟨by omega, by omega, fr.rf, fun x y c d e g l => by have := ix8 (n := n) (i := x) (j := y) ⟨by omega, by omega⟩ ⟨c, d⟩ ⟨e, g⟩; omega⟩
      rintro k ρ ⟨k1, k2, f, hz⟩ ih
      refine ok_iload 25 rfl rfl rfl (ok_iload_n 26 rfl rfl rfl (ok_icmp_ge 27 101 rfl rfl rfl (fun h41 => ?_) (fun h41 => ?_)))
      · refine ok_iconst 57 rfl rfl (by decide) (ok_ist4 58 rfl rfl rfl ?_)
        have hz0 : ∀ x y, 0 ≤ x → x < n → 0 ≤ y → y < n → (ρ 21 (n * x + y) = 0 ∨ ρ 21 (n * x + y) = 1) ∧ (ρ 21 (n * x + y) = 1 ↔ WP W (0 : Int).toNat x y) := fun x y c d e g => by
          rw [show k = n by omega] at hz
          exact fdB_all n1 hz ⟨c, d⟩ ⟨e, g⟩
        clear ih k1 k2 hz
        refine lpO2 (fun (k : Int) (_ : eS) => [some (vr 0), some (vi s), some (vi r), some (vi n), some (vi k), none, none]) (fun _ ρ => ρ) (fun k ρ => 0 ≤ k ∧ k ≤ n ∧ fr rgX σ ρ ∧ ∀ x y, 0 ≤ x → x < n → 0 ≤ y → y < n → (ρ 21 (n * x + y) = 0 ∨ ρ 21 (n * x + y) = 1) ∧ (ρ 21 (n * x + y) = 1 ↔ WP W k.toNat x y)) (fun k _ => (n - k).toNat) ?_ 0 _ ⟨by omega, by omega, f, hz0⟩
        clear f hz0 h41 ρ k
        rintro k ρ ⟨k1, k2, f, hz⟩ ih
        refine ok_iload 59 rfl rfl rfl (ok_iload_n 60 rfl rfl rfl (ok_icmp_ge 61 208 rfl rfl rfl (fun h107 => ?_) (fun h107 => ?_)))
        · refine ok_iconst 116 rfl rfl (by decide) (ok_ist4 117 rfl rfl rfl (ok_iconst 118 rfl rfl (by decide) (ok_ist5 119 rfl rfl rfl ?_)))
          rw [show k = n by omega] at hz
          have hq : ∀ x y, 0 ≤ x → x < n → 0 ≤ y → y < n → (ρ 21 (n * x + y) = 0 ∨ ρ 21 (n * x + y) = 1) ∧ (ρ 21 (n * x + y) = 1 ↔ RT n W x y) := fun x y c d e g => ⟨(hz x y c d e g).1, (hz x y c d e g).2.trans (WP_iff ⟨c, d⟩ ⟨e, g⟩)⟩
          clear ih k1 k2 hz
          refine lpO2 (fun (v i : Int) => [some (vr 0), some (vi s), some (vi r), some (vi n), some (vi v), some (vi i), none]) (fun _ _ => ρ) (fun v i => 0 ≤ i ∧ i ≤ n ∧ (0 ≤ v ∧ v < 256) ∧ ∀ c : Int, 0 ≤ c → c < 8 → (bt v c = true ↔ (c < i ∧ RT n W r c ∧ RT n W c r))) (fun _ i => (n - i).toNat) ?_ 0 0 ⟨by omega, by omega, ⟨by omega, by omega⟩, fun c a b => by rw [bt_0]; constructor; intro q; cases q; intro q; omega⟩
          rintro v i ⟨i1, i2, v1, v2⟩ ih2
          refine ok_iload 120 rfl rfl rfl (ok_iload_n 121 rfl rfl rfl (ok_icmp_ge 122 270 rfl rfl rfl (fun h217 => ?_) (fun h217 => ?_)))
          · refine ok_iload 152 rfl rfl rfl (ok_iret 153 rfl rfl rfl ?_)
            refine ⟨_, rfl, f, Or.inr ⟨hok, v1, fun c a b => ?_⟩⟩
            rw [v2 c a b, show i = n by omega, eW]
          · have b1 := ix8 (n := n) (i := r) (j := i) ⟨by omega, by omega⟩ ⟨by omega, by omega⟩ ⟨by omega, by omega⟩
            have b2 := ix8 (n := n) (i := i) (j := r) ⟨by omega, by omega⟩ ⟨by omega, by omega⟩ ⟨by omega, by omega⟩
            have c1 := hq r i r1.1 r1.2 i1 (by omega)
            have c2 := hq i r i1 (by omega) r1.1 r1.2
            have ob := or8 v1 (j := i) ⟨i1, by omega⟩
            have bp := bitP v1 (j := i) ⟨i1, by omega⟩
            have nx1 : RT n W r i ∧ RT n W i r → ∀ c : Int, 0 ≤ c → c < 8 → (bt (ior v (ishl 1 i)) c = true ↔ (c < i + 1 ∧ RT n W r c ∧ RT n W c r)) := fun y c a b => by
              rw [bp, bt_sB' i1 a, v2 c a b]
              constructor
              · rintro (q | q)
                · exact ⟨by omega, q.2⟩
                · subst q; exact ⟨by omega, y⟩
              · rintro ⟨q, w⟩
                by_cases u : c = i
                · exact Or.inr u
                · exact Or.inl ⟨by omega, w⟩
            have nx0 : ¬ (RT n W r i ∧ RT n W i r) → ∀ c : Int, 0 ≤ c → c < 8 → (bt (ior v (ishl 0 i)) c = true ↔ (c < i + 1 ∧ RT n W r c ∧ RT n W c r)) := fun y c a b => by
              rw [ior_z v1 ⟨i1, by omega⟩, v2 c a b]
              constructor
              · rintro q; exact ⟨by omega, q.2⟩
              · rintro ⟨q, w⟩
                by_cases u : c = i
                · subst u; exact absurd w y
                · exact ⟨by omega, w⟩
            have oz := ior_z v1 (j := i) ⟨i1, by omega⟩
            refine ok_iload 123 rfl rfl rfl (ok_aload_n 124 rfl rfl rfl (ok_getR 125 rfl rfl fl_X12_75 rfl rfl (ok_iload_n 126 rfl rfl rfl (ok_iload_n 127 rfl rfl rfl (ok_imul 128 rfl rfl (by first | omega | (simp [up_if]; omega) | (simp [up_if] at *; omega)) (ok_iload 129 rfl rfl rfl (ok_iadd 130 rfl rfl (by first | omega | (simp [up_if]; omega) | (simp [up_if] at *; omega)) (ok_zald 131 rfl rfl rfl (by first | omega | (simp [up_if]; omega) | (simp [up_if] at *; omega)) (ok_if_eq 132 254 rfl rfl rfl (fun h233 => ?_) (fun h233 => ?_))))))))))
            · refine ok_iconst 144 rfl rfl (by decide) (ok_callSI (M' := M_Mo_one) (as := [_]) 145 rfl rfl ml_X12_192 (s_Mo_one) ⟨Nat.le_of_ble_eq_true rfl, Nat.le_of_ble_eq_true rfl⟩ rfl (Nat.le_of_ble_eq_true rfl) (fun σ' z hz => ?_))
              rw [hz.1, hz.2]; clear hz z σ'
              refine ok_iload 146 rfl rfl rfl (ok_ishl 147 rfl rfl (ok_ior 148 rfl rfl (ok_ist4 149 rfl rfl rfl (ok_inc5 150 rfl rfl rfl (by first | omega | (simp [up_if]; omega) | (simp [up_if] at *; omega)) (ok_goto 151 214 rfl rfl rfl ?_)))))
              first
                | (rw [if_neg (by decide)]
                   exact ih2 _ (i + 1) ⟨by omega, by omega, ob, nx1 ⟨c1.2.mp (by omega), c2.2.mp (by omega)⟩⟩ (by omega))
                | (rw [if_pos rfl]
                   exact ih2 _ (i + 1) ⟨by omega, by omega, by rw [oz]; exact v1, nx0 (fun y => by have y1 := c1.2.mpr y.1; have y2 := c2.2.mpr y.2; omega)⟩ (by omega))
            · refine ok_aload_n 133 rfl rfl rfl (ok_getR 134 rfl rfl fl_X12_75 rfl rfl (ok_iload_n 135 rfl rfl rfl (ok_iload 136 rfl rfl rfl (ok_imul 137 rfl rfl (by first | omega | (simp [up_if]; omega) | (simp [up_if] at *; omega)) (ok_iload_n 138 rfl rfl rfl (ok_iadd 139 rfl rfl (by first | omega | (simp [up_if]; omega) | (simp [up_if] at *; omega)) (ok_zald 140 rfl rfl rfl (by first | omega | (simp [up_if]; omega) | (simp [up_if] at *; omega)) (ok_if_eq 141 254 rfl rfl rfl (fun h247 => ?_) (fun h247 => ?_)))))))))
              · refine ok_iconst 144 rfl rfl (by decide) (ok_callSI (M' := M_Mo_one) (as := [_]) 145 rfl rfl ml_X12_192 (s_Mo_one) ⟨Nat.le_of_ble_eq_true rfl, Nat.le_of_ble_eq_true rfl⟩ rfl (Nat.le_of_ble_eq_true rfl) (fun σ' z hz => ?_))
                rw [hz.1, hz.2]; clear hz z σ'
                refine ok_iload 146 rfl rfl rfl (ok_ishl 147 rfl rfl (ok_ior 148 rfl rfl (ok_ist4 149 rfl rfl rfl (ok_inc5 150 rfl rfl rfl (by first | omega | (simp [up_if]; omega) | (simp [up_if] at *; omega)) (ok_goto 151 214 rfl rfl rfl ?_)))))
                first
                  | (rw [if_neg (by decide)]
                     exact ih2 _ (i + 1) ⟨by omega, by omega, ob, nx1 ⟨c1.2.mp (by omega), c2.2.mp (by omega)⟩⟩ (by omega))
                  | (rw [if_pos rfl]
                     exact ih2 _ (i + 1) ⟨by omega, by omega, by rw [oz]; exact v1, nx0 (fun y => by have y1 := c1.2.mpr y.1; have y2 := c2.2.mpr y.2; omega)⟩ (by omega))
              · refine ok_iconst 142 rfl rfl (by decide) (ok_goto 143 255 rfl rfl rfl (ok_callSI (M' := M_Mo_one) (as := [_]) 145 rfl rfl ml_X12_192 (s_Mo_one) ⟨Nat.le_of_ble_eq_true rfl, Nat.le_of_ble_eq_true rfl⟩ rfl (Nat.le_of_ble_eq_true rfl) (fun σ' z hz => ?_)))
                rw [hz.1, hz.2]; clear hz z σ'
                refine ok_iload 146 rfl rfl rfl (ok_ishl 147 rfl rfl (ok_ior 148 rfl rfl (ok_ist4 149 rfl rfl rfl (ok_inc5 150 rfl rfl rfl (by first | omega | (simp [up_if]; omega) | (simp [up_if] at *; omega)) (ok_goto 151 214 rfl rfl rfl ?_)))))
                first
                  | (rw [if_neg (by decide)]
                     exact ih2 _ (i + 1) ⟨by omega, by omega, ob, nx1 ⟨c1.2.mp (by omega), c2.2.mp (by omega)⟩⟩ (by omega))
                  | (rw [if_pos rfl]
                     exact ih2 _ (i + 1) ⟨by omega, by omega, by rw [oz]; exact v1, nx0 (fun y => by have y1 := c1.2.mpr y.1; have y2 := c2.2.mpr y.2; omega)⟩ (by omega))
        · refine ok_iconst 62 rfl rfl (by decide) (ok_ist5 63 rfl rfl rfl ?_)
          have kn : k < n := by omega
          have ek : ((k.toNat : Nat) : Int) = k := Int.toNat_of_nonneg k1
          refine lpO2 (fun (i : Int) (_ : eS) => [some (vr 0), some (vi s), some (vi r), some (vi n), some (vi k), some (vi i), none]) (fun _ ρ => ρ) (fun i ρ => 0 ≤ i ∧ i ≤ n ∧ fr rgX σ ρ ∧ fdW ρ n W k.toNat (n * i)) (fun i _ => (n - i).toNat) ?_ 0 _ ⟨by omega, by omega, f, fun x y c d e g => by have := ix8 (n := n) (i := x) (j := y) ⟨by omega, by omega⟩ ⟨c, d⟩ ⟨e, g⟩; exact ⟨(hz x y c d e g).1, fun w => by omega, fun _ => (hz x y c d e g).2⟩⟩
          clear f hz ρ
          rintro i ρ ⟨i1, i2, f, hz⟩ ih2
          refine ok_iload 64 rfl rfl rfl (ok_iload_n 65 rfl rfl rfl (ok_icmp_ge 66 202 rfl rfl rfl (fun h116 => ?_) (fun h116 => ?_)))
          · refine ok_inc4 114 rfl rfl rfl (by first | omega | (simp [up_if]; omega) | (simp [up_if] at *; omega)) (ok_goto 115 104 rfl rfl rfl ?_)
            refine ok_fg [some (vr 0), some (vi s), some (vi r), some (vi n), some (vi (k + 1)), none, none] ⟨rfl, rfl, rfl, rfl, rfl, trivial⟩ (ih (k + 1) _ ⟨by omega, by omega, f, fun x y c d e g => ?_⟩ (by omega))
            rw [show i = n by omega] at hz
            have bx := ix8 (n := n) (i := x) (j := y) ⟨by omega, by omega⟩ ⟨c, d⟩ ⟨e, g⟩
            obtain ⟨h1, h2, -⟩ := hz x y c d e g
            rw [show (k + 1).toNat = k.toNat + 1 by omega]
            exact ⟨h1, h2 (by omega)⟩
          · refine ok_iconst 67 rfl rfl (by decide) (ok_ist6 68 rfl rfl rfl ?_)
            refine lpO2 (fun (j : Int) (_ : eS) => [some (vr 0), some (vi s), some (vi r), some (vi n), some (vi k), some (vi i), some (vi j)]) (fun _ ρ => ρ) (fun j ρ => 0 ≤ j ∧ j ≤ n ∧ fr rgX σ ρ ∧ fdW ρ n W k.toNat (n * i + j)) (fun j _ => (n - j).toNat) ?_ 0 _ ⟨by omega, by omega, f, by rw [Int.add_zero]; exact hz⟩
            clear f hz ρ
            rintro j ρ ⟨j1, j2, f, hz⟩ ih3
            refine ok_iload 69 rfl rfl rfl (ok_iload_n 70 rfl rfl rfl (ok_icmp_ge 71 196 rfl rfl rfl (fun h125 => ?_) (fun h125 => ?_)))
            · refine ok_inc5 112 rfl rfl rfl (by first | omega | (simp [up_if]; omega) | (simp [up_if] at *; omega)) (ok_goto 113 113 rfl rfl rfl ?_)
              exact ok_fg [some (vr 0), some (vi s), some (vi r), some (vi n), some (vi k), some (vi (i + 1)), none] ⟨rfl, rfl, rfl, rfl, rfl, rfl, trivial⟩ (ih2 (i + 1) _ ⟨by omega, by omega, f, by rw [show j = n by omega] at hz; rw [Int.mul_add, Int.mul_one]; exact hz⟩ (by omega))
            · have b1 := ix8 (n := n) (i := i) (j := j) ⟨by omega, by omega⟩ ⟨by omega, by omega⟩ ⟨by omega, by omega⟩
              have b2 := ix8 (n := n) (i := i) (j := k) ⟨by omega, by omega⟩ ⟨by omega, by omega⟩ ⟨by omega, by omega⟩
              have b3 := ix8 (n := n) (i := k) (j := j) ⟨by omega, by omega⟩ ⟨by omega, by omega⟩ ⟨by omega, by omega⟩
              obtain ⟨h1, -, h2⟩ := hz i j i1 (by omega) j1 (by omega)
              have h2 := h2 (Int.le_refl _)
              obtain ⟨g1, g2, g3⟩ := hz i k i1 (by omega) k1 kn
              have g4 : ρ 21 (n * i + k) = 1 ↔ WP W k.toNat i k := by
                rcases (by omega : n * i + k < n * i + j ∨ n * i + j ≤ n * i + k) with y | y
                · have x := g2 y; have w := WP_k1 (W := W) (k := k.toNat) (i := i); rw [ek] at w; exact x.trans w
                · exact g3 y
              obtain ⟨d1, d2, d3⟩ := hz k j k1 kn j1 (by omega)
              have d4 : ρ 21 (n * k + j) = 1 ↔ WP W k.toNat k j := by
                rcases (by omega : n * k + j < n * i + j ∨ n * i + j ≤ n * k + j) with y | y
                · have x := d2 y; have w := WP_k2 (W := W) (k := k.toNat) (j := j); rw [ek] at w; exact x.trans w
                · exact d3 y
              have st : WP W (k.toNat + 1) i j ↔ (WP W k.toNat i j ∨ (WP W k.toNat i k ∧ WP W k.toNat k j)) := by show (WP W k.toNat i j ∨ (WP W k.toNat i ((k.toNat : Nat) : Int) ∧ WP W k.toNat ((k.toNat : Nat) : Int) j)) ↔ _; rw [ek]
              refine ok_aload_n 72 rfl rfl rfl (ok_getR 73 rfl rfl fl_X12_75 rfl rfl (ok_iload_n 74 rfl rfl rfl (ok_iload 75 rfl rfl rfl (ok_imul 76 rfl rfl (by first | omega | (simp [up_if]; omega) | (simp [up_if] at *; omega)) (ok_iload 77 rfl rfl rfl (ok_iadd 78 rfl rfl (by first | omega | (simp [up_if]; omega) | (simp [up_if] at *; omega)) (ok_aload_n 79 rfl rfl rfl (ok_getR 80 rfl rfl fl_X12_75 rfl rfl (ok_iload_n 81 rfl rfl rfl (ok_iload 82 rfl rfl rfl (ok_imul 83 rfl rfl (by first | omega | (simp [up_if]; omega) | (simp [up_if] at *; omega)) (ok_iload 84 rfl rfl rfl (ok_iadd 85 rfl rfl (by first | omega | (simp [up_if]; omega) | (simp [up_if] at *; omega)) (ok_zald 86 rfl rfl rfl (by first | omega | (simp [up_if]; omega) | (simp [up_if] at *; omega)) (ok_if_ne 87 184 rfl rfl rfl (fun h151 => ?_) (fun h151 => ?_))))))))))))))))
              · refine ok_iconst 106 rfl rfl (by decide) (ok_goto 107 189 rfl rfl rfl (ok_zast 109 rfl rfl rfl (by first | omega | (simp [up_if]; omega) | (simp [up_if] at *; omega)) (by first | omega | (simp [up_if]; omega) | (simp [up_if] at *; omega)) (ok_inc6 110 rfl rfl rfl (by first | omega | (simp [up_if]; omega) | (simp [up_if] at *; omega)) (ok_goto 111 122 rfl rfl rfl ?_))))
                refine ih3 (j + 1) _ ⟨by omega, by omega, fr_up f (by simp [rgX]), fdW_s n1 ⟨i1, by omega⟩ ⟨j1, by omega⟩ hz (by omega) ?_⟩ (by omega)
                rw [st, ← h2, ← g4, ← d4]
                omega
              · refine ok_aload_n 88 rfl rfl rfl (ok_getR 89 rfl rfl fl_X12_75 rfl rfl (ok_iload_n 90 rfl rfl rfl (ok_iload 91 rfl rfl rfl (ok_imul 92 rfl rfl (by first | omega | (simp [up_if]; omega) | (simp [up_if] at *; omega)) (ok_iload 93 rfl rfl rfl (ok_iadd 94 rfl rfl (by first | omega | (simp [up_if]; omega) | (simp [up_if] at *; omega)) (ok_zald 95 rfl rfl rfl (by first | omega | (simp [up_if]; omega) | (simp [up_if] at *; omega)) (ok_if_eq 96 188 rfl rfl rfl (fun h166 => ?_) (fun h166 => ?_)))))))))
                · refine ok_iconst 108 rfl rfl (by decide) (ok_zast 109 rfl rfl rfl (by first | omega | (simp [up_if]; omega) | (simp [up_if] at *; omega)) (by first | omega | (simp [up_if]; omega) | (simp [up_if] at *; omega)) (ok_inc6 110 rfl rfl rfl (by first | omega | (simp [up_if]; omega) | (simp [up_if] at *; omega)) (ok_goto 111 122 rfl rfl rfl ?_)))
                  refine ih3 (j + 1) _ ⟨by omega, by omega, fr_up f (by simp [rgX]), fdW_s n1 ⟨i1, by omega⟩ ⟨j1, by omega⟩ hz (by omega) ?_⟩ (by omega)
                  rw [st, ← h2, ← g4, ← d4]
                  omega
                · refine ok_aload_n 97 rfl rfl rfl (ok_getR 98 rfl rfl fl_X12_75 rfl rfl (ok_iload_n 99 rfl rfl rfl (ok_iload 100 rfl rfl rfl (ok_imul 101 rfl rfl (by first | omega | (simp [up_if]; omega) | (simp [up_if] at *; omega)) (ok_iload 102 rfl rfl rfl (ok_iadd 103 rfl rfl (by first | omega | (simp [up_if]; omega) | (simp [up_if] at *; omega)) (ok_zald 104 rfl rfl rfl (by first | omega | (simp [up_if]; omega) | (simp [up_if] at *; omega)) (ok_if_eq 105 188 rfl rfl rfl (fun h181 => ?_) (fun h181 => ?_)))))))))
                  · refine ok_iconst 108 rfl rfl (by decide) (ok_zast 109 rfl rfl rfl (by first | omega | (simp [up_if]; omega) | (simp [up_if] at *; omega)) (by first | omega | (simp [up_if]; omega) | (simp [up_if] at *; omega)) (ok_inc6 110 rfl rfl rfl (by first | omega | (simp [up_if]; omega) | (simp [up_if] at *; omega)) (ok_goto 111 122 rfl rfl rfl ?_)))
                    refine ih3 (j + 1) _ ⟨by omega, by omega, fr_up f (by simp [rgX]), fdW_s n1 ⟨i1, by omega⟩ ⟨j1, by omega⟩ hz (by omega) ?_⟩ (by omega)
                    rw [st, ← h2, ← g4, ← d4]
                    omega
                  · refine ok_iconst 106 rfl rfl (by decide) (ok_goto 107 189 rfl rfl rfl (ok_zast 109 rfl rfl rfl (by first | omega | (simp [up_if]; omega) | (simp [up_if] at *; omega)) (by first | omega | (simp [up_if]; omega) | (simp [up_if] at *; omega)) (ok_inc6 110 rfl rfl rfl (by first | omega | (simp [up_if]; omega) | (simp [up_if] at *; omega)) (ok_goto 111 122 rfl rfl rfl ?_))))
                    refine ih3 (j + 1) _ ⟨by omega, by omega, fr_up f (by simp [rgX]), fdW_s n1 ⟨i1, by omega⟩ ⟨j1, by omega⟩ hz (by omega) ?_⟩ (by omega)
                    rw [st, ← h2, ← g4, ← d4]
                    omega
      · refine ok_iconst 28 rfl rfl (by decide) (ok_ist5 29 rfl rfl rfl ?_)
        refine lpO2 (fun (j : Int) (_ : eS) => [some (vr 0), some (vi s), some (vi r), some (vi n), some (vi k), some (vi j), none]) (fun _ ρ => ρ) (fun j ρ => 0 ≤ j ∧ j ≤ n ∧ fr rgX σ ρ ∧ fdB ρ 21 n (n * k + j) (WP W 0)) (fun j _ => (n - j).toNat) ?_ 0 _ ⟨by omega, by omega, f, by rw [Int.add_zero]; exact hz⟩
        clear f hz ρ
        rintro j ρ ⟨j1, j2, f, hz⟩ ih2
        obtain ⟨eb, e1, ec⟩ := E ρ f
        refine ok_iload 30 rfl rfl rfl (ok_iload_n 31 rfl rfl rfl (ok_icmp_ge 32 95 rfl rfl rfl (fun h50 => ?_) (fun h50 => ?_)))
        · refine ok_inc4 55 rfl rfl rfl (by first | omega | (simp [up_if]; omega) | (simp [up_if] at *; omega)) (ok_goto 56 38 rfl rfl rfl ?_)
          exact ok_fg [some (vr 0), some (vi s), some (vi r), some (vi n), some (vi (k + 1)), none, none] ⟨rfl, rfl, rfl, rfl, rfl, trivial⟩ (ih (k + 1) _ ⟨by omega, by omega, f, fdB_r (by rw [show j = n by omega] at hz; exact hz)⟩ (by omega))
        · have bm := ix8 (n := n) (i := k) (j := j) ⟨by omega, by omega⟩ ⟨by omega, by omega⟩ ⟨by omega, by omega⟩
          refine ok_aload_n 33 rfl rfl rfl (ok_getR 34 rfl rfl fl_X12_75 rfl rfl (ok_iload_n 35 rfl rfl rfl (ok_iload 36 rfl rfl rfl (ok_imul 37 rfl rfl (by first | omega | (simp [up_if]; omega) | (simp [up_if] at *; omega)) (ok_iload 38 rfl rfl rfl (ok_iadd 39 rfl rfl (by first | omega | (simp [up_if]; omega) | (simp [up_if] at *; omega)) (ok_iload 40 rfl rfl rfl (ok_iload 41 rfl rfl rfl (ok_icmp_eq 42 83 rfl rfl rfl (fun h68 => ?_) (fun h68 => ?_))))))))))
          · refine ok_iconst 49 rfl rfl (by decide) (ok_goto 50 88 rfl rfl rfl (ok_zast 52 rfl rfl rfl (by first | omega | (simp [up_if]; omega) | (simp [up_if] at *; omega)) (by first | omega | (simp [up_if]; omega) | (simp [up_if] at *; omega)) (ok_inc5 53 rfl rfl rfl (by first | omega | (simp [up_if]; omega) | (simp [up_if] at *; omega)) (ok_goto 54 47 rfl rfl rfl ?_))))
            refine ih2 (j + 1) _ ⟨by omega, by omega, fr_up f (by simp [rgX]), fdB_s n1 ⟨by omega, by omega⟩ ⟨by omega, by omega⟩ hz (by omega) ?_⟩ (by omega)
            first
              | exact ⟨fun _ => Or.inl (by omega), fun _ => rfl⟩
              | exact ⟨fun _ => Or.inr (by omega), fun _ => rfl⟩
              | exact ⟨fun y => absurd y (by decide), fun y => by rcases y with y | y <;> omega⟩
          · refine ok_aload_n 43 rfl rfl rfl (ok_iload_n 44 rfl rfl rfl (ok_iload 45 rfl rfl rfl (ok_iload 46 rfl rfl rfl (ok_callVI (M' := M_Mo_at) (as := [_, _, _]) 47 rfl rfl ml_X12_107 (s_Mo_at eb ⟨u1, u2⟩ ⟨by omega, by omega⟩ ⟨by omega, by omega⟩) rfl rfl (Nat.le_of_ble_eq_true rfl) ⟨Nat.le_of_ble_eq_true rfl, Nat.le_of_ble_eq_true rfl⟩ rfl (Nat.le_of_ble_eq_true rfl) (fun σ' z hz2 => ?_)))))
            rw [hz2.1, hz2.2, ec]; clear hz2 z σ'
            refine ok_if_le 48 87 rfl rfl rfl (fun h80 => ?_) (fun h80 => ?_)
            · refine ok_iconst 51 rfl rfl (by decide) (ok_zast 52 rfl rfl rfl (by first | omega | (simp [up_if]; omega) | (simp [up_if] at *; omega)) (by first | omega | (simp [up_if]; omega) | (simp [up_if] at *; omega)) (ok_inc5 53 rfl rfl rfl (by first | omega | (simp [up_if]; omega) | (simp [up_if] at *; omega)) (ok_goto 54 47 rfl rfl rfl ?_)))
              refine ih2 (j + 1) _ ⟨by omega, by omega, fr_up f (by simp [rgX]), fdB_s n1 ⟨by omega, by omega⟩ ⟨by omega, by omega⟩ hz (by omega) ?_⟩ (by omega)
              first
                | exact ⟨fun _ => Or.inl (by omega), fun _ => rfl⟩
                | exact ⟨fun _ => Or.inr (by omega), fun _ => rfl⟩
                | exact ⟨fun y => absurd y (by decide), fun y => by rcases y with y | y <;> omega⟩
            · refine ok_iconst 49 rfl rfl (by decide) (ok_goto 50 88 rfl rfl rfl (ok_zast 52 rfl rfl rfl (by first | omega | (simp [up_if]; omega) | (simp [up_if] at *; omega)) (by first | omega | (simp [up_if]; omega) | (simp [up_if] at *; omega)) (ok_inc5 53 rfl rfl rfl (by first | omega | (simp [up_if]; omega) | (simp [up_if] at *; omega)) (ok_goto 54 47 rfl rfl rfl ?_))))
              refine ih2 (j + 1) _ ⟨by omega, by omega, fr_up f (by simp [rgX]), fdB_s n1 ⟨by omega, by omega⟩ ⟨by omega, by omega⟩ hz (by omega) ?_⟩ (by omega)
              first
                | exact ⟨fun _ => Or.inl (by omega), fun _ => rfl⟩
                | exact ⟨fun _ => Or.inr (by omega), fun _ => rfl⟩
                | exact ⟨fun y => absurd y (by decide), fun y => by rcases y with y | y <;> omega⟩
    · refine ok_iconst 16 rfl rfl (by decide) (ok_iret 17 rfl rfl rfl ?_)
      exact ⟨_, rfl, fr.rf, Or.inl ⟨fun c => no1 a2 h23 (by have := c.2; omega), rfl⟩⟩
end
section
/-! GROUPS: rows that hang together, counted by rounds and by labels -/
noncomputable def ind (p : Prop) : Int := @ite Int p (Classical.propDecidable _) 1 0
noncomputable def W2 (n : Int) (W : Int → Int → Int) (r k : Int) : Int := ind (∃ j, 0 ≤ j ∧ j < n ∧ 1 ≤ W r j ∧ 1 ≤ W k j)
end
section
/-! both sides between calls -/
def IB (τ : eS) : Prop := iB1 τ ∧ iK τ ∧ (0 ≤ τ 0 6 ∧ τ 0 6 ≤ 600) ∧ (0 ≤ τ 0 42 ∧ τ 0 42 ≤ 1400)
/-- the tape stays -/
def tpB (τ τ' : eS) : Prop := τ' 0 6 = τ 0 6 ∧ τ' 0 7 = τ 0 7 ∧ τ' 0 8 = τ 0 8 ∧ ∀ k, τ' 5 k = τ 5 k
/-- the parts stay -/
def miK (τ τ' : eS) : Prop := ∀ (c : Nat) (k : Int), (c = 0 ∧ 27 ≤ k ∧ k ≤ 31) ∨ c = 12 ∨ c = 13 → τ' c k = τ c k
theorem miK_rf (τ : eS) : miK τ τ := fun _ _ _ => rfl
/-- what was shown stays -/
def swK (τ τ' : eS) : Prop := τ' 0 42 = τ 0 42 ∧ ∀ k, τ' 23 k = τ 23 k
theorem swK_rf (τ : eS) : swK τ τ := ⟨rfl, fun _ => rfl⟩
def otK (τ τ' : eS) : Prop := miK τ τ' ∧ swK τ τ'
theorem otK_rf (τ : eS) : otK τ τ := ⟨miK_rf _, swK_rf _⟩
def QB0 (τ τ' : eS) : Prop := IB τ' ∧ tpB τ τ' ∧ otK τ τ'
def QB1 (τ τ' : eS) : Prop := IB τ' ∧ tpB τ τ' ∧ tbK τ τ' ∧ swK τ τ'
def QBw (τ τ' : eS) : Prop := IB τ' ∧ tpB τ τ' ∧ tbK τ τ' ∧ miK τ τ'
def QB (τ τ' : eS) : Prop := IB τ' ∧ tpB τ τ' ∧ tbK τ τ' ∧ otK τ τ'
theorem QB.q0 {τ τ' : eS} (h : QB τ τ') : QB0 τ τ' := ⟨h.1, h.2.1, h.2.2.2⟩
theorem iK_cg {σ τ : eS} (h : iK σ) (e : ∀ c k, (c = 0 ∧ 27 ≤ k ∧ k ≤ 31) ∨ c = 12 ∨ c = 13 → τ c k = σ c k) : iK τ := by
  have e27 := e 0 27 (by omega)
  have e28 := e 0 28 (by omega)
  have e29 := e 0 29 (by omega)
  have e30 := e 0 30 (by omega)
  have e31 := e 0 31 (by omega)
  have e12 : ∀ k, τ 12 k = σ 12 k := fun k => e 12 k (by omega)
  have e13 : ∀ k, τ 13 k = σ 13 k := fun k => e 13 k (by omega)
  unfold iK wtK colK
  simp only [e27, e28, e29, e30, e31, e12, e13]
  exact h
theorem QB_rf {σ : eS} (h : IB σ) : QB σ σ := ⟨h, ⟨rfl, rfl, rfl, fun _ => rfl⟩, fun _ => ⟨rfl, rfl, rfl⟩, otK_rf _⟩
theorem QB_cg {σ τ : eS} {P : Nat → Int → Prop} (h : IB σ) (f : fr P σ τ) (e : ∀ c k, (c = 0 ∧ (k = 6 ∨ k = 7 ∨ k = 8 ∨ k = 42 ∨ (27 ≤ k ∧ k ≤ 31))) ∨ (1 ≤ c ∧ c ≤ 5) ∨ c = 12 ∨ c = 13 ∨ c = 23 → ¬ P c k) : QB σ τ := by
  have e6 := f 0 6 (e 0 6 (by omega))
  have e42 := f 0 42 (e 0 42 (by omega))
  refine ⟨⟨h.1.fr (fun c k q => f c k (e c k (by omega))), iK_cg h.2.1 (fun c k q => f c k (e c k (by omega))), ?_, ?_⟩, ⟨e6, f _ _ (e _ _ (by omega)), f _ _ (e _ _ (by omega)), fun k => f _ _ (e _ _ (by omega))⟩, fun k => ⟨f _ _ (e _ _ (by omega)), f _ _ (e _ _ (by omega)), f _ _ (e _ _ (by omega))⟩, ⟨fun c k w => f c k (e c k (by omega)), e42, fun k => f _ _ (e _ _ (by omega))⟩⟩
  · rw [e6]; exact h.2.2.1
  · rw [e42]; exact h.2.2.2
theorem QB_M {σ τ : eS} {z : Int} (h : IB σ) (q : QM σ τ z) : QB0 σ τ := by
  have e6 := q.1 0 6 (by simp [rgM])
  have e42 := q.1 0 42 (by simp [rgM])
  refine ⟨⟨q.2.1, iK_cg h.2.1 (fun c k w => q.1 c k (by simp only [rgM]; omega)), ?_, ?_⟩, ⟨e6, q.1 _ _ (by simp [rgM]), q.1 _ _ (by simp [rgM]), fun k => q.1 _ _ (by simp [rgM])⟩, ⟨fun c k w => q.1 c k (by simp only [rgM]; omega), e42, fun k => q.1 _ _ (by simp [rgM])⟩⟩
  · rw [e6]; exact h.2.2.1
  · rw [e42]; exact h.2.2.2
theorem QB_P {σ τ : eS} (h : IB σ) (q : QP σ τ) : QB1 σ τ := by
  have e6 := q.1 0 6 (by simp [rgP])
  have e42 := q.1 0 42 (by simp [rgP])
  refine ⟨⟨h.1.fr (fun c k w => q.1 c k (by simp only [rgP]; omega)), q.2 h.2.1, ?_, ?_⟩, ⟨e6, q.1 _ _ (by simp [rgP]), q.1 _ _ (by simp [rgP]), fun k => q.1 _ _ (by simp [rgP])⟩, fun k => ⟨q.1 _ _ (by simp [rgP]), q.1 _ _ (by simp [rgP]), q.1 _ _ (by simp [rgP])⟩, e42, fun k => q.1 _ _ (by simp [rgP])⟩
  · rw [e6]; exact h.2.2.1
  · rw [e42]; exact h.2.2.2
theorem QB_W {σ τ : eS} (h : IB σ) (f : fr rgW σ τ) (g : 0 ≤ τ 0 42 ∧ τ 0 42 ≤ 1216) : QBw σ τ := by
  have e6 := f 0 6 (by simp [rgW])
  refine ⟨⟨h.1.fr (fun c k w => f c k (by simp only [rgW]; omega)), iK_cg h.2.1 (fun c k w => f c k (by simp only [rgW]; omega)), ?_, by omega⟩, ⟨e6, f _ _ (by simp [rgW]), f _ _ (by simp [rgW]), fun k => f _ _ (by simp [rgW])⟩, fun k => ⟨f _ _ (by simp [rgW]), f _ _ (by simp [rgW]), f _ _ (by simp [rgW])⟩, fun c k w => f c k (by simp only [rgW]; omega)⟩
  rw [e6]; exact h.2.2.1
theorem fd_o (σ : eS) (t a b c d e : Int) (x : Nat) (k : Int) (h : ¬ (x = 0 ∧ k = 6)) (h5 : x ≠ 5) : fd σ t a b c d e x k = σ x k := by simp [fd, fo, h, h5]
theorem fd_6 (σ : eS) (t a b c d e : Int) : fd σ t a b c d e 0 6 = t + 20 := by unfold fd; rw [fo_6]; omega
theorem g_Ev_feed {σ : eS} {a b c d e : Int} (h : IA σ) : MtI shA M_Ev_feed [vr 0, vi a, vi b, vi c, vi d, vi e] σ (fun σ' z => IA σ' ∧ ((σ 10 3 + 20 ≤ 600 ∧ fdA σ (σ 10 3) a b c d e σ' ∧ z = σ 10 3 + 20) ∨ (600 < σ 10 3 + 20 ∧ σ' = σ ∧ z = -1))) :=
  (s_Ev_feed h.1).weaken (fun σ' v q => by
    obtain ⟨z, e1, q⟩ := q
    refine ⟨z, e1, ?_, q⟩
    rcases q with ⟨g1, g2, g3⟩ | ⟨g1, g2, g3⟩
    · have f := g2.1
      refine ⟨?_, iTs_cg h.2.1 (fun c k a b d => f c k (by simp only [rgG]; omega)), iCh_cg h.2.2.1 (fun k => f _ k (by simp [rgG])), iMi_cg h.2.2.2.1 (fun c k a b => f c k (by simp only [rgG]; omega)), iSh_cg h.2.2.2.2.1 (fun k => f _ k (by simp [rgG])), iSu_cg h.2.2.2.2.2 (fun k => f _ k (by simp [rgG]))⟩
      have := h.1
      unfold tL at *
      have := g2.2.1
      omega
    · subst g2
      exact h)
theorem g_Mo_feed {σ : eS} {a b c d e : Int} (h : IB σ) : MtI shB M_Mo_feed [vr 0, vi a, vi b, vi c, vi d, vi e] σ (fun σ' z => IB σ' ∧ ((σ 0 6 + 20 ≤ 600 ∧ σ' = fd σ (σ 0 6) a b c d e ∧ z = σ 0 6 + 20) ∨ (600 < σ 0 6 + 20 ∧ σ' = σ ∧ z = -1))) :=
  (s_Mo_feed h.2.2.1).weaken (fun σ' v q => by
    obtain ⟨z, e1, q⟩ := q
    refine ⟨z, e1, ?_, q⟩
    rcases q with ⟨g1, g2, g3⟩ | ⟨g1, g2, g3⟩
    · subst g2
      have h6 := h.2.2.1
      exact ⟨h.1.fr (fun c k w => fd_o _ _ _ _ _ _ _ _ _ (by omega) (by omega)), iK_cg h.2.1 (fun c k w => fd_o _ _ _ _ _ _ _ _ _ (by omega) (by omega)), by rw [fd_6]; omega, by rw [fd_o _ _ _ _ _ _ _ _ _ (by omega) (by omega)]; exact h.2.2.2⟩
    · subst g2
      exact h)
theorem g_Ev_end {σ : eS} {n : Int} (h : IA σ) : MtI shA M_Ev_end [vr 0, vi n] σ (fun σ' z => IA σ' ∧ ((0 ≤ n ∧ n ≤ σ 10 3 ∧ σ' = up σ 10 3 n ∧ z = 1) ∨ (¬ (0 ≤ n ∧ n ≤ σ 10 3) ∧ σ' = σ ∧ z = 0))) :=
  s_Ev_end.weaken (fun σ' v q => by
    obtain ⟨z, e1, q⟩ := q
    refine ⟨z, e1, ?_, q⟩
    rcases q with ⟨g1, g2, g3, g4⟩ | ⟨g1, g2, g3⟩
    · subst g3
      have f : fr (fun c k => c = 10 ∧ k = 3) σ (up σ 10 3 n) := fr_up fr.rf ⟨rfl, rfl⟩
      refine ⟨?_, iTs_cg h.2.1 (fun c k a b d => f c k (by omega)), iCh_cg h.2.2.1 (fun k => f _ k (by omega)), iMi_cg h.2.2.2.1 (fun c k a b => f c k (by omega)), iSh_cg h.2.2.2.2.1 (fun k => f _ k (by omega)), iSu_cg h.2.2.2.2.2 (fun k => f _ k (by omega))⟩
      have := h.1
      unfold tL at *
      rw [up_same]
      omega
    · subst g2
      exact h)
theorem g_Mo_end {σ : eS} {n : Int} (h : IB σ) : MtI shB M_Mo_end [vr 0, vi n] σ (fun σ' z => IB σ' ∧ ((0 ≤ n ∧ n ≤ σ 0 6 ∧ σ' = up σ 0 6 n ∧ z = 1) ∨ (¬ (0 ≤ n ∧ n ≤ σ 0 6) ∧ σ' = σ ∧ z = 0))) :=
  s_Mo_end.weaken (fun σ' v q => by
    obtain ⟨z, e1, q⟩ := q
    refine ⟨z, e1, ?_, q⟩
    rcases q with ⟨g1, g2, g3, g4⟩ | ⟨g1, g2, g3⟩
    · subst g3
      have h6 := h.2.2.1
      refine ⟨h.1.fr (fun c k w => up_ne _ _ _ _ (by omega)), iK_cg h.2.1 (fun c k w => ?_), by rw [up_same]; omega, by rw [up_nk _ _ _ _ (by decide)]; exact h.2.2.2⟩
      rw [up_if, if_neg (by omega)]
    · subst g2
      exact h)
theorem g_Ev_table {σ : eS} {s : Int} (h : IA σ) : MtI shA M_Ev_table [vr 0, vi s] σ (fun σ' z => IA σ' ∧ (σ' 10 3 = 0 ∧ TA σ s σ' z) ∧ otS σ σ') := t_Ev_table h
theorem g_Mo_table {σ : eS} {s : Int} (h : IB σ ∧ byt σ) : MtI shB M_Mo_table [vr 0, vi s] σ (fun σ' z => IB σ' ∧ (σ' 0 6 = 0 ∧ TB σ s σ' z) ∧ otK σ σ') :=
  (t_Mo_table h.1.1 h.1.2.2.1 h.2).weaken (fun σ' v q => by
    obtain ⟨z, e1, ⟨f, g1, g2⟩, g3⟩ := q
    exact ⟨z, e1, ⟨g1, iK_cg h.1.2.1 (fun c k w => f c k (by simp only [rgT]; omega)), by omega, by rw [f 0 42 (by simp [rgT])]; exact h.1.2.2.2⟩, ⟨g2, g3⟩, fun c k w => f c k (by simp only [rgT]; omega), f _ _ (by simp [rgT]), fun k => f _ _ (by simp [rgT])⟩)
theorem g_Ev_look {σ : eS} {x0 x1 : Int} (h : IA σ) : MtI shA M_Ev_look [vr 0, vi x0, vi x1] σ (fun σ' _ => QA σ σ') := (s_Ev_look h).weaken (fun σ' v q => by obtain ⟨z, e1, g1, _⟩ := q; subst g1; exact ⟨z, e1, QA_rf h⟩)
theorem g_Mo_look {σ : eS} {x0 x1 : Int} (h : IB σ) : MtI shB M_Mo_look [vr 0, vi x0, vi x1] σ (fun σ' _ => QB σ σ') := (s_Mo_look h.1).weaken (fun σ' v q => by obtain ⟨z, e1, g1⟩ := q; exact ⟨z, e1, QB_cg h g1 (fun c k w => by omega)⟩)
theorem g_Ev_cell {σ : eS} {x0 x1 x2 : Int} (h : IA σ) : MtI shA M_Ev_cell [vr 0, vi x0, vi x1, vi x2] σ (fun σ' z => QA σ σ' ∧ ((celA σ x0 x1 x2 ∧ z = cT σ (x0.toNat + 2) x1 x2) ∨ (¬ celA σ x0 x1 x2 ∧ z = -1))) := (s_Ev_cell h).weaken (fun σ' v q => by obtain ⟨z, e1, g1, g2⟩ := q; subst g1; exact ⟨z, e1, QA_rf h, g2⟩)
theorem g_Mo_cell {σ : eS} {x0 x1 x2 : Int} (h : IB σ) : MtI shB M_Mo_cell [vr 0, vi x0, vi x1, vi x2] σ (fun σ' z => QB σ σ' ∧ ((celB σ x0 x1 x2 ∧ z = cB σ x0 x1 x2) ∨ (¬ celB σ x0 x1 x2 ∧ z = -1))) := (s_Mo_cell h.1).weaken (fun σ' v q => by obtain ⟨z, e1, g1, g2⟩ := q; subst g1; exact ⟨z, e1, QB_rf h, g2⟩)
theorem g_Ev_uneven {σ : eS} {x0 : Int} (h : IA σ) : MtI shA M_Ev_uneven [vr 0, vi x0] σ (fun σ' z => QA σ σ' ∧ ((¬ tabA σ x0 ∧ z = -1) ∨ (tabA σ x0 ∧ unev (rowT σ (x0.toNat + 2)) (colT σ (x0.toNat + 2)) (σ (x0.toNat + 2) 1) z))) := (s_Ev_uneven h).weaken (fun σ' v q => by obtain ⟨z, e1, g1, g2⟩ := q; subst g1; exact ⟨z, e1, QA_rf h, g2⟩)
theorem g_Mo_uneven {σ : eS} {x0 : Int} (h : IB σ) : MtI shB M_Mo_uneven [vr 0, vi x0] σ (fun σ' z => QB σ σ' ∧ ((¬ tabB σ x0 ∧ z = -1) ∨ (tabB σ x0 ∧ unev (rowB σ x0) (colB σ x0) (σ 1 x0) z))) := (s_Mo_uneven h.1).weaken (fun σ' v q => by obtain ⟨z, e1, g1, g2⟩ := q; subst g1; exact ⟨z, e1, QB_rf h, g2⟩)
theorem g_Ev_lack {σ : eS} {x0 x1 x2 : Int} (h : IA σ) : MtI shA M_Ev_lack [vr 0, vi x0, vi x1, vi x2] σ (fun σ' z => QA σ σ' ∧ ((¬ okL (tabA σ x0) x1 x2 ∧ z = -1) ∨ (okL (tabA σ x0) x1 x2 ∧ z = lackV (σ (x0.toNat + 2) 1) (fun i j => x1 ≤ cT σ (x0.toNat + 2) i j) x2))) := (t_Ev_lack h).weaken (fun σ' v q => by obtain ⟨z, e1, g1, g2⟩ := q; subst g1; exact ⟨z, e1, QA_rf h, g2⟩)
theorem g_Mo_lack {σ : eS} {x0 x1 x2 : Int} (h : IB σ) : MtI shB M_Mo_lack [vr 0, vi x0, vi x1, vi x2] σ (fun σ' z => QB σ σ' ∧ ((¬ okL (tabB σ x0) x1 x2 ∧ z = -1) ∨ (okL (tabB σ x0) x1 x2 ∧ z = lackV (σ 1 x0) (fun i j => x1 ≤ cB σ x0 i j) x2))) := (t_Mo_lack h.1).weaken (fun σ' v q => by obtain ⟨z, e1, g1, g2⟩ := q; subst g1; exact ⟨z, e1, QB_rf h, g2⟩)
theorem g_Ev_mixing {σ : eS} {x0 : Int} (h : IA σ) : MtI shA M_Ev_mixing [vr 0, vi x0] σ (fun σ' z => QA σ σ' ∧ ((¬ tabA σ x0 ∧ z = -1) ∨ (tabA σ x0 ∧ mxG (σ (x0.toNat + 2) 1) (cT σ (x0.toNat + 2)) z))) := (t_Ev_mixing h).weaken (fun σ' v q => by obtain ⟨z, e1, g1, g2⟩ := q; subst g1; exact ⟨z, e1, QA_rf h, g2⟩)
theorem g_Mo_mixing {σ : eS} {x0 : Int} (h : IB σ) : MtI shB M_Mo_mixing [vr 0, vi x0] σ (fun σ' z => QB σ σ' ∧ ((¬ tabB σ x0 ∧ z = -1) ∨ (tabB σ x0 ∧ mxG (σ 1 x0) (cB σ x0) z))) := (t_Mo_mixing h.1).weaken (fun σ' v q => by obtain ⟨z, e1, g1, g2⟩ := q; exact ⟨z, e1, QB_cg h g1 (fun c k w => by simp only [rgX]; omega), g2⟩)
theorem g_Ev_kin {σ : eS} {x0 x1 : Int} (h : IA σ) : MtI shA M_Ev_kin [vr 0, vi x0, vi x1] σ (fun σ' z => QA σ σ' ∧ ((¬ okKn (tabA σ x0) (σ (x0.toNat + 2) 1) x1 ∧ z = -1) ∨ (okKn (tabA σ x0) (σ (x0.toNat + 2) 1) x1 ∧ kiS (σ (x0.toNat + 2) 1) (cT σ (x0.toNat + 2)) x1 z))) := (t_Ev_kin h).weaken (fun σ' v q => by obtain ⟨z, e1, g1, g2⟩ := q; subst g1; exact ⟨z, e1, QA_rf h, g2⟩)
theorem g_Mo_kin {σ : eS} {x0 x1 : Int} (h : IB σ) : MtI shB M_Mo_kin [vr 0, vi x0, vi x1] σ (fun σ' z => QB σ σ' ∧ ((¬ okKn (tabB σ x0) (σ 1 x0) x1 ∧ z = -1) ∨ (okKn (tabB σ x0) (σ 1 x0) x1 ∧ kiS (σ 1 x0) (cB σ x0) x1 z))) := (t_Mo_kin h.1).weaken (fun σ' v q => by obtain ⟨z, e1, g1, g2⟩ := q; exact ⟨z, e1, QB_cg h g1 (fun c k w => by simp only [rgX]; omega), g2⟩)
theorem g_Ev_part {σ : eS} {x0 x1 : Int} (h : IA σ) : MtI shA M_Ev_part [vr 0, vi x0, vi x1] σ (fun σ' z => QA σ σ' ∧ prS (σ 22 5) (σ 22 4) (kA σ) x0 x1 z) := (t_Ev_part h).weaken (fun σ' v q => by obtain ⟨z, e1, g1, g2⟩ := q; subst g1; exact ⟨z, e1, QA_rf h, g2⟩)
theorem g_Mo_part {σ : eS} {x0 x1 : Int} (h : IB σ) : MtI shB M_Mo_part [vr 0, vi x0, vi x1] σ (fun σ' z => QB σ σ' ∧ ((z = σ 13 (8 * x0 + x1) ∧ 0 ≤ x0 ∧ x0 < σ 0 27 ∧ 0 ≤ x1 ∧ x1 < σ 0 28) ∨ (z = -1 ∧ ¬ (0 ≤ x0 ∧ x0 < σ 0 27 ∧ 0 ≤ x1 ∧ x1 < σ 0 28)))) := (s_Mo_part h.2.1).weaken (fun σ' v q => by obtain ⟨z, e1, g1, g2⟩ := q; subst g1; exact ⟨z, e1, QB_rf h, g2⟩)
theorem g_Ev_weight {σ : eS} {x0 x1 : Int} (h : IA σ) : MtI shA M_Ev_weight [vr 0, vi x0, vi x1] σ (fun σ' z => QA σ σ' ∧ ((1 ≤ σ 22 6 → wtS (σ 22 5) (σ 22 6) (wA σ) x0 x1 z) ∧ (σ 22 5 = 0 → z = -1))) := (t_Ev_weight h).weaken (fun σ' v q => by obtain ⟨z, e1, g1, g2⟩ := q; subst g1; exact ⟨z, e1, QA_rf h, g2⟩)
theorem g_Mo_weight {σ : eS} {x0 x1 : Int} (h : IB σ) : MtI shB M_Mo_weight [vr 0, vi x0, vi x1] σ (fun σ' z => QB σ σ' ∧ wtS (σ 0 27) (σ 0 29) (wB σ) x0 x1 z) := (t_Mo_weight h.2.1).weaken (fun σ' v q => by obtain ⟨z, e1, g1, g2⟩ := q; subst g1; exact ⟨z, e1, QB_rf h, g2⟩)
theorem g_Ev_draw {σ : eS} {x0 : Int} (h : IA σ) : MtI shA M_Ev_draw [vr 0, vi x0] σ (fun σ' z => QA σ σ' ∧ drS (σ 22 5) (wA σ) x0 z) := (t_Ev_draw h).weaken (fun σ' v q => by obtain ⟨z, e1, g1, g2⟩ := q; subst g1; exact ⟨z, e1, QA_rf h, g2⟩)
theorem g_Mo_draw {σ : eS} {x0 : Int} (h : IB σ) : MtI shB M_Mo_draw [vr 0, vi x0] σ (fun σ' z => QB σ σ' ∧ drS (σ 0 27) (wB σ) x0 z) := (t_Mo_draw h.2.1).weaken (fun σ' v q => by obtain ⟨z, e1, g1, g2⟩ := q; subst g1; exact ⟨z, e1, QB_rf h, g2⟩)
theorem g_Ev_joint {σ : eS} {x0 x1 x2 x3 x4 : Int} (h : IA σ) : MtI shA M_Ev_joint [vr 0, vi x0, vi x1, vi x2, vi x3, vi x4] σ (fun σ' z => QA σ σ' ∧ ((1 ≤ σ 22 6 → jtS (σ 22 5) (σ 22 4) (σ 22 6) (wA σ) (kA σ) x0 x1 x2 x3 x4 z) ∧ (σ 22 4 = 0 → z = -1))) := (t_Ev_joint h).weaken (fun σ' v q => by obtain ⟨z, e1, g1, g2⟩ := q; subst g1; exact ⟨z, e1, QA_rf h, g2⟩)
theorem g_Mo_joint {σ : eS} {x0 x1 x2 x3 x4 : Int} (h : IB σ) : MtI shB M_Mo_joint [vr 0, vi x0, vi x1, vi x2, vi x3, vi x4] σ (fun σ' z => QB σ σ' ∧ ((σ 0 27 ≠ 0 → jtS (σ 0 27) (σ 0 28) (σ 0 29) (wB σ) (kB σ) x0 x1 x2 x3 x4 z) ∧ (σ 0 27 = 0 → z = -1))) := (t_Mo_joint h.2.1).weaken (fun σ' v q => by obtain ⟨z, e1, g1, g2⟩ := q; subst g1; exact ⟨z, e1, QB_rf h, g2⟩)
theorem g_Ev_most {σ : eS} {x0 x1 : Int} (h : IA σ) : MtI shA M_Ev_most [vr 0, vi x0, vi x1] σ (fun σ' z => QA σ σ' ∧ mtS (σ 22 5) (σ 22 4) (wA σ) (kA σ) x0 x1 z) := (t_Ev_most h).weaken (fun σ' v q => by obtain ⟨z, e1, g1, g2⟩ := q; subst g1; exact ⟨z, e1, QA_rf h, g2⟩)
theorem g_Mo_most {σ : eS} {x0 x1 : Int} (h : IB σ) : MtI shB M_Mo_most [vr 0, vi x0, vi x1] σ (fun σ' z => QB σ σ' ∧ moS (σ 0 27) (σ 0 28) (wB σ) (kB σ) x0 x1 z) := (t_Mo_most h.2.1).weaken (fun σ' v q => by obtain ⟨z, e1, g1, g2⟩ := q; subst g1; exact ⟨z, e1, QB_rf h, g2⟩)
theorem g_Ev_works {σ : eS} {x0 x1 : Int} (h : IA σ) : MtI shA M_Ev_works [vr 0, vi x0, vi x1] σ (fun σ' z => QA σ σ' ∧ wkS (σ 22 5) (σ 22 3) (wA σ) (kA σ) (σ 22 2 = 2 ∧ 0 ≤ x0 ∧ x0 < σ 22 3) x0 x1 z) := (t_Ev_works h).weaken (fun σ' v q => by obtain ⟨z, e1, g1, g2⟩ := q; subst g1; exact ⟨z, e1, QA_rf h, g2⟩)
theorem g_Mo_works {σ : eS} {x0 x1 : Int} (h : IB σ) : MtI shB M_Mo_works [vr 0, vi x0, vi x1] σ (fun σ' z => QB σ σ' ∧ wkS (σ 0 27) (σ 0 31) (wB σ) (kB σ) (σ 0 30 = 2 ∧ 0 ≤ x0 ∧ x0 < σ 0 31) x0 x1 z) := (t_Mo_works h.2.1).weaken (fun σ' v q => by obtain ⟨z, e1, g1, g2⟩ := q; subst g1; exact ⟨z, e1, QB_rf h, g2⟩)
theorem g_Ev_job {σ : eS} {x0 x1 : Int} (h : IA σ) : MtI shA M_Ev_job [vr 0, vi x0, vi x1] σ (fun σ' _ => QA σ σ') := (s_Ev_job h).weaken (fun σ' v q => by obtain ⟨z, e1, g1, _⟩ := q; subst g1; exact ⟨z, e1, QA_rf h⟩)
theorem g_Mo_job {σ : eS} {x0 x1 : Int} (h : IB σ) : MtI shB M_Mo_job [vr 0, vi x0, vi x1] σ (fun σ' _ => QB σ σ') := (s_Mo_job h.2.1).weaken (fun σ' v q => by obtain ⟨z, e1, g1⟩ := q; subst g1; exact ⟨z, e1, QB_rf h⟩)
theorem g_Ev_out {σ : eS} {x0 : Int} (h : IA σ) : MtI shA M_Ev_out [vr 0, vi x0] σ (fun σ' z => QA σ σ' ∧ ouS (σ 46 1) (fun k => σ 47 k) x0 z) := (t_Ev_out h).weaken (fun σ' v q => by obtain ⟨z, e1, g1, g2⟩ := q; subst g1; exact ⟨z, e1, QA_rf h, g2⟩)
theorem g_Mo_out {σ : eS} {x0 : Int} (h : IB σ) : MtI shB M_Mo_out [vr 0, vi x0] σ (fun σ' z => QB σ σ' ∧ ouS (σ 0 42) (fun k => σ 23 k) x0 z) := (t_Mo_out h.2.2.2).weaken (fun σ' v q => by obtain ⟨z, e1, g1, g2⟩ := q; subst g1; exact ⟨z, e1, QB_rf h, g2⟩)
theorem g_Ev_fault {σ : eS} {x0 : Int} (h : IA σ) : MtI shA M_Ev_fault [vr 0, vi x0] σ (fun σ' z => QA σ σ' ∧ z = if x0 = 0 then σ 10 4 else if x0 = 1 then σ 10 5 else -1) := (s_Ev_fault).weaken (fun σ' v q => by obtain ⟨z, e1, g1, g2⟩ := q; subst g1; exact ⟨z, e1, QA_rf h, g2⟩)
theorem g_Mo_fault {σ : eS} {x0 : Int} (h : IB σ) : MtI shB M_Mo_fault [vr 0, vi x0] σ (fun σ' z => QB σ σ' ∧ z = if x0 = 0 then σ 0 7 else if x0 = 1 then σ 0 8 else -1) := (s_Mo_fault).weaken (fun σ' v q => by obtain ⟨z, e1, g1, g2⟩ := q; subst g1; exact ⟨z, e1, QB_rf h, g2⟩)
theorem g_Ev_kept {σ : eS} {x0 : Int} (h : IA σ) : MtI shA M_Ev_kept [vr 0, vi x0] σ (fun σ' z => QA σ σ' ∧ z = if x0 = 0 then σ 22 2 else if x0 = 1 then σ 22 5 else if x0 = 2 then σ 22 6 else if x0 = 3 then σ 22 3 else if x0 = 4 then σ 10 3 else -1) := (t_Ev_kept).weaken (fun σ' v q => by obtain ⟨z, e1, g1, g2⟩ := q; subst g1; exact ⟨z, e1, QA_rf h, g2⟩)
theorem g_Mo_kept {σ : eS} {x0 : Int} (h : IB σ) : MtI shB M_Mo_kept [vr 0, vi x0] σ (fun σ' z => QB σ σ' ∧ z = if x0 = 0 then σ 0 30 else if x0 = 1 then σ 0 27 else if x0 = 2 then σ 0 29 else if x0 = 3 then (if σ 0 30 = 2 then σ 0 31 else σ 0 28) else if x0 = 4 then σ 0 6 else -1) := (t_Mo_kept).weaken (fun σ' v q => by obtain ⟨z, e1, g1, g2⟩ := q; subst g1; exact ⟨z, e1, QB_rf h, g2⟩)
theorem g_Ev_peel {σ : eS} {x0 x1 : Int} (h : IA σ ∧ iSe σ ∧ σ 16 3 + 64 < 2147483647) : MtI shA M_Ev_peel [vr 0, vi x0, vi x1] σ (fun σ' z => XpA σ x0 x1 σ' z) := t_Ev_peel h.1 h.2.1 h.2.2
theorem g_Mo_peel {σ : eS} {x0 x1 : Int} (h : IB σ) : MtI shB M_Mo_peel [vr 0, vi x0, vi x1] σ (fun σ' z => XpB σ x0 x1 σ' z) := t_Mo_peel h.1
theorem g_Ev_shop {σ : eS} {x0 x1 : Int} (h : IA σ ∧ iSe σ ∧ σ 16 3 + 64 < 2147483647) : MtI shA M_Ev_shop [vr 0, vi x0, vi x1] σ (fun σ' z => XsA σ x0 x1 σ' z) := t_Ev_shop h.1 h.2.1 h.2.2
theorem g_Mo_shop {σ : eS} {x0 x1 : Int} (h : IB σ) : MtI shB M_Mo_shop [vr 0, vi x0, vi x1] σ (fun σ' z => XsB σ x0 x1 σ' z) := t_Mo_shop h.1
theorem g_Ev_paired {σ : eS} {x0 x1 x2 : Int} (h : IA σ ∧ iSe σ ∧ σ 16 3 + 64 < 2147483647) : MtI shA M_Ev_paired [vr 0, vi x0, vi x1, vi x2] σ (fun σ' z => QA σ σ' ∧ ((¬ okPr (tabA σ x0) (σ (x0.toNat + 2) 1) x1 x2 ∧ z = -1) ∨ (okPr (tabA σ x0) (σ (x0.toNat + 2) 1) x1 x2 ∧ paS (σ (x0.toNat + 2) 1) (fun i j => x1 ≤ cT σ (x0.toNat + 2) i j) x2 z))) := t_Ev_paired h
theorem g_Mo_paired {σ : eS} {x0 x1 x2 : Int} (h : IB σ) : MtI shB M_Mo_paired [vr 0, vi x0, vi x1, vi x2] σ (fun σ' z => QB σ σ' ∧ ((¬ okPr (tabB σ x0) (σ 1 x0) x1 x2 ∧ z = -1) ∨ (okPr (tabB σ x0) (σ 1 x0) x1 x2 ∧ paS (σ 1 x0) (fun i j => x1 ≤ cB σ x0 i j) x2 z))) := (t_Mo_paired h.1).weaken (fun σ' v q => by obtain ⟨z, e1, g1, g2⟩ := q; exact ⟨z, e1, QB_cg h g1 (fun c k w => by simp only [rgS]; omega), g2⟩)
theorem g_Ev_ways {σ : eS} {x0 x1 : Int} (h : IA σ) : MtI shA M_Ev_ways [vr 0, vi x0, vi x1] σ (fun σ' z => QA σ σ' ∧ ((¬ okW (tabA σ x0) x1 ∧ z = -1) ∨ (okW (tabA σ x0) x1 ∧ z = wyV (σ (x0.toNat + 2) 1) (fun i j => x1 ≤ cT σ (x0.toNat + 2) i j)))) := t_Ev_ways h
theorem g_Mo_ways {σ : eS} {x0 x1 : Int} (h : IB σ) : MtI shB M_Mo_ways [vr 0, vi x0, vi x1] σ (fun σ' z => QB σ σ' ∧ ((¬ okW (tabB σ x0) x1 ∧ z = -1) ∨ (okW (tabB σ x0) x1 ∧ z = wyV (σ 1 x0) (fun i j => x1 ≤ cB σ x0 i j)))) := (t_Mo_ways h.1).weaken (fun σ' v q => by obtain ⟨z, e1, g1, g2⟩ := q; exact ⟨z, e1, QB_cg h g1 (fun c k w => by simp only [rgU]; omega), g2⟩)
theorem g_Ev_widest {σ : eS} {x0 : Int} (h : IA σ) : MtI shA M_Ev_widest [vr 0, vi x0] σ (fun σ' z => QA σ σ' ∧ ((¬ tabA σ x0 ∧ z = -1) ∨ (tabA σ x0 ∧ wdA (σ (x0.toNat + 2) 1) (fun i j => 0 ≤ cT σ (x0.toNat + 2) i j) (cT σ (x0.toNat + 2)) z))) := t_Ev_widest h
theorem g_Mo_widest {σ : eS} {x0 : Int} (h : IB σ) : MtI shB M_Mo_widest [vr 0, vi x0] σ (fun σ' z => QB σ σ' ∧ ((¬ tabB σ x0 ∧ z = -1) ∨ (tabB σ x0 ∧ wdA (σ 1 x0) (fun i j => 0 ≤ wk (wo σ x0 (σ 1 x0) (σ 1 x0 * σ 1 x0)) i j) (wk (wo σ x0 (σ 1 x0) (σ 1 x0 * σ 1 x0))) z))) := (t_Mo_widest h.1).weaken (fun σ' v q => by obtain ⟨z, e1, g1, g2⟩ := q; exact ⟨z, e1, QB_cg h g1 (fun c k w => by simp only [rgS]; omega), g2⟩)
theorem g_Ev_best {σ : eS} {x0 x1 : Int} (h : IA σ) : MtL shA M_Ev_best [vr 0, vi x0, vi x1] σ (fun σ' z => QA σ σ' ∧ ((¬ okBs (tabA σ x0) (σ (x0.toNat + 2) 1) x1 ∧ z = -1) ∨ (okBs (tabA σ x0) (σ (x0.toNat + 2) 1) x1 ∧ bsA (σ (x0.toNat + 2) 1) (fun i j => 0 ≤ cT σ (x0.toNat + 2) i j) (cT σ (x0.toNat + 2)) x1 z))) := t_Ev_best h
theorem g_Mo_best {σ : eS} {x0 x1 : Int} (h : IB σ) : MtL shB M_Mo_best [vr 0, vi x0, vi x1] σ (fun σ' z => QB σ σ' ∧ ((¬ okBs (tabB σ x0) (σ 1 x0) x1 ∧ z = -1) ∨ (okBs (tabB σ x0) (σ 1 x0) x1 ∧ bsA (σ 1 x0) (fun i j => 0 ≤ wk (wo σ x0 (σ 1 x0) (σ 1 x0 * σ 1 x0)) i j) (wk (wo σ x0 (σ 1 x0) (σ 1 x0 * σ 1 x0))) x1 z))) := (t_Mo_best h.1).weaken (fun σ' v q => by obtain ⟨z, e1, g1, g2⟩ := q; exact ⟨z, e1, QB_cg h g1 (fun c k w => by simp only [rgS]; omega), g2⟩)
theorem g_Ev_permanent {σ : eS} {x0 : Int} (h : IA σ) : MtL shA M_Ev_permanent [vr 0, vi x0] σ (fun σ' z => QA σ σ' ∧ ((¬ tabA σ x0 ∧ z = -1) ∨ (tabA σ x0 ∧ pmA (σ (x0.toNat + 2) 1) (cT σ (x0.toNat + 2)) z))) := t_Ev_permanent h
theorem g_Mo_permanent {σ : eS} {x0 : Int} (h : IB σ) : MtL shB M_Mo_permanent [vr 0, vi x0] σ (fun σ' z => QB σ σ' ∧ ((¬ tabB σ x0 ∧ z = -1) ∨ (tabB σ x0 ∧ pmA (σ 1 x0) (cB σ x0) z))) := (t_Mo_permanent h.1).weaken (fun σ' v q => by obtain ⟨z, e1, g1, g2⟩ := q; exact ⟨z, e1, QB_cg h g1 (fun c k w => by simp only [rgU]; omega), g2⟩)
theorem g_Ev_sought {σ : eS} {x0 x1 : Int} (h : IA σ) : MtI shA M_Ev_sought [vr 0, vi x0, vi x1] σ (fun σ' _ => QA σ σ') := (s_Ev_sought h).weaken (fun σ' v q => by exact q)
theorem g_Mo_sought {σ : eS} {x0 x1 : Int} (h : IB σ) : MtI shB M_Mo_sought [vr 0, vi x0, vi x1] σ (fun σ' _ => QB σ σ') := (s_Mo_sought h.1).weaken (fun σ' v q => by obtain ⟨z, e1, g1⟩ := q; exact ⟨z, e1, QB_cg h g1 (fun c k w => by simp only [rgS]; omega)⟩)
theorem g_Ev_bound {σ : eS} {x0 x1 : Int} (h : IA σ) : MtI shA M_Ev_bound [vr 0, vi x0, vi x1] σ (fun σ' _ => QA σ σ') := (s_Ev_bound h).weaken (fun σ' v q => by exact q)
theorem g_Mo_bound {σ : eS} {x0 x1 : Int} (h : IB σ) : MtI shB M_Mo_bound [vr 0, vi x0, vi x1] σ (fun σ' _ => QB σ σ') := (s_Mo_bound h.1).weaken (fun σ' v q => by obtain ⟨z, e1, g1⟩ := q; exact ⟨z, e1, QB_cg h g1 (fun c k w => by omega)⟩)
theorem g_Ev_rounded {σ : eS} {x0 x1 x2 : Int} (h : IA σ) : MtI shA M_Ev_rounded [vr 0, vi x0, vi x1, vi x2] σ (fun σ' _ => QA σ σ') := (s_Ev_rounded h).weaken (fun σ' v q => by exact q)
theorem g_Mo_rounded {σ : eS} {x0 x1 x2 : Int} (h : IB σ) : MtI shB M_Mo_rounded [vr 0, vi x0, vi x1, vi x2] σ (fun σ' _ => QB σ σ') := (s_Mo_rounded h.1).weaken (fun σ' v q => by obtain ⟨z, e1, g1⟩ := q; exact ⟨z, e1, QB_cg h g1 (fun c k w => by simp only [rgN]; omega)⟩)
theorem g_Ev_show {σ : eS} (h : IA σ) : MtI shA M_Ev_show [vr 0] σ (fun σ' z => QAw σ σ' ∧ z = σ' 46 1 ∧ bfl (fun k => σ' 47 k) (σ' 46 1) (shL (wA σ) (kA σ) (σ 22 4) (σ 22 5).toNat)) := t_Ev_show h
theorem g_Mo_show {σ : eS} (h : IB σ) : MtI shB M_Mo_show [vr 0] σ (fun σ' z => QBw σ σ' ∧ z = σ' 0 42 ∧ bfl (fun k => σ' 23 k) (σ' 0 42) (shL (wB σ) (kB σ) (σ 0 28) (σ 0 27).toNat)) := (t_Mo_show h.2.1).weaken (fun σ' v q => by obtain ⟨z, e1, g1, g2, g3⟩ := q; exact ⟨z, e1, QB_W h g1 g2, g3⟩)
theorem g_Ev_mix {σ : eS} {x0 x1 x2 x3 x4 x5 x6 : Int} (h : IA σ) : MtI shA M_Ev_mix [vr 0, vi x0, vi x1, vi x2, vi x3, vi x4, vi x5, vi x6] σ (fun σ' z => QA0 σ σ' ∧ XmA σ x0 x1 x2 x3 x4 x5 x6 σ' z) := t_Ev_mix h
theorem g_Mo_mix {σ : eS} {x0 x1 x2 x3 x4 x5 x6 : Int} (h : IB σ) : MtI shB M_Mo_mix [vr 0, vi x0, vi x1, vi x2, vi x3, vi x4, vi x5, vi x6] σ (fun σ' z => QB0 σ σ' ∧ XmB σ x0 x1 x2 x3 x4 x5 x6 σ' z) := (t_Mo_mix h.1).weaken (fun σ' v q => by obtain ⟨z, e1, g1, g2⟩ := q; exact ⟨z, e1, QB_M h g1, g2⟩)
theorem g_Ev_times {σ : eS} {x0 x1 x2 : Int} (h : IA σ) : MtI shA M_Ev_times [vr 0, vi x0, vi x1, vi x2] σ (fun σ' z => QA0 σ σ' ∧ XtA σ x0 x1 x2 σ' z) := t_Ev_times h
theorem g_Mo_times {σ : eS} {x0 x1 x2 : Int} (h : IB σ) : MtI shB M_Mo_times [vr 0, vi x0, vi x1, vi x2] σ (fun σ' z => QB0 σ σ' ∧ XtB σ x0 x1 x2 σ' z) := (t_Mo_times h.1).weaken (fun σ' v q => by obtain ⟨z, e1, g1, g2⟩ := q; exact ⟨z, e1, QB_M h g1, g2⟩)
theorem g_Ev_turn {σ : eS} {x0 x1 x2 x3 : Int} (h : IA σ) : MtI shA M_Ev_turn [vr 0, vi x0, vi x1, vi x2, vi x3] σ (fun σ' z => QA0 σ σ' ∧ XuA σ x0 x1 x2 x3 σ' z) := t_Ev_turn h
theorem g_Mo_turn {σ : eS} {x0 x1 x2 x3 : Int} (h : IB σ) : MtI shB M_Mo_turn [vr 0, vi x0, vi x1, vi x2, vi x3] σ (fun σ' z => QB0 σ σ' ∧ XuB σ x0 x1 x2 x3 σ' z) := (t_Mo_turn h.1).weaken (fun σ' v q => by obtain ⟨z, e1, g1, g2⟩ := q; exact ⟨z, e1, QB_M h g1, g2⟩)
end
section
/-! both sides side by side: the tapes -/
def TP (σ τ : eS) : Prop := σ 10 3 = τ 0 6 ∧ aB (σ 11) (τ 5) (τ 0 6) ∧ byt τ ∧ σ 10 4 = τ 0 7 ∧ σ 10 5 = τ 0 8
theorem TP_keep {σ τ σ' τ' : eS} (h : TP σ τ) (a : tpS σ σ') (b : tpB τ τ') : TP σ' τ' := by
  obtain ⟨a1, a2⟩ := a
  obtain ⟨b1, b2, b3, b4⟩ := b
  obtain ⟨h1, h2, h3, h4, h5⟩ := h
  refine ⟨by rw [a1, b1, h1], fun i x y => ?_, fun k x y => ?_, by rw [a1, b2, h4], by rw [a1, b3, h5]⟩
  · rw [a2, b4]; exact h2 i x (by omega)
  · rw [b4]; exact h3 k x (by omega)
theorem TP_feed {σ τ σ' τ' : eS} {zA zB a b c d e : Int} (h : TP σ τ) (qA : (σ 10 3 + 20 ≤ 600 ∧ fdA σ (σ 10 3) a b c d e σ' ∧ zA = σ 10 3 + 20) ∨ (600 < σ 10 3 + 20 ∧ σ' = σ ∧ zA = -1)) (qB : (τ 0 6 + 20 ≤ 600 ∧ τ' = fd τ (τ 0 6) a b c d e ∧ zB = τ 0 6 + 20) ∨ (600 < τ 0 6 + 20 ∧ τ' = τ ∧ zB = -1)) : TP σ' τ' ∧ zA = zB := by
  obtain ⟨h1, h2, h3, h4, h5⟩ := id h
  rcases qA with ⟨a1, a2, a3⟩ | ⟨a1, a2, a3⟩ <;> rcases qB with ⟨b1, b2, b3⟩ | ⟨b1, b2, b3⟩
  · rw [h1] at a2
    subst b2
    refine ⟨⟨by rw [a2.2.1, fd_6], ?_, fun k x y => ?_, ?_, ?_⟩, by omega⟩
    · rw [fd_6]; exact fd_al h2 a2
    · rw [fd_6] at y; exact fd_nn h3 k x y
    · rw [a2.1 10 4 (by simp [rgG]), fd_o _ _ _ _ _ _ _ _ _ (by omega) (by omega)]; exact h4
    · rw [a2.1 10 5 (by simp [rgG]), fd_o _ _ _ _ _ _ _ _ _ (by omega) (by omega)]; exact h5
  · omega
  · omega
  · subst a2; subst b2; exact ⟨h, by omega⟩
theorem TP_end {σ τ σ' τ' : eS} {zA zB n : Int} (h : TP σ τ) (qA : (0 ≤ n ∧ n ≤ σ 10 3 ∧ σ' = up σ 10 3 n ∧ zA = 1) ∨ (¬ (0 ≤ n ∧ n ≤ σ 10 3) ∧ σ' = σ ∧ zA = 0)) (qB : (0 ≤ n ∧ n ≤ τ 0 6 ∧ τ' = up τ 0 6 n ∧ zB = 1) ∨ (¬ (0 ≤ n ∧ n ≤ τ 0 6) ∧ τ' = τ ∧ zB = 0)) : TP σ' τ' ∧ zA = zB := by
  obtain ⟨h1, h2, h3, h4, h5⟩ := id h
  rcases qA with ⟨a1, a2, a3, a4⟩ | ⟨a1, a2, a3⟩ <;> rcases qB with ⟨b1, b2, b3, b4⟩ | ⟨b1, b2, b3⟩
  · subst a3; subst b3
    refine ⟨⟨by rw [up_same, up_same], fun i x y => ?_, fun k x y => ?_, ?_, ?_⟩, by omega⟩
    · rw [up_same] at y
      rw [up_ne _ _ _ _ (by decide), up_ne _ _ _ _ (by decide)]
      exact h2 i x (by omega)
    · rw [up_same] at y
      rw [up_ne _ _ _ _ (by decide)]
      exact h3 k x (by omega)
    · rw [up_nk _ _ _ _ (by decide), up_nk _ _ _ _ (by decide)]; exact h4
    · rw [up_nk _ _ _ _ (by decide), up_nk _ _ _ _ (by decide)]; exact h5
  · omega
  · omega
  · subst a2; subst b2; exact ⟨h, by omega⟩
theorem aO_of {σ τ : eS} (h : TP σ τ) : aO (RAr σ) (RB τ) := by
  unfold RAr RB
  rw [h.1]
  exact PR_al h.2.1 _ _ _ _
theorem TP_table {σ τ σ' τ' : eS} {zA zB s : Int} (h : TP σ τ) (qA : σ' 10 3 = 0 ∧ TA σ s σ' zA) (qB : τ' 0 6 = 0 ∧ TB τ s τ' zB) : TP σ' τ' ∧ zA = zB := by
  have al := aO_of h
  obtain ⟨h1, h2, h3, h4, h5⟩ := id h
  obtain ⟨a6, qA⟩ := qA
  obtain ⟨b6, qB⟩ := qB
  have key : zA = zB ∧ σ' 10 4 = τ' 0 7 ∧ σ' 10 5 = τ' 0 8 := by
    rcases qA with ⟨a0, a1, a2, a3, -⟩ | ⟨a0, aS, a1, -⟩ <;> rcases qB with ⟨b0, b1, b2, b3, -⟩ | ⟨b0, b1, -⟩
    · omega
    · omega
    · omega
    · rw [h1] at a1
      exact tbO_un al aS a1 b1
  exact ⟨⟨by omega, fun i x y => by omega, fun k x y => by omega, key.2.1, key.2.2⟩, key.1⟩
end
section
/-! both sides side by side: the tables -/
def tbE (σ τ : eS) (s : Int) : Prop := σ (s.toNat + 2) 1 = τ 1 s ∧ (τ 1 s ≠ 0 → σ (s.toNat + 2) 2 = τ 2 s) ∧ (τ 1 s = 0 → τ 2 s = 0) ∧ ∀ i j, 0 ≤ i → i < τ 1 s → 0 ≤ j → j < τ 1 s → cT σ (s.toNat + 2) i j = cB τ s i j
def TT (σ τ : eS) : Prop := ∀ s : Int, 0 ≤ s → s < 4 → tbE σ τ s
theorem TT_keep {σ τ σ' τ' : eS} (h : TT σ τ) (a : tbS σ σ') (b : tbK τ τ') : TT σ' τ' := fun s s1 s2 => by
  obtain ⟨h1, h2, h3, h4⟩ := h s s1 s2
  have e1 : σ' (s.toNat + 2) 1 = σ (s.toNat + 2) 1 := a _ _ (by omega) (by omega) (fun _ => by omega)
  have e2 : σ' (s.toNat + 2) 2 = σ (s.toNat + 2) 2 := a _ _ (by omega) (by omega) (fun _ => by omega)
  refine ⟨by rw [e1, (b s).1, h1], fun q => ?_, fun q => ?_, fun i j p q r w => ?_⟩
  · rw [(b s).1] at q; rw [e2, (b s).2.1]; exact h2 q
  · rw [(b s).1] at q; rw [(b s).2.1]; exact h3 q
  · rw [(b s).1] at q w
    rw [cB_cg b]
    unfold cT
    rw [a _ _ (by omega) (by omega) (fun _ => by omega)]
    exact h4 i j p q r w
theorem TT_set {σ τ σ' τ' : eS} {s0 n b b' : Int} {f : Int → Int → Int} (hI : iB1 τ) (h0 : 0 ≤ s0 ∧ s0 < 4) (hn : 0 ≤ n ∧ n ≤ 8) (h : TT σ τ) (a1 : σ' (s0.toNat + 2) 1 = n) (a2 : σ' (s0.toNat + 2) 2 = b) (a3 : ∀ i j, 0 ≤ i → i < n → 0 ≤ j → j < n → σ' (s0.toNat + 2 + 4) (i * 8 + j) = f i j) (a4 : tbX σ σ' (s0.toNat + 2)) (b1 : ∀ k, τ' 1 k = if k = s0 then n else τ 1 k) (b2 : ∀ k, τ' 2 k = if k = s0 then b' else τ 2 k) (hb : n ≠ 0 → b = b') (hb0 : n = 0 → b' = 0) (b3 : ∀ k, ¬ (64 * s0 ≤ k ∧ k < 64 * s0 + n * n) → τ' 3 k = τ 3 k) (b4 : ∀ i j, 0 ≤ i → i < n → 0 ≤ j → j < n → τ' 3 (64 * s0 + (n * i + j)) = f i j) : TT σ' τ' := fun s s1 s2 => by
  by_cases q : s = s0
  · subst q
    have e1 : τ' 1 s = n := by rw [b1, if_pos rfl]
    have e2 : τ' 2 s = b' := by rw [b2, if_pos rfl]
    refine ⟨by rw [a1, e1], fun w => ?_, fun w => ?_, fun i j p q r w => ?_⟩
    · rw [a2, e2]; exact hb (by omega)
    · rw [e2]; exact hb0 (by omega)
    · rw [e1] at q w
      unfold cT cB
      rw [a3 i j p q r w, e1, Int.add_assoc, b4 i j p q r w]
  · obtain ⟨h1, h2, h3, h4⟩ := h s s1 s2
    obtain ⟨g1, g2, -⟩ := hI.1 s s1 s2
    have e1 : τ' 1 s = τ 1 s := by rw [b1, if_neg q]
    have e2 : τ' 2 s = τ 2 s := by rw [b2, if_neg q]
    have c1 : σ' (s.toNat + 2) 1 = σ (s.toNat + 2) 1 := a4 _ _ (by omega) (by omega) (by omega) (by omega)
    have c2 : σ' (s.toNat + 2) 2 = σ (s.toNat + 2) 2 := a4 _ _ (by omega) (by omega) (by omega) (by omega)
    have sq := sq8 hn
    refine ⟨by rw [c1, e1, h1], fun w => ?_, fun w => ?_, fun i j p q' r w => ?_⟩
    · rw [e1] at w; rw [c2, e2]; exact h2 w
    · rw [e1] at w; rw [e2]; exact h3 w
    · rw [e1] at q' w
      obtain ⟨y1, y2, y3, y4⟩ := ix8 (n := τ 1 s) (i := i) (j := j) ⟨g1, g2⟩ ⟨p, q'⟩ ⟨r, w⟩
      have := h4 i j p q' r w
      unfold cT cB at this ⊢
      rw [a4 _ _ (by omega) (by omega) (by omega) (by omega), e1, b3 _ (by omega)]
      exact this
theorem MAB {σ τ σ' τ' : eS} {s n b zA zB : Int} {f f' : Int → Int → Int} (hI : iB1 τ) (hs : 0 ≤ s ∧ s < 4) (hn : 1 ≤ n ∧ n ≤ 8) (h : TT σ τ) (hA : MA σ (s.toNat + 2) n b f σ' zA) (hB : MB τ s n b f' τ' zB) (e : ∀ i j, 0 ≤ i → i < n → 0 ≤ j → j < n → f i j = f' i j) : TT σ' τ' ∧ zA = zB := by
  obtain ⟨g, g1, g2⟩ := hA
  obtain ⟨g', g3, g4⟩ := hB
  have eg := isG_un g1 g3 e
  subst eg
  have ef := fitM_cg (g := g) (b := b) e
  rcases g2 with ⟨a1, a2, a3⟩ | ⟨a1, a2, a3, a4, a5, a6⟩ <;> rcases g4 with ⟨b1, b2, b3⟩ | ⟨b1, b2, b3, b4, b5, b6⟩
  · exact ⟨TT_keep h a3 b3, by omega⟩
  · exact absurd (ef.mpr b2) a2
  · exact absurd (ef.mp a2) b2
  · exact ⟨TT_set (f := fun i j => f i j / g) hI hs ⟨by omega, by omega⟩ h a3 a4 a5 a6 b3 b4 (fun _ => rfl) (fun q => by omega) b5 (fun i j p q r w => by rw [b6 i j p q r w, e i j p q r w]), by omega⟩
theorem tab_al {σ τ : eS} (hI : iB1 τ) (h : TT σ τ) (s : Int) : tabA σ s ↔ tabB τ s := by
  unfold tabA tabB
  constructor
  · rintro ⟨a, b, c⟩
    have := (h s a b).1
    have := (hI.1 s a b).1
    exact ⟨a, b, by omega⟩
  · rintro ⟨a, b, c⟩
    have := (h s a b).1
    exact ⟨a, b, by omega⟩
theorem like_al {σ τ : eS} (hI : iB1 τ) (h : TT σ τ) (s o w : Int) : likeA σ s o w ↔ likeB τ s o w := by
  unfold likeA likeB tabB
  constructor
  · rintro ⟨a1, a2, a3, a4, a5, a6, a7, a8⟩
    have := (h s a1 a2).1
    have := (h o a3 a4).1
    have := (hI.1 s a1 a2).1
    exact ⟨⟨a1, a2, by omega⟩, ⟨a3, a4, by omega⟩, ⟨a5, a6⟩, by omega⟩
  · rintro ⟨⟨a1, a2, a3⟩, ⟨b1, b2, b3⟩, ⟨c1, c2⟩, d⟩
    have := (h s a1 a2).1
    have := (h o b1 b2).1
    exact ⟨a1, a2, b1, b2, c1, c2, by omega, by omega⟩
theorem TT_times {σ τ σ' τ' : eS} {s o w zA zB : Int} (hI : iB1 τ) (h : TT σ τ) (qA : XtA σ s o w σ' zA) (qB : XtB τ s o w τ' zB) : TT σ' τ' ∧ zA = zB := by
  have hl := like_al hI h s o w
  rcases qA with ⟨a1, a2, a3⟩ | ⟨a1, a2⟩ <;> rcases qB with ⟨b1, b2, b3⟩ | ⟨b1, b2⟩
  · exact ⟨TT_keep h a2 b2, by omega⟩
  · exact absurd (hl.mpr b1) a3
  · exact absurd (hl.mp a1) b3
  · obtain ⟨⟨s1, s2, s3⟩, ⟨o1, o2, o3⟩, w1, e⟩ := b1
    obtain ⟨h1, h2, -, h4⟩ := h s s1 s2
    obtain ⟨k1, k2, -, k4⟩ := h o o1 o2
    have g := hI.1 s s1 s2
    rw [h1, h2 (by omega), k2 (by omega)] at a2
    refine MAB hI w1 ⟨by omega, by omega⟩ h a2 b2 (fun i j p q r x => ?_)
    unfold pdF pdB
    rw [h1]
    refine sm_cg (fun k k0 kn => ?_)
    rw [h4 i k p q k0 (by omega), k4 k j k0 (by omega) r (by omega)]
theorem TT_turn {σ τ σ' τ' : eS} {s w r o zA zB : Int} (hI : iB1 τ) (h : TT σ τ) (qA : XuA σ s w r o σ' zA) (qB : XuB τ s w r o τ' zB) : TT σ' τ' ∧ zA = zB := by
  by_cases hs : 0 ≤ s ∧ s < 4
  · obtain ⟨h1, h2, -, h4⟩ := h s hs.1 hs.2
    have g := hI.1 s hs.1 hs.2
    unfold XuA at qA
    rw [h1] at qA
    rcases qA with ⟨a1, a2, a3⟩ | ⟨a1, a2⟩ <;> rcases qB with ⟨b1, b2, b3⟩ | ⟨b1, b2⟩
    · exact ⟨TT_keep h a2 b2, by omega⟩
    · exact absurd b1 a3
    · exact absurd a1 b3
    · obtain ⟨⟨-, -, c1⟩, c2, c3, c4⟩ := b1
      rw [h2 c1] at a2
      refine MAB hI c2 ⟨by omega, by omega⟩ h a2 b2 (fun i j p q r' x => ?_)
      obtain ⟨t1, t2, -, -⟩ := tn_tg (n := τ 1 s) c3 c4 ⟨p, q⟩ ⟨r', x⟩
      unfold tuF tuB
      exact h4 _ _ t1.1 t1.2 t2.1 t2.2
  · rcases qA with ⟨a1, a2, a3⟩ | ⟨a1, a2⟩
    · rcases qB with ⟨b1, b2, b3⟩ | ⟨b1, b2⟩
      · exact ⟨TT_keep h a2 b2, by omega⟩
      · exact absurd ⟨b1.1.1, b1.1.2.1⟩ hs
    · exact absurd ⟨a1.1.1, a1.1.2.1⟩ hs
theorem TT_mix {σ τ σ' τ' : eS} {s x y o u v w zA zB : Int} (hI : iB1 τ) (h : TT σ τ) (qA : XmA σ s x y o u v w σ' zA) (qB : XmB τ s x y o u v w τ' zB) : TT σ' τ' ∧ zA = zB := by
  have hl := like_al hI h s o w
  rcases qA with ⟨a1, a2, a3⟩ | ⟨a1, a2⟩ <;> rcases qB with ⟨b1, b2, b3⟩ | ⟨b1, b2⟩
  · exact ⟨TT_keep h a2 b2, by omega⟩
  · exact absurd ⟨b1.1, b1.2.1, hl.mpr b1.2.2⟩ a3
  · exact absurd ⟨a1.1, a1.2.1, hl.mp a1.2.2⟩ b3
  · obtain ⟨-, -, ⟨s1, s2, s3⟩, ⟨o1, o2, o3⟩, w1, e⟩ := b1
    obtain ⟨h1, h2, -, h4⟩ := h s s1 s2
    obtain ⟨k1, k2, -, k4⟩ := h o o1 o2
    have g := hI.1 s s1 s2
    unfold MXA at a2
    unfold MXB at b2
    rw [h1, h2 (by omega), k2 (by omega)] at a2
    obtain ⟨L, eL⟩ : ∃ L, L = lcS (y * τ 2 s) (v * τ 2 o) 1000000000 := ⟨_, rfl⟩
    rw [← eL] at a2 b2
    have ef : ∀ i j, 0 ≤ i → i < τ 1 s → 0 ≤ j → j < τ 1 s → mxF σ (s.toNat + 2) (o.toNat + 2) x (L / (y * τ 2 s)) u (L / (v * τ 2 o)) i j = mxB τ s o x (L / (y * τ 2 s)) u (L / (v * τ 2 o)) i j := fun i j p q r c => by
      unfold mxF mxB
      rw [h4 i j p q r c, k4 i j p (by omega) r (by omega)]
    rcases a2 with ⟨c1, c2, c3⟩ | ⟨c1, ⟨c2, c3, i, j, c4, c5, c6, c7, c8⟩ | ⟨c2, c3⟩⟩ <;> rcases b2 with ⟨d1, d2, d3⟩ | ⟨d1, ⟨d2, d3, i', j', d4, d5, d6, d7, d8⟩ | ⟨d2, d3⟩⟩
    · exact ⟨TT_keep h c2 d2, by omega⟩
    · omega
    · omega
    · omega
    · exact ⟨TT_keep h c3 d3, by omega⟩
    · have := d2 i j c4 c5 c6 c7
      rw [ef i j c4 c5 c6 c7] at c8
      omega
    · omega
    · have := c2 i' j' d4 d5 d6 d7
      rw [ef i' j' d4 d5 d6 d7] at this
      omega
    · exact MAB hI w1 ⟨by omega, by omega⟩ h c3 d3 ef
theorem TT_table {σ τ σ' τ' : eS} {zA zB s : Int} (hI : iB1 τ) (hA : IA σ') (h : TP σ τ) (ht : TT σ τ) (qA : σ' 10 3 = 0 ∧ TA σ s σ' zA) (qB : τ' 0 6 = 0 ∧ TB τ s τ' zB) : TT σ' τ' := by
  have al := aO_of h
  have key := (TP_table h qA qB).1
  have e4 := key.2.2.2.1
  obtain ⟨-, qA⟩ := qA
  obtain ⟨-, qB⟩ := qB
  rcases qA with ⟨a0, a1, a2, a3, a4⟩ | ⟨a0, aS, a1, a2⟩ <;> rcases qB with ⟨b0, b1, b2, b3, b4⟩ | ⟨b0, b1, b2⟩
  · exact TT_keep ht a4 b4
  · exact absurd b0 a0
  · exact absurd a0 b0
  · rcases a2 with ⟨a2, a3⟩ | ⟨a2, ⟨c1, c2, c3⟩, a4⟩ <;> rcases b2 with ⟨b2, b3⟩ | ⟨b2, d1, d2, d3, d4⟩
    · exact TT_keep ht a3 b3
    · omega
    · omega
    · have r0 : (RAr σ).1 = 0 := by
        rcases a1 with ⟨w, -, w2, -⟩ | ⟨w, -⟩ | ⟨w, -⟩
        · omega
        · exact w
        · exact w
      obtain ⟨e1, e2, e3, e5⟩ := oG_cg al aS r0
      have hT := (hA.2.1 _ (sl_tA a0)).1
      have n1 := hT.1
      have n2 := hT.2.1
      rw [c1] at n1 n2
      rw [← e1] at d1 d2 d3 d4
      rw [← e2] at d2 d4
      refine TT_set (n := oN (RAr σ)) (f := fun i j => oAb (RAr σ) (i * 8 + j) * (oB (RAr σ) / oUn (RAr σ) (i * 8 + j))) hI a0 ⟨n1, n2⟩ ht c1 c2 c3 a4 d1 d2 (fun q => by rw [if_neg q]) (fun q => by rw [if_pos q]) d3 (fun i j p q r w => ?_)
      rw [d4 i j p q r w, (e5 i j p q r w).1, (e5 i j p q r w).2]
/-! what is read off the tables -/
theorem row_al {σ τ : eS} {s i : Int} (h : tbE σ τ s) (hi : 0 ≤ i ∧ i < τ 1 s) : rowT σ (s.toNat + 2) i = rowB τ s i := by
  unfold rowT rowB
  rw [h.1]
  exact sm_cg (fun k a b => h.2.2.2 i k hi.1 hi.2 a (by omega))
theorem col_al {σ τ : eS} {s j : Int} (h : tbE σ τ s) (hj : 0 ≤ j ∧ j < τ 1 s) : colT σ (s.toNat + 2) j = colB τ s j := by
  unfold colT colB
  rw [h.1]
  exact sm_cg (fun k a b => h.2.2.2 k j a (by omega) hj.1 hj.2)
theorem unev_un {row col row' col' : Int → Int} {n z z' : Int} (hn : 0 < n) (h : unev row col n z) (h' : unev row' col' n z') (er : ∀ i, 0 ≤ i → i < n → row i = row' i) (ec : ∀ i, 0 ≤ i → i < n → col i = col' i) : z = z' := by
  have e0 := er 0 (by omega) hn
  rcases h with ⟨i, a1, a2, a3, a4, a5⟩ | ⟨a0, ⟨j, a1, a2, a3, a4, a5⟩ | ⟨a1, a2⟩⟩ <;> rcases h' with ⟨i', b1, b2, b3, b4, b5⟩ | ⟨b0, ⟨j', b1, b2, b3, b4, b5⟩ | ⟨b1, b2⟩⟩
  · have x1 := er i (by omega) a2
    have x2 := er i' (by omega) b2
    rcases (by omega : i < i' ∨ i = i' ∨ i' < i) with q | q | q
    · have := b5 i a1 q; omega
    · omega
    · have := a5 i' b1 q; omega
  · have x1 := er i (by omega) a2
    have := b0 i a1 a2
    omega
  · have x1 := er i (by omega) a2
    have := b0 i a1 a2
    omega
  · have x1 := er i' (by omega) b2
    have := a0 i' b1 b2
    omega
  · have x1 := ec j a1 a2
    have x2 := ec j' b1 b2
    rcases (by omega : j < j' ∨ j = j' ∨ j' < j) with q | q | q
    · have := b5 j a1 q; omega
    · omega
    · have := a5 j' b1 q; omega
  · have x1 := ec j a1 a2
    have := b2 j a1 a2
    omega
  · have x1 := er i' (by omega) b2
    have := a0 i' b1 b2
    omega
  · have x1 := ec j' b1 b2
    have := a2 j' b1 b2
    omega
  · omega
theorem cell_al {σ τ : eS} {s i j zA zB : Int} (hI : iB1 τ) (h : TT σ τ) (qA : (celA σ s i j ∧ zA = cT σ (s.toNat + 2) i j) ∨ (¬ celA σ s i j ∧ zA = -1)) (qB : (celB τ s i j ∧ zB = cB τ s i j) ∨ (¬ celB τ s i j ∧ zB = -1)) : zA = zB := by
  have hl : celA σ s i j ↔ celB τ s i j := by
    unfold celA celB tabB
    constructor
    · rintro ⟨a1, a2, a3, a4, a5, a6⟩
      have := (h s a1 a2).1
      exact ⟨⟨a1, a2, by omega⟩, a3, by omega, a5, by omega⟩
    · rintro ⟨⟨a1, a2, a3⟩, a4, a5, a6, a7⟩
      have := (h s a1 a2).1
      exact ⟨a1, a2, a4, by omega, a6, by omega⟩
  rcases qA with ⟨a1, a2⟩ | ⟨a1, a2⟩ <;> rcases qB with ⟨b1, b2⟩ | ⟨b1, b2⟩
  · obtain ⟨⟨s1, s2, s3⟩, c1, c2, c3, c4⟩ := b1
    rw [a2, b2]
    exact (h s s1 s2).2.2.2 i j c1 c2 c3 c4
  · exact absurd (hl.mp a1) b1
  · exact absurd (hl.mpr b1) a1
  · omega
theorem uneven_al {σ τ : eS} {s zA zB : Int} (hI : iB1 τ) (h : TT σ τ) (qA : (¬ tabA σ s ∧ zA = -1) ∨ (tabA σ s ∧ unev (rowT σ (s.toNat + 2)) (colT σ (s.toNat + 2)) (σ (s.toNat + 2) 1) zA)) (qB : (¬ tabB τ s ∧ zB = -1) ∨ (tabB τ s ∧ unev (rowB τ s) (colB τ s) (τ 1 s) zB)) : zA = zB := by
  have hl := tab_al hI h s
  rcases qA with ⟨a1, a2⟩ | ⟨a1, a2⟩ <;> rcases qB with ⟨b1, b2⟩ | ⟨b1, b2⟩
  · omega
  · exact absurd (hl.mpr b1) a1
  · exact absurd (hl.mp a1) b1
  · obtain ⟨s1, s2, s3⟩ := b1
    have e := h s s1 s2
    rw [e.1] at a2
    exact unev_un s3 a2 b2 (fun i a b => row_al e ⟨a, b⟩) (fun i a b => col_al e ⟨a, b⟩)
end
