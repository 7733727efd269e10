/-! SHOW: what is written, as one list -/
def bfl (f : Int → Int) (n : Int) (l : List Int) : Prop := n = (l.length : Int) ∧ ∀ k : Nat, k < l.length → l[k]? = some (f (k : Int))
theorem bfl_app {f g : Int → Int} {n c : Int} {l : List Int} (h : bfl f n l) (hg : ∀ k, g k = if k = n then c else f k) : bfl g (n + 1) (l ++ [c]) := by
  obtain ⟨h1, h2⟩ := h
  have e : (l ++ [c]).length = l.length + 1 := by simp
  refine ⟨by rw [e]; omega, fun k hk => ?_⟩
  rw [e] at hk
  rw [hg]
  by_cases q : k < l.length
  · rw [List.getElem?_append_left q, if_neg (by omega)]
    exact h2 k q
  · have e2 : k = l.length := by omega
    rw [List.getElem?_append_right (by omega), if_pos (by omega), e2]
    simp
/-- a number's digits, from the e-th on -/
def dgI (w : Int) : Nat → List Int
  | 0 => []
  | e + 1 => (48 + w / tn (e : Int) % 10) :: dgI w e
theorem dgI_s {w e : Int} (h : 0 ≤ e) : dgI w (e + 1).toNat = (48 + w / tn e % 10) :: dgI w e.toNat := by
  rw [show (e + 1).toNat = e.toNat + 1 by omega, dgI, Int.toNat_of_nonneg h]
def eN (w : Int) : Int := if w ≤ 9 then 0 else if w ≤ 99 then 1 else if w ≤ 999 then 2 else if w ≤ 9999 then 3 else if w ≤ 99999 then 4 else if w ≤ 999999 then 5 else if w ≤ 9999999 then 6 else if w ≤ 99999999 then 7 else 8
theorem eN_bd (w : Int) : 0 ≤ eN w ∧ eN w ≤ 8 := by unfold eN; omega
theorem eN_of {w e : Int} (hw : 0 ≤ w ∧ w ≤ 799999992) (he : 0 ≤ e ∧ e ≤ 8) (h1 : w / tn e ≤ 9) (h2 : e = 0 ∨ 9 < w / tn (e - 1)) : e = eN w := by
  have t : tn 0 = 1 ∧ tn 1 = 10 ∧ tn 2 = 100 ∧ tn 3 = 1000 ∧ tn 4 = 10000 ∧ tn 5 = 100000 ∧ tn 6 = 1000000 ∧ tn 7 = 10000000 ∧ tn 8 = 100000000 := ⟨rfl, rfl, rfl, rfl, rfl, rfl, rfl, rfl, rfl⟩
  obtain ⟨t0, t1, t2, t3, t4, t5, t6, t7, t8⟩ := t
  rcases (show e = 0 ∨ e = 1 ∨ e = 2 ∨ e = 3 ∨ e = 4 ∨ e = 5 ∨ e = 6 ∨ e = 7 ∨ e = 8 by omega) with q | q | q | q | q | q | q | q | q <;> subst q
  · rw [t0] at h1; unfold eN; omega
  · rw [t1] at h1; rw [show (1 : Int) - 1 = 0 by decide, t0] at h2; unfold eN; omega
  · rw [t2] at h1; rw [show (2 : Int) - 1 = 1 by decide, t1] at h2; unfold eN; omega
  · rw [t3] at h1; rw [show (3 : Int) - 1 = 2 by decide, t2] at h2; unfold eN; omega
  · rw [t4] at h1; rw [show (4 : Int) - 1 = 3 by decide, t3] at h2; unfold eN; omega
  · rw [t5] at h1; rw [show (5 : Int) - 1 = 4 by decide, t4] at h2; unfold eN; omega
  · rw [t6] at h1; rw [show (6 : Int) - 1 = 5 by decide, t5] at h2; unfold eN; omega
  · rw [t7] at h1; rw [show (7 : Int) - 1 = 6 by decide, t6] at h2; unfold eN; omega
  · rw [t8] at h1; rw [show (8 : Int) - 1 = 7 by decide, t7] at h2; unfold eN; omega
def coL (col : Int → Int) : Nat → List Int
  | 0 => []
  | k + 1 => coL col k ++ [48 + col (k : Int)]
theorem coL_s {col : Int → Int} {k : Int} (h : 0 ≤ k) : coL col (k + 1).toNat = coL col k.toNat ++ [48 + col k] := by
  rw [show (k + 1).toNat = k.toNat + 1 by omega, coL, Int.toNat_of_nonneg h]
theorem coL_cg {f g : Int → Int} : ∀ {k : Nat}, (∀ i : Int, 0 ≤ i → i < k → f i = g i) → coL f k = coL g k
  | 0, _ => rfl
  | k + 1, h => by rw [coL, coL, coL_cg (fun i a b => h i a (by omega)), h k (by omega) (by omega)]
def shL (wt : Int → Int) (col : Int → Int → Int) (n : Int) : Nat → List Int
  | 0 => []
  | p + 1 => shL wt col n p ++ dgI (wt (p : Int)) (eN (wt (p : Int)) + 1).toNat ++ [58] ++ coL (col (p : Int)) n.toNat ++ [59]
theorem shL_s {wt : Int → Int} {col : Int → Int → Int} {n p : Int} (h : 0 ≤ p) : shL wt col n (p + 1).toNat = shL wt col n p.toNat ++ dgI (wt p) (eN (wt p) + 1).toNat ++ [58] ++ coL (col p) n.toNat ++ [59] := by
  rw [show (p + 1).toNat = p.toNat + 1 by omega, shL, Int.toNat_of_nonneg h]
theorem shL_cg {wt wt' : Int → Int} {col col' : Int → Int → Int} {n : Int} : ∀ {p : Nat}, (∀ q : Int, 0 ≤ q → q < p → wt q = wt' q ∧ ∀ i, 0 ≤ i → i < n → col q i = col' q i) → shL wt col n p = shL wt' col' n p
  | 0, _ => rfl
  | p + 1, h => by
    obtain ⟨a, b⟩ := h p (by omega) (by omega)
    rw [shL, shL, shL_cg (fun q x y => h q x (by omega)), a, coL_cg (fun i x y => b i x (by omega))]
/-! the class -/
theorem t_Sh_put {σ : eS} {z : Int} (h : 0 ≤ σ 46 1 ∧ σ 46 1 < 1216) : MtV shA M_Sh_put [vr 46, vi z] σ (fun σ' => fr rgS1 σ σ' ∧ σ' 46 1 = σ 46 1 + 1 ∧ ∀ k, σ' 47 k = if k = σ 46 1 then z else σ 47 k) := by
  refine Mt.of okM_Sh_put (Nat.le_of_ble_eq_true rfl) (fun hk hg => ?_)
  refine ok_aload_n 0 rfl rfl rfl (ok_getI 1 rfl rfl fl_X8_15 rfl rfl (Or.inl rfl) (ok_sipush 2 rfl rfl (by decide) (by decide) (ok_icmp_ge 3 30 rfl rfl rfl (fun h7 => ?_) (fun h7 => ?_))))
  · exfalso; omega
  · refine ok_aload_n 4 rfl rfl rfl (ok_getR 5 rfl rfl fl_X8_11 rfl rfl (ok_aload_n 6 rfl rfl rfl (ok_getI 7 rfl rfl fl_X8_15 rfl rfl (Or.inl rfl) (ok_iload_n 8 rfl rfl rfl (ok_iast 9 rfl rfl rfl (by first | omega | (simp [up_if]; omega) | (simp [up_if] at *; omega)) (ok_aload_n 10 rfl rfl rfl (ok_dup 11 rfl rfl rfl (ok_getI 12 rfl rfl fl_X8_15 rfl rfl (Or.inl rfl) (ok_iconst 13 rfl rfl (by decide) (ok_iadd 14 rfl rfl (by first | omega | (simp [up_if]; omega) | (simp [up_if] at *; omega)) (ok_putI 15 rfl rfl fl_X8_15 rfl rfl rfl rfl (ok_vret 16 rfl rfl rfl ?_))))))))))))
    refine ⟨rfl, fr_up (fr_up fr.rf (by simp [rgS1])) (by simp [rgS1]), by simp [up_if], fun k => ?_⟩
    rw [up_ne _ _ _ _ (by decide), up_if]
    by_cases q : k = σ 46 1
    · rw [if_pos ⟨rfl, q⟩, if_pos q]
    · rw [if_neg (fun y => q y.2), if_neg q]
theorem t_Sh_putNumber {σ : eS} {z : Int} {l : List Int} (hz : 0 ≤ z ∧ z ≤ 799999992) (hl : 0 ≤ σ 46 1 ∧ σ 46 1 + 9 ≤ 1216) (hb : bfl (fun k => σ 47 k) (σ 46 1) l) : MtV shA M_Sh_putNumber [vr 46, vi z] σ (fun σ' => fr rgS1 σ σ' ∧ (0 ≤ σ' 46 1 ∧ σ' 46 1 ≤ σ 46 1 + 9) ∧ bfl (fun k => σ' 47 k) (σ' 46 1) (l ++ dgI z (eN z + 1).toNat)) := by
  refine Mt.of okM_Sh_putNumber (Nat.le_of_ble_eq_true rfl) (fun hk hg => ?_)
  have eb := eN_bd z
  refine ok_iconst 0 rfl rfl (by decide) (ok_ist2 1 rfl rfl rfl (ok_iconst 2 rfl rfl (by decide) (ok_ist3 3 rfl rfl rfl ?_)))
  refine lpO (fun (j : Int) => [some (vr 46), some (vi z), some (vi (tn j)), some (vi j)]) (fun _ => σ) (fun j => 0 ≤ j ∧ j ≤ 8 ∧ (j = 0 ∨ 9 < z / tn (j - 1))) (fun j => (9 - j).toNat) ?_ 0 ⟨by omega, by omega, Or.inl rfl⟩
  rintro j ⟨j1, j2, j3⟩ ih
  obtain ⟨t1, t2, t3⟩ := tn_s (e := j) ⟨j1, j2⟩
  have dv := div_bd (u := z) (g := tn j) (B := 799999992) hz t2
  refine ok_iload_n 4 rfl rfl rfl (ok_bipush 5 rfl rfl (by decide) (by decide) (ok_icmp_ge 6 29 rfl rfl rfl (fun h7 => ?_) (fun h7 => ?_)))
  · exfalso; omega
  · refine ok_iload_n 7 rfl rfl rfl (ok_iload_n 8 rfl rfl rfl (ok_idiv 9 rfl rfl (by first | omega | (simp [up_if]; omega) | (simp [up_if] at *; omega)) (by first | omega | (simp [up_if]; omega) | (simp [up_if] at *; omega)) (ok_bipush 10 rfl rfl (by decide) (by decide) (ok_icmp_le 11 29 rfl rfl rfl (fun h15 => ?_) (fun h15 => ?_)))))
    · refine ok_iconst 18 rfl rfl (by decide) (ok_ist3 19 rfl rfl rfl ?_)
      have ej := eN_of hz ⟨j1, j2⟩ (by omega) j3
      clear ih j3 h15 dv t1 t2 t3
      refine lpO3 (fun (e c : Int) (_ : eS) => [some (vr 46), some (vi z), some (vi (tn e)), some (vi c)]) (fun _ _ ρ => ρ) (fun e c ρ => (-1 ≤ e ∧ e ≤ eN z ∧ c = eN z - e) ∧ fr rgS1 σ ρ ∧ ρ 46 1 = σ 46 1 + c ∧ ∃ l', bfl (fun k => ρ 47 k) (ρ 46 1) l' ∧ l' ++ dgI z (e + 1).toNat = l ++ dgI z (eN z + 1).toNat) (fun e _ _ => (e + 1).toNat) ?_ j 0 σ ⟨⟨by omega, by omega, by omega⟩, fr.rf, by omega, l, hb, by rw [ej]⟩
      clear ej h7 j1 j2 j
      rintro e c ρ ⟨⟨e1, e2, e3⟩, f, s1, l', hb', hl'⟩ ih
      refine ok_iload_n 20 rfl rfl rfl (ok_bipush 21 rfl rfl (by decide) (by decide) (ok_icmp_ge 22 65 rfl rfl rfl (fun h34 => ?_) (fun h34 => ?_)))
      · exfalso; omega
      · refine ok_iload_n 23 rfl rfl rfl (ok_if_le 24 65 rfl rfl rfl (fun h38 => ?_) (fun h38 => ?_))
        · refine ok_vret 40 rfl rfl rfl ?_
          have e0 : e = -1 := by
            by_cases q : 0 ≤ e
            · have := (tn_s (e := e) ⟨q, by omega⟩).2.1; omega
            · omega
          refine ⟨rfl, f, ⟨by omega, by omega⟩, ?_⟩
          rw [← hl', e0]
          show bfl _ _ (l' ++ [])
          rw [List.append_nil]
          exact hb'
        · have e0 : 0 ≤ e := tn_n (by omega)
          obtain ⟨t1, t2, t3⟩ := tn_s (e := e) ⟨e0, by omega⟩
          have dv := div_bd (u := z) (g := tn e) (B := 799999992) hz t2
          refine ok_aload_n 25 rfl rfl rfl (ok_bipush 26 rfl rfl (by decide) (by decide) (ok_iload_n 27 rfl rfl rfl (ok_iload_n 28 rfl rfl rfl (ok_idiv 29 rfl rfl (by first | omega | (simp [up_if]; omega) | (simp [up_if] at *; omega)) (by first | omega | (simp [up_if]; omega) | (simp [up_if] at *; omega)) (ok_bipush 30 rfl rfl (by decide) (by decide) (ok_irem 31 rfl rfl (by first | omega | (simp [up_if]; omega) | (simp [up_if] at *; omega)) (by first | omega | (simp [up_if]; omega) | (simp [up_if] at *; omega)) (ok_iadd 32 rfl rfl (by first | omega | (simp [up_if]; omega) | (simp [up_if] at *; omega)) (ok_callVV (M' := M_Sh_put) (as := [_]) 33 rfl rfl ml_X8_31 (t_Sh_put ⟨by omega, by omega⟩) rfl rfl (Nat.le_of_ble_eq_true rfl) ⟨Nat.le_of_ble_eq_true rfl, Nat.le_of_ble_eq_true rfl⟩ rfl (Nat.le_of_ble_eq_true rfl) (fun τ f1 => ?_)))))))))
          refine ok_iload_n 34 rfl rfl rfl (ok_bipush 35 rfl rfl (by decide) (by decide) (ok_idiv 36 rfl rfl (by first | omega | (simp [up_if]; omega) | (simp [up_if] at *; omega)) (by first | omega | (simp [up_if]; omega) | (simp [up_if] at *; omega)) (ok_ist2 37 rfl rfl rfl (ok_inc3 38 rfl rfl rfl (by first | omega | (simp [up_if]; omega) | (simp [up_if] at *; omega)) (ok_goto 39 31 rfl rfl rfl ?_)))))
          rw [tn_d ⟨e0, by omega⟩]
          refine ih (e - 1) (c + 1) τ ⟨⟨by omega, by omega, by omega⟩, f.tr f1.1, by rw [f1.2.1]; omega, l' ++ [48 + z / tn e % 10], by rw [f1.2.1]; exact bfl_app hb' f1.2.2, ?_⟩ (by omega)
          rw [← hl', dgI_s e0, show e - 1 + 1 = e by omega, List.append_assoc]
          rfl
    · have e8 : j ≠ 8 := by
        intro q
        rw [q, tn_8] at h15
        omega
      refine ok_iload_n 12 rfl rfl rfl (ok_bipush 13 rfl rfl (by decide) (by decide) (ok_imul 14 rfl rfl (by first | omega | (simp [up_if]; omega) | (simp [up_if] at *; omega)) (ok_ist2 15 rfl rfl rfl (ok_inc3 16 rfl rfl rfl (by first | omega | (simp [up_if]; omega) | (simp [up_if] at *; omega)) (ok_goto 17 4 rfl rfl rfl ?_)))))
      rw [t1]
      exact ih (j + 1) ⟨by omega, by omega, Or.inr (by rw [show j + 1 - 1 = j by omega]; omega)⟩ (by omega)
theorem t_Sh_write {σ : eS} (hm : iMi σ) : MtV shA M_Sh_write [vr 46, vr 22] σ (fun σ' => fr rgS1 σ σ' ∧ iSh σ' ∧ bfl (fun k => σ' 47 k) (σ' 46 1) (shL (wA σ) (kA σ) (σ 22 4) (σ 22 5).toNat)) := by
  refine Mt.of okM_Sh_write (Nat.le_of_ble_eq_true rfl) (fun hk hg => ?_)
  obtain ⟨⟨h1, h2, h3, h4, h5, h6, h7⟩, a, b, d⟩ := id hm
  refine ok_aload_n 0 rfl rfl rfl (ok_iconst 1 rfl rfl (by decide) (ok_putI 2 rfl rfl fl_X8_15 rfl rfl rfl rfl (ok_iconst 3 rfl rfl (by decide) (ok_ist2 4 rfl rfl rfl ?_))))
  refine lpO2 (fun (k : Int) (_ : eS) => [some (vr 46), some (vr 22), some (vi k), none]) (fun _ ρ => ρ) (fun k ρ => 0 ≤ k ∧ k ≤ σ 22 5 ∧ fr rgS1 σ ρ ∧ (0 ≤ ρ 46 1 ∧ ρ 46 1 ≤ 19 * k) ∧ bfl (fun k => ρ 47 k) (ρ 46 1) (shL (wA σ) (kA σ) (σ 22 4) k.toNat)) (fun k _ => (64 - k).toNat) ?_ 0 _ ⟨by omega, by omega, fr_up fr.rf (by simp [rgS1]), by simp [up_if], by simp [up_if, shL], fun k hk => by cases hk⟩
  rintro k ρ ⟨k1, k2, f, hS, hb⟩ ih
  have e5 : ρ 22 5 = σ 22 5 := f 22 5 (by simp [rgS1])
  refine ok_iload_n 5 rfl rfl rfl (ok_aload_n 6 rfl rfl rfl (ok_getI 7 rfl rfl fl_X8_19 rfl rfl (Or.inl rfl) (ok_icmp_ge 8 72 rfl rfl rfl (fun h12 => ?_) (fun h12 => ?_))))
  · refine ok_vret 39 rfl rfl rfl ?_
    exact ⟨rfl, f, ⟨hS.1, by omega⟩, by rw [show σ 22 5 = k by omega]; exact hb⟩
  · have w0 := mi_bd hm k1 (by omega)
    have ew : ρ 23 k = wA σ k := f 23 k (by simp [rgS1])
    have wk0 : wA σ k = σ 23 k := rfl
    refine ok_aload_n 9 rfl rfl rfl (ok_aload_n 10 rfl rfl rfl (ok_getR 11 rfl rfl fl_X8_24 rfl rfl (ok_iload_n 12 rfl rfl rfl (ok_iald 13 rfl rfl rfl (by first | omega | (simp [up_if]; omega) | (simp [up_if] at *; omega)) (ok_callVV (M' := M_Sh_putNumber) (as := [_]) 14 rfl rfl ml_X8_27 (t_Sh_putNumber ⟨by omega, by omega⟩ ⟨hS.1, by omega⟩ hb) rfl rfl (Nat.le_of_ble_eq_true rfl) ⟨Nat.le_of_ble_eq_true rfl, Nat.le_of_ble_eq_true rfl⟩ rfl (Nat.le_of_ble_eq_true rfl) (fun ρ1 f1 => ?_))))))
    obtain ⟨g1, g2, g3⟩ := f1
    rw [ew] at g3
    refine ok_aload_n 15 rfl rfl rfl (ok_bipush 16 rfl rfl (by decide) (by decide) (ok_callVV (M' := M_Sh_put) (as := [_]) 17 rfl rfl ml_X8_31 (t_Sh_put ⟨by omega, by omega⟩) rfl rfl (Nat.le_of_ble_eq_true rfl) ⟨Nat.le_of_ble_eq_true rfl, Nat.le_of_ble_eq_true rfl⟩ rfl (Nat.le_of_ble_eq_true rfl) (fun ρ2 f2 => ?_)))
    obtain ⟨u1, u2, u3⟩ := f2
    have b2 := bfl_app g3 u3
    rw [← u2] at b2
    refine ok_iconst 18 rfl rfl (by decide) (ok_ist3 19 rfl rfl rfl ?_)
    have f3 := (f.tr g1).tr u1
    obtain ⟨B, eB⟩ : ∃ B, B = shL (wA σ) (kA σ) (σ 22 4) k.toNat ++ dgI (wA σ k) (eN (wA σ k) + 1).toNat ++ [58] := ⟨_, rfl⟩
    rw [← eB] at b2
    refine lpO2 (fun (j : Int) (_ : eS) => [some (vr 46), some (vr 22), some (vi k), some (vi j)]) (fun _ ρ => ρ) (fun j ρ => 0 ≤ j ∧ j ≤ σ 22 4 ∧ fr rgS1 σ ρ ∧ (0 ≤ ρ 46 1 ∧ ρ 46 1 ≤ 19 * k + 10 + j) ∧ bfl (fun k => ρ 47 k) (ρ 46 1) (B ++ coL (kA σ k) j.toNat)) (fun j _ => (8 - j).toNat) ?_ 0 ρ2 ⟨by omega, by omega, f3, ⟨by omega, by omega⟩, by show bfl _ _ (B ++ []); rw [List.append_nil]; exact b2⟩
    have kl : k < σ 22 5 := by omega
    clear f3 b2 u1 u2 u3 ρ2 g1 g2 g3 ρ1 w0 e5 ew h12 f hS hb ρ
    rintro j ρ ⟨j1, j2, f, hS, hb⟩ ih2
    have e4 : ρ 22 4 = σ 22 4 := f 22 4 (by simp [rgS1])
    refine ok_iload_n 20 rfl rfl rfl (ok_aload_n 21 rfl rfl rfl (ok_getI 22 rfl rfl fl_X8_34 rfl rfl (Or.inl rfl) (ok_icmp_ge 23 60 rfl rfl rfl (fun h38 => ?_) (fun h38 => ?_))))
    · refine ok_aload_n 34 rfl rfl rfl (ok_bipush 35 rfl rfl (by decide) (by decide) (ok_callVV (M' := M_Sh_put) (as := [_]) 36 rfl rfl ml_X8_31 (t_Sh_put ⟨by omega, by omega⟩) rfl rfl (Nat.le_of_ble_eq_true rfl) ⟨Nat.le_of_ble_eq_true rfl, Nat.le_of_ble_eq_true rfl⟩ rfl (Nat.le_of_ble_eq_true rfl) (fun ρ1 f1 => ?_)))
      refine ok_inc2 37 rfl rfl rfl (by first | omega | (simp [up_if]; omega) | (simp [up_if] at *; omega)) (ok_goto 38 7 rfl rfl rfl ?_)
      obtain ⟨u1, u2, u3⟩ := f1
      have b2 := bfl_app hb u3
      rw [← u2, show j = σ 22 4 by omega, eB, ← shL_s k1] at b2
      exact ok_fg [some (vr 46), some (vr 22), some (vi (k + 1)), none] ⟨rfl, rfl, rfl, trivial⟩ (ih (k + 1) ρ1 ⟨by omega, by omega, f.tr u1, ⟨by omega, by omega⟩, b2⟩ (by omega))
    · refine ok_aload_n 24 rfl rfl rfl (ok_bipush 25 rfl rfl (by decide) (by decide) (ok_aload_n 26 rfl rfl rfl (ok_iload_n 27 rfl rfl rfl (ok_iload_n 28 rfl rfl rfl (ok_callVI (M' := M_Mi_columnOf) (as := [_, _]) 29 rfl rfl ml_X8_37 (s_Mi_columnOf (iMi_cg hm (fun c k a b => f c k (by simp only [rgS1]; omega))) ⟨k1, by omega⟩ ⟨j1, by omega⟩) rfl rfl (Nat.le_of_ble_eq_true rfl) ⟨Nat.le_of_ble_eq_true rfl, Nat.le_of_ble_eq_true rfl⟩ rfl (Nat.le_of_ble_eq_true rfl) (fun σ' z hz => ?_))))))
      obtain ⟨hs_, hz⟩ := hz
      rw [hs_]; clear hs_ σ'
      have ez : z = kA σ k j := by rw [hz.1, f 24 _ (by simp [rgS1])]; unfold kA; congr 1; omega
      refine ok_iadd 30 rfl rfl (by first | omega | (simp [up_if]; omega) | (simp [up_if] at *; omega)) (ok_callVV (M' := M_Sh_put) (as := [_]) 31 rfl rfl ml_X8_31 (t_Sh_put ⟨by omega, by omega⟩) rfl rfl (Nat.le_of_ble_eq_true rfl) ⟨Nat.le_of_ble_eq_true rfl, Nat.le_of_ble_eq_true rfl⟩ rfl (Nat.le_of_ble_eq_true rfl) (fun ρ1 f1 => ?_))
      refine ok_inc3 32 rfl rfl rfl (by first | omega | (simp [up_if]; omega) | (simp [up_if] at *; omega)) (ok_goto 33 33 rfl rfl rfl ?_)
      obtain ⟨u1, u2, u3⟩ := f1
      have b2 := bfl_app hb u3
      rw [← u2, ez, List.append_assoc, ← coL_s j1] at b2
      exact ih2 (j + 1) ρ1 ⟨by omega, by omega, f.tr u1, ⟨by omega, by omega⟩, b2⟩ (by omega)
theorem t_Ev_show {σ : eS} (h : IA σ) : MtI shA M_Ev_show [vr 0] σ (fun σ' z => QAw σ σ' ∧ z = σ' 46 1 ∧ bfl (fun k => σ' 47 k) (σ' 46 1) (shL (wA σ) (kA σ) (σ 22 4) (σ 22 5).toNat)) := by
  refine Mt.of okM_Ev_show (Nat.le_of_ble_eq_true rfl) (fun hk hg => ?_)
  refine ok_aload_n 0 rfl rfl rfl (ok_getR 1 rfl rfl fl_X11_69 rfl rfl (ok_aload_n 2 rfl rfl rfl (ok_getR 3 rfl rfl fl_X11_48 rfl rfl (ok_callVV (M' := M_Sh_write) (as := [_]) 4 rfl rfl ml_X11_286 (t_Sh_write h.2.2.2.1) rfl rfl (Nat.le_of_ble_eq_true rfl) ⟨Nat.le_of_ble_eq_true rfl, Nat.le_of_ble_eq_true rfl⟩ rfl (Nat.le_of_ble_eq_true rfl) (fun τ f => ?_)))))
  refine ok_aload_n 5 rfl rfl rfl (ok_getR 6 rfl rfl fl_X11_69 rfl rfl (ok_getI 7 rfl rfl fl_X11_290 rfl rfl (Or.inl rfl) (ok_iret 8 rfl rfl rfl ?_)))
  refine ⟨_, rfl, ⟨⟨?_, iTs_cg h.2.1 (fun c k a b d => f.1 c k (by simp only [rgS1]; omega)), iCh_cg h.2.2.1 (fun k => f.1 _ k (by simp [rgS1])), iMi_cg h.2.2.2.1 (fun c k a b => f.1 c k (by simp only [rgS1]; omega)), f.2.1, iSu_cg h.2.2.2.2.2 (fun k => f.1 _ k (by simp [rgS1]))⟩, ⟨fun k => f.1 _ k (by simp [rgS1]), fun k => f.1 _ k (by simp [rgS1])⟩, fun c k a b d => f.1 c k (by simp only [rgS1]; omega), fun c k a b => f.1 c k (by simp only [rgS1]; omega), mkS_fr (by decide) f.1 (by simp [rgS1]) (fun k => by simp [rgS1])⟩, rfl, f.2.2⟩
  unfold tL
  rw [f.1 10 3 (by simp [rgS1])]
  exact h.1
def ouS (n : Int) (f : Int → Int) (i z : Int) : Prop := (z = -1 ∧ ¬ (0 ≤ i ∧ i < n)) ∨ ((0 ≤ i ∧ i < n) ∧ z = f i)
theorem t_Ev_out {σ : eS} {i : Int} (h : IA σ) : MtI shA M_Ev_out [vr 0, vi i] σ (fun σ' z => σ' = σ ∧ ouS (σ 46 1) (fun k => σ 47 k) i z) := by
  refine Mt.of okM_Ev_out (Nat.le_of_ble_eq_true rfl) (fun hk hg => ?_)
  have h1 := h.2.2.2.2.1.1
  have h2 := h.2.2.2.2.1.2
  refine ok_iload_n 0 rfl rfl rfl (ok_if_lt 1 15 rfl rfl rfl (fun h1 => ?_) (fun h1 => ?_))
  · refine ok_iconst 7 rfl rfl (by decide) (ok_goto 8 28 rfl rfl rfl (ok_iret 14 rfl rfl rfl ?_))
    refine ⟨_, rfl, rfl, ?_⟩
    first | exact Or.inl ⟨rfl, by omega⟩ | exact Or.inr ⟨by omega, rfl⟩
  · refine ok_iload_n 2 rfl rfl rfl (ok_aload_n 3 rfl rfl rfl (ok_getR 4 rfl rfl fl_X11_69 rfl rfl (ok_getI 5 rfl rfl fl_X11_290 rfl rfl (Or.inl rfl) (ok_icmp_lt 6 19 rfl rfl rfl (fun h12 => ?_) (fun h12 => ?_)))))
    · refine ok_aload_n 9 rfl rfl rfl (ok_getR 10 rfl rfl fl_X11_69 rfl rfl (ok_getR 11 rfl rfl fl_X11_291 rfl rfl (ok_iload_n 12 rfl rfl rfl (ok_iald 13 rfl rfl rfl (by first | omega | (simp [up_if]; omega) | (simp [up_if] at *; omega)) (ok_iret 14 rfl rfl rfl ?_)))))
      refine ⟨_, rfl, rfl, ?_⟩
      first | exact Or.inl ⟨rfl, by omega⟩ | exact Or.inr ⟨by omega, rfl⟩
    · refine ok_iconst 7 rfl rfl (by decide) (ok_goto 8 28 rfl rfl rfl (ok_iret 14 rfl rfl rfl ?_))
      refine ⟨_, rfl, rfl, ?_⟩
      first | exact Or.inl ⟨rfl, by omega⟩ | exact Or.inr ⟨by omega, rfl⟩
/-! the reference -/
theorem t_Mo_says {σ : eS} {b : Int} (h : 0 ≤ σ 0 42 ∧ σ 0 42 < 1400) : MtV shB M_Mo_says [vr 0, vi b] σ (fun σ' => fr rgW σ σ' ∧ σ' 0 42 = σ 0 42 + 1 ∧ ∀ k, σ' 23 k = if k = σ 0 42 then b else σ 23 k) := by
  refine Mt.of okM_Mo_says (Nat.le_of_ble_eq_true rfl) (fun hk hg => ?_)
  refine ok_aload_n 0 rfl rfl rfl (ok_getR 1 rfl rfl fl_X12_82 rfl rfl (ok_aload_n 2 rfl rfl rfl (ok_getI 3 rfl rfl fl_X12_357 rfl rfl (Or.inl rfl) (ok_iload_n 4 rfl rfl rfl (ok_iast 5 rfl rfl rfl (by first | omega | (simp [up_if]; omega) | (simp [up_if] at *; omega)) (ok_aload_n 6 rfl rfl rfl (ok_dup 7 rfl rfl rfl (ok_getI 8 rfl rfl fl_X12_357 rfl rfl (Or.inl rfl) (ok_iconst 9 rfl rfl (by decide) (ok_iadd 10 rfl rfl (by first | omega | (simp [up_if]; omega) | (simp [up_if] at *; omega)) (ok_putI 11 rfl rfl fl_X12_357 rfl rfl rfl rfl (ok_vret 12 rfl rfl rfl ?_))))))))))))
  refine ⟨rfl, fr_up (fr_up fr.rf (by simp [rgW])) (by simp [rgW]), by simp [up_if], fun k => ?_⟩
  rw [up_ne _ _ _ _ (by decide), up_if]
  by_cases q : k = σ 0 42
  · rw [if_pos ⟨rfl, q⟩, if_pos q]
  · rw [if_neg (fun y => q y.2), if_neg q]
theorem t_Mo_show {σ : eS} (h : iK σ) : MtI shB M_Mo_show [vr 0] σ (fun σ' z => fr rgW σ σ' ∧ (0 ≤ σ' 0 42 ∧ σ' 0 42 ≤ 1216) ∧ z = σ' 0 42 ∧ bfl (fun k => σ' 23 k) (σ' 0 42) (shL (wB σ) (kB σ) (σ 0 28) (σ 0 27).toNat)) := by
  refine Mt.of okM_Mo_show (Nat.le_of_ble_eq_true rfl) (fun hk hg => ?_)
  obtain ⟨k1, k2, k3, k4, k5, k6, -⟩ := id h
  refine ok_aload_n 0 rfl rfl rfl (ok_iconst 1 rfl rfl (by decide) (ok_putI 2 rfl rfl fl_X12_357 rfl rfl rfl rfl (ok_iconst 3 rfl rfl (by decide) (ok_ist1 4 rfl rfl rfl ?_))))
  refine lpO2 (fun (p : Int) (_ : eS) => [some (vr 0), some (vi p), none, none]) (fun _ ρ => ρ) (fun p ρ => 0 ≤ p ∧ p ≤ σ 0 27 ∧ fr rgW σ ρ ∧ (0 ≤ ρ 0 42 ∧ ρ 0 42 ≤ 19 * p) ∧ bfl (fun k => ρ 23 k) (ρ 0 42) (shL (wB σ) (kB σ) (σ 0 28) p.toNat)) (fun p _ => (64 - p).toNat) ?_ 0 _ ⟨by omega, by omega, fr_up fr.rf (by simp [rgW]), by simp [up_if], by simp [up_if, shL], fun k hk => by cases hk⟩
  rintro p ρ ⟨p1, p2, f, s1, hb⟩ ih
  have e27 : ρ 0 27 = σ 0 27 := f 0 27 (by simp only [rgW]; omega)
  refine ok_iload_n 5 rfl rfl rfl (ok_aload_n 6 rfl rfl rfl (ok_getI 7 rfl rfl fl_X12_273 rfl rfl (Or.inl rfl) (ok_icmp_ge 8 120 rfl rfl rfl (fun h12 => ?_) (fun h12 => ?_))))
  · refine ok_aload_n 71 rfl rfl rfl (ok_getI 72 rfl rfl fl_X12_357 rfl rfl (Or.inl rfl) (ok_iret 73 rfl rfl rfl ?_))
    exact ⟨_, rfl, f, ⟨s1.1, by omega⟩, rfl, by rw [show σ 0 27 = p by omega]; exact hb⟩
  · have plt : p < σ 0 27 := by omega
    obtain ⟨w1, w2⟩ := wt_le h p1 plt
    refine ok_iconst 9 rfl rfl (by decide) (ok_ist2 10 rfl rfl rfl ?_)
    have e12 : ρ 12 p = σ 12 p := f 12 p (by simp only [rgW]; omega)
    have wp : wB σ p = σ 12 p := rfl
    have eb := eN_bd (σ 12 p)
    refine lpO (fun e : Int => [some (vr 0), some (vi p), some (vi (tn e)), none]) (fun _ => ρ) (fun e => 0 ≤ e ∧ e ≤ 8 ∧ (e = 0 ∨ 9 < σ 12 p / tn (e - 1))) (fun e => (8 - e).toNat) ?_ 0 ⟨by omega, by omega, Or.inl rfl⟩
    rintro e ⟨e1, e2, e3⟩ ih2
    obtain ⟨t1, t2, t3⟩ := tn_s ⟨e1, e2⟩
    have dv := div_bd (u := ρ 12 p) (g := tn e) (B := 799999992) ⟨by omega, by omega⟩ t2
    refine ok_aload_n 11 rfl rfl rfl (ok_getR 12 rfl rfl fl_X12_48 rfl rfl (ok_iload_n 13 rfl rfl rfl (ok_iald 14 rfl rfl rfl (by first | omega | (simp [up_if]; omega) | (simp [up_if] at *; omega)) (ok_iload_n 15 rfl rfl rfl (ok_idiv 16 rfl rfl (by first | omega | (simp [up_if]; omega) | (simp [up_if] at *; omega)) (by first | omega | (simp [up_if]; omega) | (simp [up_if] at *; omega)) (ok_bipush 17 rfl rfl (by decide) (by decide) (ok_icmp_le 18 38 rfl rfl rfl (fun h27 => ?_) (fun h27 => ?_))))))))
    · clear ih2
      rw [e12] at h27
      have ee := eN_of (w := σ 12 p) ⟨by omega, by omega⟩ ⟨e1, e2⟩ (by omega) e3
      obtain ⟨L, eL⟩ : ∃ L, L = shL (wB σ) (kB σ) (σ 0 28) p.toNat ++ dgI (wB σ p) (eN (wB σ p) + 1).toNat := ⟨_, rfl⟩
      refine lpO2 (fun (e : Int) (_ : eS) => [some (vr 0), some (vi p), some (vi (tn e)), none]) (fun _ υ => υ) (fun e υ => -1 ≤ e ∧ e ≤ 8 ∧ fr rgW σ υ ∧ 0 ≤ υ 0 42 ∧ υ 0 42 + e ≤ 19 * p + 8 ∧ ∃ l', bfl (fun k => υ 23 k) (υ 0 42) l' ∧ l' ++ dgI (σ 12 p) (e + 1).toNat = L) (fun e _ => (e + 1).toNat) ?_ e ρ ⟨by omega, by omega, f, s1.1, by omega, _, hb, by rw [eL, wp, ee]⟩
      clear t1 t2 t3 dv h12 h27 e1 e2 e3 ee e e27 s1 f hb e12 ρ
      rintro e υ ⟨e1, e2, f, s1, s2, l', hb', hl'⟩ ih2
      have e12 : υ 12 p = σ 12 p := f 12 p (by simp only [rgW]; omega)
      refine ok_iload_n 24 rfl rfl rfl (ok_if_le 25 68 rfl rfl rfl (fun h39 => ?_) (fun h39 => ?_))
      · have e0 : e = -1 := by
          by_cases q : 0 ≤ e
          · have := (tn_s ⟨q, e2⟩).2.1; omega
          · omega
        have hbL : bfl (fun k => υ 23 k) (υ 0 42) L := by
          rw [← hl', e0]
          show bfl _ _ (l' ++ [])
          rw [List.append_nil]
          exact hb'
        refine ok_aload_n 43 rfl rfl rfl (ok_bipush 44 rfl rfl (by decide) (by decide) (ok_callVV (M' := M_Mo_says) (as := [_]) 45 rfl rfl ml_X12_360 (t_Mo_says ⟨s1, by omega⟩) rfl rfl (Nat.le_of_ble_eq_true rfl) ⟨Nat.le_of_ble_eq_true rfl, Nat.le_of_ble_eq_true rfl⟩ rfl (Nat.le_of_ble_eq_true rfl) (fun υ' hz => ?_)))
        obtain ⟨u1, u2, u3⟩ := hz
        have f' := f.tr u1
        have b2 := bfl_app hbL u3
        rw [← u2] at b2
        refine ok_iconst 46 rfl rfl (by decide) (ok_ist3 47 rfl rfl rfl ?_)
        refine lpO2 (fun (i : Int) (_ : eS) => [some (vr 0), some (vi p), some (vi (tn e)), some (vi i)]) (fun _ υ => υ) (fun i υ => 0 ≤ i ∧ i ≤ σ 0 28 ∧ fr rgW σ υ ∧ (0 ≤ υ 0 42 ∧ υ 0 42 ≤ 19 * p + 10 + i) ∧ bfl (fun k => υ 23 k) (υ 0 42) (L ++ [58] ++ coL (kB σ p) i.toNat)) (fun i _ => (8 - i).toNat) ?_ 0 υ' ⟨by omega, by omega, f', ⟨by omega, by omega⟩, by show bfl _ _ (L ++ [58] ++ []); rw [List.append_nil]; exact b2⟩
        clear e12 s1 s2 f f' hb' hl' hbL b2 u1 u2 u3 ih2
        rintro i υ ⟨i1, i2, f, s1, hb⟩ ih2
        have e28 : υ 0 28 = σ 0 28 := f 0 28 (by simp only [rgW]; omega)
        have e13 : ∀ k, υ 13 k = σ 13 k := fun k => f 13 k (by simp only [rgW]; omega)
        have kp : kB σ p i = σ 13 (8 * p + i) := rfl
        refine ok_iload_n 48 rfl rfl rfl (ok_aload_n 49 rfl rfl rfl (ok_getI 50 rfl rfl fl_X12_276 rfl rfl (Or.inl rfl) (ok_icmp_ge 51 108 rfl rfl rfl (fun h81 => ?_) (fun h81 => ?_))))
        · refine ok_aload_n 66 rfl rfl rfl (ok_bipush 67 rfl rfl (by decide) (by decide) (ok_callVV (M' := M_Mo_says) (as := [_]) 68 rfl rfl ml_X12_360 (t_Mo_says ⟨s1.1, by omega⟩) rfl rfl (Nat.le_of_ble_eq_true rfl) ⟨Nat.le_of_ble_eq_true rfl, Nat.le_of_ble_eq_true rfl⟩ rfl (Nat.le_of_ble_eq_true rfl) (fun υ'' hz => ?_)))
          refine ok_inc1 69 rfl rfl rfl (by first | omega | (simp [up_if]; omega) | (simp [up_if] at *; omega)) (ok_goto 70 7 rfl rfl rfl ?_)
          obtain ⟨u1, u2, u3⟩ := hz
          have b2 := bfl_app hb u3
          rw [← u2, show i = σ 0 28 by omega, eL, ← shL_s p1] at b2
          exact ok_fg [some (vr 0), some (vi (p + 1)), none, none] ⟨rfl, rfl, trivial⟩ (ih (p + 1) _ ⟨by omega, by omega, f.tr u1, ⟨by omega, by omega⟩, b2⟩ (by omega))
        · have hc := h.2.2.2.2.2.2.2.1 p i p1 (by omega) i1 (by omega)
          rw [← e13] at hc
          refine ok_aload_n 52 rfl rfl rfl (ok_bipush 53 rfl rfl (by decide) (by decide) (ok_aload_n 54 rfl rfl rfl (ok_getR 55 rfl rfl fl_X12_51 rfl rfl (ok_bipush 56 rfl rfl (by decide) (by decide) (ok_iload_n 57 rfl rfl rfl (ok_imul 58 rfl rfl (by first | omega | (simp [up_if]; omega) | (simp [up_if] at *; omega)) (ok_iload_n 59 rfl rfl rfl (ok_iadd 60 rfl rfl (by first | omega | (simp [up_if]; omega) | (simp [up_if] at *; omega)) (ok_iald 61 rfl rfl rfl (by first | omega | (simp [up_if]; omega) | (simp [up_if] at *; omega)) (ok_iadd 62 rfl rfl (by first | omega | (simp [up_if]; omega) | (simp [up_if] at *; omega)) (ok_callVV (M' := M_Mo_says) (as := [_]) 63 rfl rfl ml_X12_360 (t_Mo_says ⟨s1.1, by omega⟩) rfl rfl (Nat.le_of_ble_eq_true rfl) ⟨Nat.le_of_ble_eq_true rfl, Nat.le_of_ble_eq_true rfl⟩ rfl (Nat.le_of_ble_eq_true rfl) (fun υ'' hz => ?_))))))))))))
          refine ok_inc3 64 rfl rfl rfl (by first | omega | (simp [up_if]; omega) | (simp [up_if] at *; omega)) (ok_goto 65 76 rfl rfl rfl ?_)
          obtain ⟨u1, u2, u3⟩ := hz
          have b2 := bfl_app hb u3
          rw [← u2, e13, ← kp, List.append_assoc, ← coL_s i1] at b2
          exact ih2 (i + 1) _ ⟨by omega, by omega, f.tr u1, ⟨by omega, by omega⟩, b2⟩ (by omega)
      · have e0 : 0 ≤ e := tn_n (by omega)
        obtain ⟨t1, t2, t3⟩ := tn_s (e := e) ⟨e0, e2⟩
        have dv := div_bd (u := υ 12 p) (g := tn e) (B := 799999992) ⟨by omega, by omega⟩ t2
        refine ok_aload_n 26 rfl rfl rfl (ok_bipush 27 rfl rfl (by decide) (by decide) (ok_aload_n 28 rfl rfl rfl (ok_getR 29 rfl rfl fl_X12_48 rfl rfl (ok_iload_n 30 rfl rfl rfl (ok_iald 31 rfl rfl rfl (by first | omega | (simp [up_if]; omega) | (simp [up_if] at *; omega)) (ok_iload_n 32 rfl rfl rfl (ok_idiv 33 rfl rfl (by first | omega | (simp [up_if]; omega) | (simp [up_if] at *; omega)) (by first | omega | (simp [up_if]; omega) | (simp [up_if] at *; omega)) (ok_bipush 34 rfl rfl (by decide) (by decide) (ok_irem 35 rfl rfl (by first | omega | (simp [up_if]; omega) | (simp [up_if] at *; omega)) (by first | omega | (simp [up_if]; omega) | (simp [up_if] at *; omega)) (ok_iadd 36 rfl rfl (by first | omega | (simp [up_if]; omega) | (simp [up_if] at *; omega)) (ok_callVV (M' := M_Mo_says) (as := [_]) 37 rfl rfl ml_X12_360 (t_Mo_says ⟨s1, by omega⟩) rfl rfl (Nat.le_of_ble_eq_true rfl) ⟨Nat.le_of_ble_eq_true rfl, Nat.le_of_ble_eq_true rfl⟩ rfl (Nat.le_of_ble_eq_true rfl) (fun υ' hz => ?_))))))))))))
        obtain ⟨u1, u2, u3⟩ := hz
        refine ok_iload_n 38 rfl rfl rfl (ok_bipush 39 rfl rfl (by decide) (by decide) (ok_idiv 40 rfl rfl (by first | omega | (simp [up_if]; omega) | (simp [up_if] at *; omega)) (by first | omega | (simp [up_if]; omega) | (simp [up_if] at *; omega)) (ok_ist2 41 rfl rfl rfl (ok_goto 42 38 rfl rfl rfl ?_))))
        rw [tn_d ⟨e0, e2⟩]
        have b2 := bfl_app hb' u3
        rw [← u2, e12] at b2
        refine ih2 (e - 1) _ ⟨by omega, by omega, f.tr u1, by omega, by omega, _, b2, ?_⟩ (by omega)
        rw [← hl', dgI_s e0, show e - 1 + 1 = e by omega, List.append_assoc]
        rfl
    · have e8 : e ≠ 8 := by
        intro q
        rw [q, tn_8] at h27
        omega
      rw [e12] at h27
      refine ok_iload_n 19 rfl rfl rfl (ok_bipush 20 rfl rfl (by decide) (by decide) (ok_imul 21 rfl rfl (by first | omega | (simp [up_if]; omega) | (simp [up_if] at *; omega)) (ok_ist2 22 rfl rfl rfl (ok_goto 23 17 rfl rfl rfl ?_))))
      rw [t1]
      exact ih2 (e + 1) ⟨by omega, by omega, Or.inr (by rw [show e + 1 - 1 = e by omega]; omega)⟩ (by omega)
theorem t_Mo_out {σ : eS} {p : Int} (h : 0 ≤ σ 0 42 ∧ σ 0 42 ≤ 1400) : MtI shB M_Mo_out [vr 0, vi p] σ (fun σ' z => σ' = σ ∧ ouS (σ 0 42) (fun k => σ 23 k) p z) := by
  refine Mt.of okM_Mo_out (Nat.le_of_ble_eq_true rfl) (fun hk hg => ?_)
  refine ok_iload_n 0 rfl rfl rfl (ok_i2l 1 rfl rfl (ok_lconst (w := 0) 2 rfl rfl rfl (by decide) (ok_aload_n 3 rfl rfl rfl (ok_getI 4 rfl rfl fl_X12_357 rfl rfl (Or.inl rfl) (ok_iconst 5 rfl rfl (by decide) (ok_isub 6 rfl rfl (by first | omega | (simp [up_if]; omega) | (simp [up_if] at *; omega)) (ok_i2l 7 rfl rfl (ok_callSI (M' := M_Mo_isIn) (as := [_, _, _]) 8 rfl rfl ml_X12_99 (s_Mo_isIn_r) ⟨Nat.le_of_ble_eq_true rfl, Nat.le_of_ble_eq_true rfl⟩ rfl (Nat.le_of_ble_eq_true rfl) (fun σ' z hz => ?_)))))))))
  obtain ⟨hs_, hz⟩ := hz
  rw [hs_]; clear hs_ σ'
  refine ok_if_eq 9 25 rfl rfl rfl (fun h13 => ?_) (fun h13 => ?_)
  · refine ok_iconst 15 rfl rfl (by decide) (ok_iret 16 rfl rfl rfl ?_)
    refine ⟨_, rfl, rfl, ?_⟩
    first | exact Or.inl ⟨rfl, by omega⟩ | exact Or.inr ⟨by omega, rfl⟩
  · refine ok_aload_n 10 rfl rfl rfl (ok_getR 11 rfl rfl fl_X12_82 rfl rfl (ok_iload_n 12 rfl rfl rfl (ok_iald 13 rfl rfl rfl (by first | omega | (simp [up_if]; omega) | (simp [up_if] at *; omega)) (ok_goto 14 26 rfl rfl rfl (ok_iret 16 rfl rfl rfl ?_)))))
    refine ⟨_, rfl, rfl, ?_⟩
    first | exact Or.inl ⟨rfl, by omega⟩ | exact Or.inr ⟨by omega, rfl⟩
