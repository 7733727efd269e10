/-! KIN: what can be reached, by rounds and by Warshall's way -/
def RS (n : Int) (W : Int → Int → Int) (a : Int) : Nat → Int → Prop
  | 0 => fun c => c = a
  | m + 1 => fun c => RS n W a m c ∨ (c < n ∧ ∃ r, 0 ≤ r ∧ r < n ∧ RS n W a m r ∧ 1 ≤ W r c)
def RT (n : Int) (W : Int → Int → Int) (a c : Int) : Prop := ∃ m, RS n W a m c
section K12
variable {n a b c : Int} {W V : Int → Int → Int}
theorem RS_le {m : Nat} : ∀ {k : Nat}, RS n W a m c → RS n W a (m + k) c
  | 0, h => h
  | _ + 1, h => Or.inl (RS_le h)
theorem stab {m : Nat} (h : ∀ c, 0 ≤ c → c < n → RS n W a (m + 1) c → RS n W a m c) (ha : 0 ≤ a ∧ a < n) : ∀ (k : Nat) (c : Int), 0 ≤ c → RS n W a (m + k) c → RS n W a m c
  | 0, _, _, q => q
  | k + 1, c, hc, q => by
    rcases q with q | ⟨q1, r, q2, q3, q4, q5⟩
    · exact stab h ha k c hc q
    · exact h c hc q1 (Or.inr ⟨q1, r, q2, q3, stab h ha k r q2 q4, q5⟩)
noncomputable def cn (n : Int) (W : Int → Int → Int) (a : Int) (m : Nat) : Int := sm (fun c => @ite Int (RS n W a m c) (Classical.propDecidable _) 1 0) n.toNat
theorem cn_bd (hn : 0 ≤ n) (m : Nat) : cn n W a m ≤ n := by
  have := sm_bd (f := fun c => @ite Int (RS n W a m c) (Classical.propDecidable _) 1 0) (B := 1) (by decide) (n := n.toNat) (fun k _ _ => by (try dsimp only); split <;> omega)
  unfold cn
  omega
theorem cn_s {m : Nat} (h : ¬ ∀ c, 0 ≤ c → c < n → RS n W a (m + 1) c → RS n W a m c) : cn n W a m + 1 ≤ cn n W a (m + 1) := by
  obtain ⟨c, hc⟩ := Classical.not_forall.mp h
  obtain ⟨c1, hc⟩ := Classical.not_imp.mp hc
  obtain ⟨c2, hc⟩ := Classical.not_imp.mp hc
  obtain ⟨c3, c4⟩ := Classical.not_imp.mp hc
  unfold cn
  refine sm_less (x := c) (fun k p q => ?_) c1 (by omega) ?_
  · by_cases w : RS n W a m k
    · rw [if_pos w, if_pos (show RS n W a (m + 1) k from Or.inl w)]; exact Int.le_refl _
    · rw [if_neg w]; split <;> omega
  · rw [if_neg c4, if_pos c3]; decide
theorem cn_0 (ha : 0 ≤ a ∧ a < n) : 1 ≤ cn n W a 0 := by
  have := sm_le (f := fun c => @ite Int (RS n W a 0 c) (Classical.propDecidable _) 1 0) (n := n.toNat) (fun k _ _ => by (try dsimp only); split <;> omega) a ha.1 (by omega)
  try dsimp only at this
  rw [if_pos (show RS n W a 0 a from rfl)] at this
  unfold cn
  exact this
theorem some_st (ha : 0 ≤ a ∧ a < n) : ∀ m : Nat, (∃ k, k < m ∧ ∀ c, 0 ≤ c → c < n → RS n W a (k + 1) c → RS n W a k c) ∨ (m : Int) + 1 ≤ cn n W a m
  | 0 => Or.inr (by have := cn_0 (n := n) (W := W) ha; omega)
  | m + 1 => by
    rcases some_st ha m with ⟨k, h1, h2⟩ | h
    · exact Or.inl ⟨k, by omega, h2⟩
    · by_cases q : ∀ c, 0 ≤ c → c < n → RS n W a (m + 1) c → RS n W a m c
      · exact Or.inl ⟨m, by omega, q⟩
      · have := cn_s q
        exact Or.inr (by omega)
/-- n rounds are enough -/
theorem RS_n (ha : 0 ≤ a ∧ a < n) (hc : 0 ≤ c) : RS n W a n.toNat c ↔ RT n W a c := by
  refine ⟨fun h => ⟨_, h⟩, fun ⟨m, h⟩ => ?_⟩
  rcases some_st (W := W) ha n.toNat with ⟨k, h1, h2⟩ | q
  · have x := RS_le (k := k) h
    rw [Nat.add_comm m k] at x
    have y := stab h2 ha m c hc x
    have z := RS_le (k := n.toNat - k) y
    rwa [show k + (n.toNat - k) = n.toNat by omega] at z
  · have := cn_bd (n := n) (W := W) (a := a) (by omega) n.toNat
    omega
theorem RT_tr (h : RT n W a b) : ∀ (m : Nat) (c : Int), RS n W b m c → RT n W a c
  | 0, c, q => by
    have q : c = b := q
    rw [q]; exact h
  | m + 1, c, q => by
    rcases q with q | ⟨q1, r, q2, q3, q4, q5⟩
    · exact RT_tr h m c q
    · obtain ⟨k, hk⟩ := RT_tr h m r q4
      exact ⟨k + 1, Or.inr ⟨q1, r, q2, q3, hk, q5⟩⟩
theorem RS_cg (e : ag n W V) (ha : 0 ≤ a ∧ a < n) : ∀ (m : Nat) (c : Int), 0 ≤ c → RS n W a m c → RS n V a m c
  | 0, _, _, q => q
  | m + 1, c, hc, q => by
    rcases q with q | ⟨q1, r, q2, q3, q4, q5⟩
    · exact Or.inl (RS_cg e ha m c hc q)
    · exact Or.inr ⟨q1, r, q2, q3, RS_cg e ha m r q2 q4, by rw [← e r c q2 q3 hc q1]; exact q5⟩
theorem RT_cg (e : ag n W V) (ha : 0 ≤ a ∧ a < n) (hc : 0 ≤ c) : RT n W a c ↔ RT n V a c := ⟨fun ⟨m, h⟩ => ⟨m, RS_cg e ha m c hc h⟩, fun ⟨m, h⟩ => ⟨m, RS_cg e.sy ha m c hc h⟩⟩
end K12
/-- by way of the first k alone -/
def WP (W : Int → Int → Int) : Nat → Int → Int → Prop
  | 0 => fun i j => i = j ∨ 1 ≤ W i j
  | k + 1 => fun i j => WP W k i j ∨ (WP W k i (k : Int) ∧ WP W k (k : Int) j)
section K12b
variable {n : Int} {W : Int → Int → Int}
theorem WP_le {k : Nat} {i j : Int} : ∀ {d : Nat}, WP W k i j → WP W (k + d) i j
  | 0, h => h
  | _ + 1, h => Or.inl (WP_le h)
theorem WP_k1 {k : Nat} {i : Int} : WP W (k + 1) i (k : Int) ↔ WP W k i (k : Int) := ⟨fun h => by
  rcases h with h | h
  · exact h
  · exact h.1, Or.inl⟩
theorem WP_k2 {k : Nat} {j : Int} : WP W (k + 1) (k : Int) j ↔ WP W k (k : Int) j := ⟨fun h => by
  rcases h with h | h
  · exact h
  · exact h.2, Or.inl⟩
theorem WP_tr {k : Nat} : ∀ (d : Nat) (i j : Int), WP W (k + 1 + d) i (k : Int) → WP W (k + 1 + d) (k : Int) j → WP W (k + 1 + d) i j
  | 0, i, j, h, g => Or.inr ⟨WP_k1.mp h, WP_k2.mp g⟩
  | d + 1, i, j, h, g => by
    rcases h with h | ⟨h1, h2⟩ <;> rcases g with g | ⟨g1, g2⟩
    · exact Or.inl (WP_tr d i j h g)
    · exact Or.inr ⟨WP_tr d i _ h g1, g2⟩
    · exact Or.inr ⟨h1, WP_tr d _ j h2 g⟩
    · exact Or.inr ⟨h1, g2⟩
theorem WP_RT : ∀ (k : Nat) (i j : Int), (k : Int) ≤ n → 0 ≤ i → i < n → 0 ≤ j → j < n → WP W k i j → RT n W i j
  | 0, i, j, _, i1, i2, j1, j2, h => by
    rcases h with h | h
    · exact ⟨0, h.symm⟩
    · exact ⟨1, Or.inr ⟨j2, i, i1, i2, rfl, h⟩⟩
  | k + 1, i, j, hk, i1, i2, j1, j2, h => by
    rcases h with h | ⟨h1, h2⟩
    · exact WP_RT k i j (by omega) i1 i2 j1 j2 h
    · obtain ⟨m, hm⟩ := WP_RT k (k : Int) j (by omega) (by omega) (by omega) j1 j2 h2
      exact RT_tr (WP_RT k i (k : Int) (by omega) i1 i2 (by omega) (by omega) h1) m j hm
theorem RS_WP {i : Int} (hi : 0 ≤ i ∧ i < n) : ∀ (m : Nat) (j : Int), 0 ≤ j → RS n W i m j → WP W n.toNat i j
  | 0, j, _, h => by
    have x : WP W 0 i j := Or.inl (Eq.symm h)
    have y := WP_le (d := n.toNat) x
    rwa [Nat.zero_add] at y
  | m + 1, j, hj, h => by
    rcases h with h | ⟨h1, r, h2, h3, h4, h5⟩
    · exact RS_WP hi m j hj h
    · have x := RS_WP hi m r h2 h4
      have y : WP W 0 r j := Or.inr h5
      have y := WP_le (d := n.toNat) y
      rw [Nat.zero_add] at y
      have e : n.toNat = r.toNat + 1 + (n.toNat - r.toNat - 1) := by omega
      have er : ((r.toNat : Nat) : Int) = r := Int.toNat_of_nonneg h2
      rw [e] at x y ⊢
      exact WP_tr _ i j (by rw [er]; exact x) (by rw [er]; exact y)
theorem WP_iff {i j : Int} (hi : 0 ≤ i ∧ i < n) (hj : 0 ≤ j ∧ j < n) : WP W n.toNat i j ↔ RT n W i j := ⟨fun h => WP_RT n.toNat i j (by omega) hi.1 hi.2 hj.1 hj.2 h, fun ⟨m, h⟩ => RS_WP hi m j hj.1 h⟩
end K12b
def kiS (n : Int) (W : Int → Int → Int) (r z : Int) : Prop := (0 ≤ z ∧ z < 256) ∧ ∀ c : Int, 0 ≤ c → c < 8 → (bt z c = true ↔ (c < n ∧ RT n W r c ∧ RT n W c r))
theorem kiS_un {n r z z' : Int} {W V : Int → Int → Int} (hn : n ≤ 8) (e : ag n W V) (hr : 0 ≤ r ∧ r < n) (h : kiS n W r z) (h' : kiS n V r z') : z = z' := bt_ext h.1 h'.1 (fun c a b => by
  have x : bt z c = true ↔ bt z' c = true := by
    rw [h.2 c a b, h'.2 c a b]
    constructor
    · rintro ⟨p, q, w⟩; exact ⟨p, (RT_cg e hr a).mp q, (RT_cg e ⟨a, p⟩ hr.1).mp w⟩
    · rintro ⟨p, q, w⟩; exact ⟨p, (RT_cg e hr a).mpr q, (RT_cg e ⟨a, p⟩ hr.1).mpr w⟩
  cases q : bt z c <;> cases q' : bt z' c <;> simp_all)
theorem ior0_f : ∀ j : Fin 8, ior 0 (ishl 1 (j.val : Int)) = ishl 1 (j.val : Int) := by decide +kernel
theorem ior0 {j : Int} (h : 0 ≤ j ∧ j < 8) : ior 0 (ishl 1 j) = ishl 1 j := by
  have := ior0_f ⟨j.toNat, by omega⟩
  rwa [show (((⟨j.toNat, by omega⟩ : Fin 8).val : Nat) : Int) = j by show ((j.toNat : Nat) : Int) = j; omega] at this
theorem ior_z_f : ∀ s : Fin 256, ∀ j : Fin 8, ior (s.val : Int) (ishl 0 (j.val : Int)) = (s.val : Int) := by decide +kernel
theorem ior_z {s j : Int} (h1 : 0 ≤ s ∧ s < 256) (h2 : 0 ≤ j ∧ j < 8) : ior s (ishl 0 j) = s := fin2 (P := fun s j => ior s (ishl 0 j) = s) ior_z_f h1.1 h1.2 h2.1 h2.2
theorem t_Jo_reachedFrom {σ : eS} {J r n : Int} {W : Int → Int → Int} (hn : 0 ≤ n ∧ n ≤ 8) (hr : 0 ≤ r ∧ r < n) (hJ : jOf J n (fun i j => 1 ≤ W i j)) : MtI shA M_Jo_reachedFrom [vl J, vi r, vi n] σ (fun σ' z => σ' = σ ∧ (0 ≤ z ∧ z < 256) ∧ ∀ c : Int, 0 ≤ c → c < 8 → (bt z c = true ↔ RT n W r c)) := by
  refine Mt.of okM_Jo_reachedFrom (Nat.le_of_ble_eq_true rfl) (fun hk hg => ?_)
  have o0 := or8 (s := 0) (j := r) ⟨by omega, by omega⟩ ⟨hr.1, by omega⟩
  have p0 := bitP (s := 0) (j := r) ⟨by omega, by omega⟩ ⟨hr.1, by omega⟩
  have i0 : ior 0 (ishl 1 r) = ishl 1 r := ior0 ⟨hr.1, by omega⟩
  rw [i0] at o0 p0
  refine ok_iconst 0 rfl rfl (by decide) (ok_iload_n 1 rfl rfl rfl (ok_ishl 2 rfl rfl (ok_ist4 3 rfl rfl rfl (ok_iconst 4 rfl rfl (by decide) (ok_ist5 5 rfl rfl rfl ?_)))))
  refine lpO2 (fun v i : Int => [some (vl J), none, some (vi r), some (vi n), some (vi v), some (vi i)]) (fun _ _ => σ) (fun v i => 0 ≤ i ∧ i ≤ n ∧ (0 ≤ v ∧ v < 256) ∧ ∀ c : Int, 0 ≤ c → c < 8 → (bt v c = true ↔ RS n W r i.toNat c)) (fun _ i => (8 - i).toNat) ?_ _ 0 ⟨by omega, by omega, o0, fun c a b => by rw [p0, bt_sB' hr.1 a, bt_0]; exact ⟨fun q => by rcases q with q | q; cases q; exact q, fun q => Or.inr q⟩⟩
  rintro v i ⟨i1, i2, v1, v2⟩ ih
  refine ok_iload 6 rfl rfl rfl (ok_iload_n 7 rfl rfl rfl (ok_icmp_ge 8 32 rfl rfl rfl (fun h11 => ?_) (fun h11 => ?_)))
  · refine ok_iload 18 rfl rfl rfl (ok_iret 19 rfl rfl rfl ?_)
    refine ⟨_, rfl, rfl, v1, fun c a b => ?_⟩
    rw [v2 c a b, show i = n by omega]
    exact RS_n hr a
  · refine ok_iload 9 rfl rfl rfl (ok_lload_n 10 rfl rfl rfl (ok_iload 11 rfl rfl rfl (ok_iload_n 12 rfl rfl rfl (ok_callSI (M' := M_Jo_columnsOf) (as := [_, _, _]) 13 rfl rfl ml_X1_25 (t_Jo_columnsOf hn v1) ⟨Nat.le_of_ble_eq_true rfl, Nat.le_of_ble_eq_true rfl⟩ rfl (Nat.le_of_ble_eq_true rfl) (fun σ' z hz => ?_)))))
    obtain ⟨hs_, hz⟩ := hz
    rw [hs_]; clear hs_ σ'
    obtain ⟨z1, z2⟩ := cOf_op hn.2 hJ hz
    have os := ior_sp v1 z1
    refine ok_ior 14 rfl rfl (ok_ist4 15 rfl rfl rfl (ok_inc5 16 rfl rfl rfl (by first | omega | (simp [up_if]; omega) | (simp [up_if] at *; omega)) (ok_goto 17 8 rfl rfl rfl ?_)))
    refine ih _ (i + 1) ⟨by omega, by omega, os.1, fun c a b => ?_⟩ (by omega)
    rw [os.2 c a b, Bool.or_eq_true, v2 c a b, z2 c a b, show (i + 1).toNat = i.toNat + 1 by omega]
    constructor
    · rintro (q | ⟨q1, k, k1, k2, k3, k4⟩)
      · exact Or.inl q
      · exact Or.inr ⟨q1, k, k1, k2, (v2 k k1 (by omega)).mp k3, k4⟩
    · rintro (q | ⟨q1, k, k1, k2, k3, k4⟩)
      · exact Or.inl q
      · exact Or.inr ⟨q1, k, k1, k2, (v2 k k1 (by omega)).mpr k3, k4⟩
theorem t_Jo_kinOf {σ : eS} {J r n : Int} {W : Int → Int → Int} (hn : 0 ≤ n ∧ n ≤ 8) (hr : 0 ≤ r ∧ r < n) (hJ : jOf J n (fun i j => 1 ≤ W i j)) : MtI shA M_Jo_kinOf [vl J, vi r, vi n] σ (fun σ' z => σ' = σ ∧ kiS n W r z) := by
  refine Mt.of okM_Jo_kinOf (Nat.le_of_ble_eq_true rfl) (fun hk hg => ?_)
  refine ok_lload_n 0 rfl rfl rfl (ok_iload_n 1 rfl rfl rfl (ok_iload_n 2 rfl rfl rfl (ok_callSI (M' := M_Jo_reachedFrom) (as := [_, _, _]) 3 rfl rfl ml_X1_37 (t_Jo_reachedFrom hn hr hJ) ⟨Nat.le_of_ble_eq_true rfl, Nat.le_of_ble_eq_true rfl⟩ rfl (Nat.le_of_ble_eq_true rfl) (fun σ' R hR => ?_))))
  obtain ⟨hs_, hR⟩ := hR
  rw [hs_]; clear hs_ σ'
  refine ok_ist4 4 rfl rfl rfl (ok_iconst 5 rfl rfl (by decide) (ok_ist5 6 rfl rfl rfl (ok_iconst 7 rfl rfl (by decide) (ok_ist6 8 rfl rfl rfl ?_))))
  obtain ⟨R1, R2⟩ := hR
  refine lpO2 (fun v i : Int => [some (vl J), none, some (vi r), some (vi n), some (vi R), some (vi v), some (vi i)]) (fun _ _ => σ) (fun v i => 0 ≤ i ∧ i ≤ n ∧ (0 ≤ v ∧ v < 256) ∧ ∀ c : Int, 0 ≤ c → c < 8 → (bt v c = true ↔ (c < i ∧ RT n W r c ∧ RT n W c r))) (fun _ i => (8 - i).toNat) ?_ 0 0 ⟨by omega, by omega, ⟨by omega, by omega⟩, fun c a b => by rw [bt_0]; constructor; intro q; cases q; intro q; omega⟩
  rintro v i ⟨i1, i2, v1, v2⟩ ih
  have nx : ∀ v', (0 ≤ v' ∧ v' < 256) → (∀ c : Int, 0 ≤ c → c < 8 → (bt v' c = true ↔ (bt v c = true ∨ (c = i ∧ RT n W r i ∧ RT n W i r)))) → ∀ c : Int, 0 ≤ c → c < 8 → (bt v' c = true ↔ (c < i + 1 ∧ RT n W r c ∧ RT n W c r)) := fun v' _ e c a b => by
    rw [e c a b, v2 c a b]
    constructor
    · rintro (q | ⟨q, q1, q2⟩)
      · exact ⟨by omega, q.2⟩
      · subst q; exact ⟨by omega, q1, q2⟩
    · rintro ⟨q, q1, q2⟩
      by_cases w : c = i
      · subst w; exact Or.inr ⟨rfl, q1, q2⟩
      · exact Or.inl ⟨by omega, q1, q2⟩
  refine ok_iload 9 rfl rfl rfl (ok_iload_n 10 rfl rfl rfl (ok_icmp_ge 11 59 rfl rfl rfl (fun h17 => ?_) (fun h17 => ?_)))
  · refine ok_iload 35 rfl rfl rfl (ok_iret 36 rfl rfl rfl ?_)
    exact ⟨_, rfl, rfl, v1, fun c a b => by rw [v2 c a b, show i = n by omega]⟩
  · have b1 := b_nz (s := R) (j := i) R1 ⟨i1, by omega⟩
    have r2 := R2 i i1 (by omega)
    refine ok_iload 12 rfl rfl rfl (ok_iload 13 rfl rfl rfl (ok_ishr 14 rfl rfl (ok_iconst 15 rfl rfl (by decide) (ok_iand 16 rfl rfl (ok_if_eq 17 53 rfl rfl rfl (fun h27 => ?_) (fun h27 => ?_))))))
    · refine ok_inc6 33 rfl rfl rfl (by first | omega | (simp [up_if]; omega) | (simp [up_if] at *; omega)) (ok_goto 34 14 rfl rfl rfl ?_)
      refine ih _ (i + 1) ⟨by omega, by omega, v1, nx v v1 (fun c a b => ⟨Or.inl, fun q => ?_⟩)⟩ (by omega)
      rcases q with q | ⟨-, q, -⟩
      · exact q
      · have := r2.mpr q; rw [b1.2.mp (by omega)] at this; cases this
    · refine ok_lload_n 18 rfl rfl rfl (ok_iload 19 rfl rfl rfl (ok_iload_n 20 rfl rfl rfl (ok_callSI (M' := M_Jo_reachedFrom) (as := [_, _, _]) 21 rfl rfl ml_X1_37 (t_Jo_reachedFrom hn ⟨i1, by omega⟩ hJ) ⟨Nat.le_of_ble_eq_true rfl, Nat.le_of_ble_eq_true rfl⟩ rfl (Nat.le_of_ble_eq_true rfl) (fun σ' S hS => ?_))))
      obtain ⟨hs_, hS⟩ := hS
      rw [hs_]; clear hs_ σ'
      obtain ⟨S1, S2⟩ := hS
      have b2 := b_nz (s := S) (j := r) S1 ⟨hr.1, by omega⟩
      have s2 := S2 r hr.1 (by omega)
      refine ok_iload_n 22 rfl rfl rfl (ok_ishr 23 rfl rfl (ok_iconst 24 rfl rfl (by decide) (ok_iand 25 rfl rfl (ok_if_eq 26 53 rfl rfl rfl (fun h41 => ?_) (fun h41 => ?_)))))
      · refine ok_inc6 33 rfl rfl rfl (by first | omega | (simp [up_if]; omega) | (simp [up_if] at *; omega)) (ok_goto 34 14 rfl rfl rfl ?_)
        refine ih _ (i + 1) ⟨by omega, by omega, v1, nx v v1 (fun c a b => ⟨Or.inl, fun q => ?_⟩)⟩ (by omega)
        rcases q with q | ⟨-, -, q⟩
        · exact q
        · have := s2.mpr q; rw [b2.2.mp (by omega)] at this; cases this
      · refine ok_iload 27 rfl rfl rfl (ok_iconst 28 rfl rfl (by decide) (ok_iload 29 rfl rfl rfl (ok_ishl 30 rfl rfl (ok_ior 31 rfl rfl (ok_ist5 32 rfl rfl rfl (ok_inc6 33 rfl rfl rfl (by first | omega | (simp [up_if]; omega) | (simp [up_if] at *; omega)) (ok_goto 34 14 rfl rfl rfl ?_)))))))
        have ob := or8 v1 (j := i) ⟨i1, by omega⟩
        refine ih _ (i + 1) ⟨by omega, by omega, ob, nx _ ob (fun c a b => ?_)⟩ (by omega)
        rw [bitP v1 ⟨i1, by omega⟩, bt_sB' i1 a]
        constructor
        · rintro (q | q)
          · exact Or.inl q
          · exact Or.inr ⟨q, r2.mp (b1.1.mp (by omega)), s2.mp (b2.1.mp (by omega))⟩
        · rintro (q | q)
          · exact Or.inl q
          · exact Or.inr q.1
def okKn (T : Prop) (n r : Int) : Prop := T ∧ 0 ≤ r ∧ r < n
theorem t_Ev_kin {σ : eS} {s r : Int} (h : IA σ) : MtI shA M_Ev_kin [vr 0, vi s, vi r] σ (fun σ' z => σ' = σ ∧ ((¬ okKn (tabA σ s) (σ (s.toNat + 2) 1) r ∧ z = -1) ∨ (okKn (tabA σ s) (σ (s.toNat + 2) 1) r ∧ kiS (σ (s.toNat + 2) 1) (cT σ (s.toNat + 2)) r z))) := by
  refine Mt.of okM_Ev_kin (Nat.le_of_ble_eq_true rfl) (fun hk hg => ?_)
  refine ok_aload_n 0 rfl rfl rfl (ok_iload_n 1 rfl rfl rfl (ok_callVR (M' := M_Ev_slotAt) (as := [_]) 2 rfl rfl ml_X11_86 (s_Ev_slotAt) rfl rfl (Nat.le_of_ble_eq_true rfl) ⟨Nat.le_of_ble_eq_true rfl, Nat.le_of_ble_eq_true rfl⟩ rfl (Nat.le_of_ble_eq_true rfl) (fun σ' z hz => ?_)))
  obtain ⟨hs_, hz⟩ := hz
  rw [hs_]; clear hs_ σ'
  rcases hz with ⟨q, q2⟩ | ⟨q1, q2, q⟩
  · subst q
    refine ok_ast3 3 rfl rfl rfl (ok_aload_n 4 rfl rfl rfl (ok_ifnullN 5 18 rfl rfl rfl (ok_iconst 10 rfl rfl (by decide) (ok_goto 11 35 rfl rfl rfl (ok_iret 19 rfl rfl rfl ?_)))))
    exact ⟨_, rfl, rfl, Or.inl ⟨fun c => q2 ⟨c.1.1, c.1.2.1⟩, rfl⟩⟩
  · subst q
    have ht := sl_tA ⟨q1, q2⟩
    have hT := (h.2.1 _ ht).1
    refine ok_ast3 3 rfl rfl rfl (ok_aload_n 4 rfl rfl rfl (ok_ifnull 5 rfl rfl (ok_aload_n 6 rfl rfl rfl (ok_iload_n 7 rfl rfl rfl (ok_callVI (M' := M_Ta_has) (as := [_]) 8 rfl rfl ml_X11_129 (s_Ta_has ht) (sT ht) rfl (Nat.le_of_ble_eq_true rfl) ⟨Nat.le_of_ble_eq_true rfl, Nat.le_of_ble_eq_true rfl⟩ rfl (Nat.le_of_ble_eq_true rfl) (fun σ' z1 x1 => ?_))))))
    obtain ⟨hs_, x1⟩ := x1
    rw [hs_]; clear hs_ σ'
    refine ok_if_ne 9 22 rfl rfl rfl (fun h15 => ?_) (fun h15 => ?_)
    · refine ok_aload_n 12 rfl rfl rfl (ok_iconst 13 rfl rfl (by decide) (ok_callVL (M' := M_Ta_joinedBy) (as := [_]) 14 rfl rfl ml_X11_119 (t_Ta_joinedBy ht hT) (sT ht) rfl (Nat.le_of_ble_eq_true rfl) ⟨Nat.le_of_ble_eq_true rfl, Nat.le_of_ble_eq_true rfl⟩ rfl (Nat.le_of_ble_eq_true rfl) (fun σ' z2 x2 => ?_)))
      obtain ⟨hs_, x2⟩ := x2
      rw [hs_]; clear hs_ σ'
      refine ok_iload_n 15 rfl rfl rfl (ok_aload_n 16 rfl rfl rfl (ok_getI 17 rfl rfl fl_X11_103 (sT ht) rfl (Or.inl rfl) (ok_callSI (M' := M_Jo_kinOf) (as := [_, _, _]) 18 rfl rfl ml_X11_283 (t_Jo_kinOf ⟨hT.1, hT.2.1⟩ ⟨by omega, by omega⟩ x2) ⟨Nat.le_of_ble_eq_true rfl, Nat.le_of_ble_eq_true rfl⟩ rfl (Nat.le_of_ble_eq_true rfl) (fun σ' z3 x3 => ?_))))
      obtain ⟨hs_, x3⟩ := x3
      rw [hs_]; clear hs_ σ'
      refine ok_iret 19 rfl rfl rfl ?_
      exact ⟨_, rfl, rfl, Or.inr ⟨⟨⟨q1, q2, by omega⟩, by omega⟩, x3⟩⟩
    · refine ok_iconst 10 rfl rfl (by decide) (ok_goto 11 35 rfl rfl rfl (ok_iret 19 rfl rfl rfl ?_))
      exact ⟨_, rfl, rfl, Or.inl ⟨fun c => by have := c.2; omega, rfl⟩⟩
/-- a round of Warshall's way, up to a place -/
def fdW (ρ : eS) (n : Int) (W : Int → Int → Int) (k : Nat) (m : Int) : Prop := ∀ x y, 0 ≤ x → x < n → 0 ≤ y → y < n → (ρ 21 (n * x + y) = 0 ∨ ρ 21 (n * x + y) = 1) ∧ (n * x + y < m → (ρ 21 (n * x + y) = 1 ↔ WP W (k + 1) x y)) ∧ (m ≤ n * x + y → (ρ 21 (n * x + y) = 1 ↔ WP W k x y))
theorem fdW_s {ρ : eS} {n i j v : Int} {W : Int → Int → Int} {k : Nat} (hn : 1 ≤ n ∧ n ≤ 8) (hi : 0 ≤ i ∧ i < n) (hj : 0 ≤ j ∧ j < n) (h : fdW ρ n W k (n * i + j)) (hv : v = 0 ∨ v = 1) (hv2 : v = 1 ↔ WP W (k + 1) i j) : fdW (up ρ 21 (n * i + j) v) n W k (n * i + (j + 1)) := fun x y a b d e => by
  by_cases q : n * x + y = n * i + j
  · obtain ⟨q1, q2⟩ := ix_inj hn ⟨d, e⟩ hj q
    rw [q1, q2, up_same]
    exact ⟨hv, fun _ => hv2, fun w => by omega⟩
  · rw [up_nk _ _ _ _ q]
    obtain ⟨h1, h2, h3⟩ := h x y a b d e
    exact ⟨h1, fun w => h2 (by omega), fun w => h3 (by omega)⟩
theorem t_Mo_kin {σ : eS} {s r : Int} (hB : iB1 σ) : MtI shB M_Mo_kin [vr 0, vi s, vi r] σ (fun σ' z => fr rgX σ σ' ∧ ((¬ okKn (tabB σ s) (σ 1 s) r ∧ z = -1) ∨ (okKn (tabB σ s) (σ 1 s) r ∧ kiS (σ 1 s) (cB σ s) r z))) := by
  refine Mt.of okM_Mo_kin (Nat.le_of_ble_eq_true rfl) (fun hk hg => ?_)
  refine ok_aload_n 0 rfl rfl rfl (ok_iload_n 1 rfl rfl rfl (ok_callVI (M' := M_Mo_isTable) (as := [_]) 2 rfl rfl ml_X12_111 (s_Mo_isTable_r) rfl rfl (Nat.le_of_ble_eq_true rfl) ⟨Nat.le_of_ble_eq_true rfl, Nat.le_of_ble_eq_true rfl⟩ rfl (Nat.le_of_ble_eq_true rfl) (fun σ' z1 a1 => ?_)))
  obtain ⟨hs_, a1⟩ := a1
  rw [hs_]; clear hs_ σ'
  refine ok_if_eq 3 26 rfl rfl rfl (fun h5 => ?_) (fun h5 => ?_)
  · refine ok_iconst 16 rfl rfl (by decide) (ok_iret 17 rfl rfl rfl ?_)
    exact ⟨_, rfl, fr.rf, Or.inl ⟨fun c => no1 a1 h5 c.1, rfl⟩⟩
  · obtain ⟨u1, u2, u3⟩ := yes1 a1 h5
    have tn := hB.1 s u1 u2
    refine ok_iload_n 4 rfl rfl rfl (ok_i2l 5 rfl rfl (ok_lconst (w := 0) 6 rfl rfl rfl (by decide) (ok_aload_n 7 rfl rfl rfl (ok_getR 8 rfl rfl fl_X12_7 rfl rfl (ok_iload_n 9 rfl rfl rfl (ok_iald 10 rfl rfl rfl (by first | omega | (simp [up_if]; omega) | (simp [up_if] at *; omega)) (ok_iconst 11 rfl rfl (by decide) (ok_isub 12 rfl rfl (by first | omega | (simp [up_if]; omega) | (simp [up_if] at *; omega)) (ok_i2l 13 rfl rfl (ok_callSI (M' := M_Mo_isIn) (as := [_, _, _]) 14 rfl rfl ml_X12_99 (s_Mo_isIn_r) ⟨Nat.le_of_ble_eq_true rfl, Nat.le_of_ble_eq_true rfl⟩ rfl (Nat.le_of_ble_eq_true rfl) (fun σ' z2 a2 => ?_)))))))))))
    obtain ⟨hs_, a2⟩ := a2
    rw [hs_]; clear hs_ σ'
    refine ok_if_ne 15 28 rfl rfl rfl (fun h23 => ?_) (fun h23 => ?_)
    · refine ok_aload_n 18 rfl rfl rfl (ok_getR 19 rfl rfl fl_X12_7 rfl rfl (ok_iload_n 20 rfl rfl rfl (ok_iald 21 rfl rfl rfl (by first | omega | (simp [up_if]; omega) | (simp [up_if] at *; omega)) (ok_ist3 22 rfl rfl rfl (ok_iconst 23 rfl rfl (by decide) (ok_ist4 24 rfl rfl rfl ?_))))))
      have hr := yes1 a2 h23
      have hok : okKn (tabB σ s) (σ 1 s) r := ⟨⟨u1, u2, u3⟩, by omega⟩
      obtain ⟨n, en⟩ : ∃ n, n = σ 1 s := ⟨_, rfl⟩
      rw [← en] at hok ⊢
      have n1 : 1 ≤ n ∧ n ≤ 8 := by omega
      have r1 : 0 ≤ r ∧ r < n := by omega
      obtain ⟨W, eW⟩ : ∃ W, W = cB σ s := ⟨_, rfl⟩
      have E : ∀ τ : eS, fr rgX σ τ → iB1 τ ∧ τ 1 s = n ∧ cB τ s = W := fun τ g => by
        have e1 : τ 1 s = σ 1 s := g 1 s (by simp [rgX])
        have e3 : ∀ k, τ 3 k = σ 3 k := fun k => g 3 k (by simp [rgX])
        exact ⟨iB1_frS hB g (fun c k q => by simp only [rgX]; omega), by rw [e1, en], by rw [eW]; funext i j; unfold cB; rw [e1, e3]⟩
      refine lpO2 (fun (k : Int) (_ : eS) => [some (vr 0), some (vi s), some (vi r), some (vi n), some (vi k), none, none]) (fun _ ρ => ρ) (fun k ρ => 0 ≤ k ∧ k ≤ n ∧ fr rgX σ ρ ∧ fdB ρ 21 n (n * k) (WP W 0)) (fun k _ => (n - k).toNat) ?_ 0 _ ⟨by omega, by omega, fr.rf, fun x y c d e g l => by have := ix8 (n := n) (i := x) (j := y) ⟨by omega, by omega⟩ ⟨c, d⟩ ⟨e, g⟩; omega⟩
      rintro k ρ ⟨k1, k2, f, hz⟩ ih
      refine ok_iload 25 rfl rfl rfl (ok_iload_n 26 rfl rfl rfl (ok_icmp_ge 27 101 rfl rfl rfl (fun h41 => ?_) (fun h41 => ?_)))
      · refine ok_iconst 57 rfl rfl (by decide) (ok_ist4 58 rfl rfl rfl ?_)
        have hz0 : ∀ x y, 0 ≤ x → x < n → 0 ≤ y → y < n → (ρ 21 (n * x + y) = 0 ∨ ρ 21 (n * x + y) = 1) ∧ (ρ 21 (n * x + y) = 1 ↔ WP W (0 : Int).toNat x y) := fun x y c d e g => by
          rw [show k = n by omega] at hz
          exact fdB_all n1 hz ⟨c, d⟩ ⟨e, g⟩
        clear ih k1 k2 hz
        refine lpO2 (fun (k : Int) (_ : eS) => [some (vr 0), some (vi s), some (vi r), some (vi n), some (vi k), none, none]) (fun _ ρ => ρ) (fun k ρ => 0 ≤ k ∧ k ≤ n ∧ fr rgX σ ρ ∧ ∀ x y, 0 ≤ x → x < n → 0 ≤ y → y < n → (ρ 21 (n * x + y) = 0 ∨ ρ 21 (n * x + y) = 1) ∧ (ρ 21 (n * x + y) = 1 ↔ WP W k.toNat x y)) (fun k _ => (n - k).toNat) ?_ 0 _ ⟨by omega, by omega, f, hz0⟩
        clear f hz0 h41 ρ k
        rintro k ρ ⟨k1, k2, f, hz⟩ ih
        refine ok_iload 59 rfl rfl rfl (ok_iload_n 60 rfl rfl rfl (ok_icmp_ge 61 208 rfl rfl rfl (fun h107 => ?_) (fun h107 => ?_)))
        · refine ok_iconst 116 rfl rfl (by decide) (ok_ist4 117 rfl rfl rfl (ok_iconst 118 rfl rfl (by decide) (ok_ist5 119 rfl rfl rfl ?_)))
          rw [show k = n by omega] at hz
          have hq : ∀ x y, 0 ≤ x → x < n → 0 ≤ y → y < n → (ρ 21 (n * x + y) = 0 ∨ ρ 21 (n * x + y) = 1) ∧ (ρ 21 (n * x + y) = 1 ↔ RT n W x y) := fun x y c d e g => ⟨(hz x y c d e g).1, (hz x y c d e g).2.trans (WP_iff ⟨c, d⟩ ⟨e, g⟩)⟩
          clear ih k1 k2 hz
          refine lpO2 (fun (v i : Int) => [some (vr 0), some (vi s), some (vi r), some (vi n), some (vi v), some (vi i), none]) (fun _ _ => ρ) (fun v i => 0 ≤ i ∧ i ≤ n ∧ (0 ≤ v ∧ v < 256) ∧ ∀ c : Int, 0 ≤ c → c < 8 → (bt v c = true ↔ (c < i ∧ RT n W r c ∧ RT n W c r))) (fun _ i => (n - i).toNat) ?_ 0 0 ⟨by omega, by omega, ⟨by omega, by omega⟩, fun c a b => by rw [bt_0]; constructor; intro q; cases q; intro q; omega⟩
          rintro v i ⟨i1, i2, v1, v2⟩ ih2
          refine ok_iload 120 rfl rfl rfl (ok_iload_n 121 rfl rfl rfl (ok_icmp_ge 122 270 rfl rfl rfl (fun h217 => ?_) (fun h217 => ?_)))
          · refine ok_iload 152 rfl rfl rfl (ok_iret 153 rfl rfl rfl ?_)
            refine ⟨_, rfl, f, Or.inr ⟨hok, v1, fun c a b => ?_⟩⟩
            rw [v2 c a b, show i = n by omega, eW]
          · have b1 := ix8 (n := n) (i := r) (j := i) ⟨by omega, by omega⟩ ⟨by omega, by omega⟩ ⟨by omega, by omega⟩
            have b2 := ix8 (n := n) (i := i) (j := r) ⟨by omega, by omega⟩ ⟨by omega, by omega⟩ ⟨by omega, by omega⟩
            have c1 := hq r i r1.1 r1.2 i1 (by omega)
            have c2 := hq i r i1 (by omega) r1.1 r1.2
            have ob := or8 v1 (j := i) ⟨i1, by omega⟩
            have bp := bitP v1 (j := i) ⟨i1, by omega⟩
            have nx1 : RT n W r i ∧ RT n W i r → ∀ c : Int, 0 ≤ c → c < 8 → (bt (ior v (ishl 1 i)) c = true ↔ (c < i + 1 ∧ RT n W r c ∧ RT n W c r)) := fun y c a b => by
              rw [bp, bt_sB' i1 a, v2 c a b]
              constructor
              · rintro (q | q)
                · exact ⟨by omega, q.2⟩
                · subst q; exact ⟨by omega, y⟩
              · rintro ⟨q, w⟩
                by_cases u : c = i
                · exact Or.inr u
                · exact Or.inl ⟨by omega, w⟩
            have nx0 : ¬ (RT n W r i ∧ RT n W i r) → ∀ c : Int, 0 ≤ c → c < 8 → (bt (ior v (ishl 0 i)) c = true ↔ (c < i + 1 ∧ RT n W r c ∧ RT n W c r)) := fun y c a b => by
              rw [ior_z v1 ⟨i1, by omega⟩, v2 c a b]
              constructor
              · rintro q; exact ⟨by omega, q.2⟩
              · rintro ⟨q, w⟩
                by_cases u : c = i
                · subst u; exact absurd w y
                · exact ⟨by omega, w⟩
            have oz := ior_z v1 (j := i) ⟨i1, by omega⟩
            refine ok_iload 123 rfl rfl rfl (ok_aload_n 124 rfl rfl rfl (ok_getR 125 rfl rfl fl_X12_75 rfl rfl (ok_iload_n 126 rfl rfl rfl (ok_iload_n 127 rfl rfl rfl (ok_imul 128 rfl rfl (by first | omega | (simp [up_if]; omega) | (simp [up_if] at *; omega)) (ok_iload 129 rfl rfl rfl (ok_iadd 130 rfl rfl (by first | omega | (simp [up_if]; omega) | (simp [up_if] at *; omega)) (ok_zald 131 rfl rfl rfl (by first | omega | (simp [up_if]; omega) | (simp [up_if] at *; omega)) (ok_if_eq 132 254 rfl rfl rfl (fun h233 => ?_) (fun h233 => ?_))))))))))
            · refine ok_iconst 144 rfl rfl (by decide) (ok_callSI (M' := M_Mo_one) (as := [_]) 145 rfl rfl ml_X12_192 (s_Mo_one) ⟨Nat.le_of_ble_eq_true rfl, Nat.le_of_ble_eq_true rfl⟩ rfl (Nat.le_of_ble_eq_true rfl) (fun σ' z hz => ?_))
              rw [hz.1, hz.2]; clear hz z σ'
              refine ok_iload 146 rfl rfl rfl (ok_ishl 147 rfl rfl (ok_ior 148 rfl rfl (ok_ist4 149 rfl rfl rfl (ok_inc5 150 rfl rfl rfl (by first | omega | (simp [up_if]; omega) | (simp [up_if] at *; omega)) (ok_goto 151 214 rfl rfl rfl ?_)))))
              first
                | (rw [if_neg (by decide)]
                   exact ih2 _ (i + 1) ⟨by omega, by omega, ob, nx1 ⟨c1.2.mp (by omega), c2.2.mp (by omega)⟩⟩ (by omega))
                | (rw [if_pos rfl]
                   exact ih2 _ (i + 1) ⟨by omega, by omega, by rw [oz]; exact v1, nx0 (fun y => by have y1 := c1.2.mpr y.1; have y2 := c2.2.mpr y.2; omega)⟩ (by omega))
            · refine ok_aload_n 133 rfl rfl rfl (ok_getR 134 rfl rfl fl_X12_75 rfl rfl (ok_iload_n 135 rfl rfl rfl (ok_iload 136 rfl rfl rfl (ok_imul 137 rfl rfl (by first | omega | (simp [up_if]; omega) | (simp [up_if] at *; omega)) (ok_iload_n 138 rfl rfl rfl (ok_iadd 139 rfl rfl (by first | omega | (simp [up_if]; omega) | (simp [up_if] at *; omega)) (ok_zald 140 rfl rfl rfl (by first | omega | (simp [up_if]; omega) | (simp [up_if] at *; omega)) (ok_if_eq 141 254 rfl rfl rfl (fun h247 => ?_) (fun h247 => ?_)))))))))
              · refine ok_iconst 144 rfl rfl (by decide) (ok_callSI (M' := M_Mo_one) (as := [_]) 145 rfl rfl ml_X12_192 (s_Mo_one) ⟨Nat.le_of_ble_eq_true rfl, Nat.le_of_ble_eq_true rfl⟩ rfl (Nat.le_of_ble_eq_true rfl) (fun σ' z hz => ?_))
                rw [hz.1, hz.2]; clear hz z σ'
                refine ok_iload 146 rfl rfl rfl (ok_ishl 147 rfl rfl (ok_ior 148 rfl rfl (ok_ist4 149 rfl rfl rfl (ok_inc5 150 rfl rfl rfl (by first | omega | (simp [up_if]; omega) | (simp [up_if] at *; omega)) (ok_goto 151 214 rfl rfl rfl ?_)))))
                first
                  | (rw [if_neg (by decide)]
                     exact ih2 _ (i + 1) ⟨by omega, by omega, ob, nx1 ⟨c1.2.mp (by omega), c2.2.mp (by omega)⟩⟩ (by omega))
                  | (rw [if_pos rfl]
                     exact ih2 _ (i + 1) ⟨by omega, by omega, by rw [oz]; exact v1, nx0 (fun y => by have y1 := c1.2.mpr y.1; have y2 := c2.2.mpr y.2; omega)⟩ (by omega))
              · refine ok_iconst 142 rfl rfl (by decide) (ok_goto 143 255 rfl rfl rfl (ok_callSI (M' := M_Mo_one) (as := [_]) 145 rfl rfl ml_X12_192 (s_Mo_one) ⟨Nat.le_of_ble_eq_true rfl, Nat.le_of_ble_eq_true rfl⟩ rfl (Nat.le_of_ble_eq_true rfl) (fun σ' z hz => ?_)))
                rw [hz.1, hz.2]; clear hz z σ'
                refine ok_iload 146 rfl rfl rfl (ok_ishl 147 rfl rfl (ok_ior 148 rfl rfl (ok_ist4 149 rfl rfl rfl (ok_inc5 150 rfl rfl rfl (by first | omega | (simp [up_if]; omega) | (simp [up_if] at *; omega)) (ok_goto 151 214 rfl rfl rfl ?_)))))
                first
                  | (rw [if_neg (by decide)]
                     exact ih2 _ (i + 1) ⟨by omega, by omega, ob, nx1 ⟨c1.2.mp (by omega), c2.2.mp (by omega)⟩⟩ (by omega))
                  | (rw [if_pos rfl]
                     exact ih2 _ (i + 1) ⟨by omega, by omega, by rw [oz]; exact v1, nx0 (fun y => by have y1 := c1.2.mpr y.1; have y2 := c2.2.mpr y.2; omega)⟩ (by omega))
        · refine ok_iconst 62 rfl rfl (by decide) (ok_ist5 63 rfl rfl rfl ?_)
          have kn : k < n := by omega
          have ek : ((k.toNat : Nat) : Int) = k := Int.toNat_of_nonneg k1
          refine lpO2 (fun (i : Int) (_ : eS) => [some (vr 0), some (vi s), some (vi r), some (vi n), some (vi k), some (vi i), none]) (fun _ ρ => ρ) (fun i ρ => 0 ≤ i ∧ i ≤ n ∧ fr rgX σ ρ ∧ fdW ρ n W k.toNat (n * i)) (fun i _ => (n - i).toNat) ?_ 0 _ ⟨by omega, by omega, f, fun x y c d e g => by have := ix8 (n := n) (i := x) (j := y) ⟨by omega, by omega⟩ ⟨c, d⟩ ⟨e, g⟩; exact ⟨(hz x y c d e g).1, fun w => by omega, fun _ => (hz x y c d e g).2⟩⟩
          clear f hz ρ
          rintro i ρ ⟨i1, i2, f, hz⟩ ih2
          refine ok_iload 64 rfl rfl rfl (ok_iload_n 65 rfl rfl rfl (ok_icmp_ge 66 202 rfl rfl rfl (fun h116 => ?_) (fun h116 => ?_)))
          · refine ok_inc4 114 rfl rfl rfl (by first | omega | (simp [up_if]; omega) | (simp [up_if] at *; omega)) (ok_goto 115 104 rfl rfl rfl ?_)
            refine ok_fg [some (vr 0), some (vi s), some (vi r), some (vi n), some (vi (k + 1)), none, none] ⟨rfl, rfl, rfl, rfl, rfl, trivial⟩ (ih (k + 1) _ ⟨by omega, by omega, f, fun x y c d e g => ?_⟩ (by omega))
            rw [show i = n by omega] at hz
            have bx := ix8 (n := n) (i := x) (j := y) ⟨by omega, by omega⟩ ⟨c, d⟩ ⟨e, g⟩
            obtain ⟨h1, h2, -⟩ := hz x y c d e g
            rw [show (k + 1).toNat = k.toNat + 1 by omega]
            exact ⟨h1, h2 (by omega)⟩
          · refine ok_iconst 67 rfl rfl (by decide) (ok_ist6 68 rfl rfl rfl ?_)
            refine lpO2 (fun (j : Int) (_ : eS) => [some (vr 0), some (vi s), some (vi r), some (vi n), some (vi k), some (vi i), some (vi j)]) (fun _ ρ => ρ) (fun j ρ => 0 ≤ j ∧ j ≤ n ∧ fr rgX σ ρ ∧ fdW ρ n W k.toNat (n * i + j)) (fun j _ => (n - j).toNat) ?_ 0 _ ⟨by omega, by omega, f, by rw [Int.add_zero]; exact hz⟩
            clear f hz ρ
            rintro j ρ ⟨j1, j2, f, hz⟩ ih3
            refine ok_iload 69 rfl rfl rfl (ok_iload_n 70 rfl rfl rfl (ok_icmp_ge 71 196 rfl rfl rfl (fun h125 => ?_) (fun h125 => ?_)))
            · refine ok_inc5 112 rfl rfl rfl (by first | omega | (simp [up_if]; omega) | (simp [up_if] at *; omega)) (ok_goto 113 113 rfl rfl rfl ?_)
              exact ok_fg [some (vr 0), some (vi s), some (vi r), some (vi n), some (vi k), some (vi (i + 1)), none] ⟨rfl, rfl, rfl, rfl, rfl, rfl, trivial⟩ (ih2 (i + 1) _ ⟨by omega, by omega, f, by rw [show j = n by omega] at hz; rw [Int.mul_add, Int.mul_one]; exact hz⟩ (by omega))
            · have b1 := ix8 (n := n) (i := i) (j := j) ⟨by omega, by omega⟩ ⟨by omega, by omega⟩ ⟨by omega, by omega⟩
              have b2 := ix8 (n := n) (i := i) (j := k) ⟨by omega, by omega⟩ ⟨by omega, by omega⟩ ⟨by omega, by omega⟩
              have b3 := ix8 (n := n) (i := k) (j := j) ⟨by omega, by omega⟩ ⟨by omega, by omega⟩ ⟨by omega, by omega⟩
              obtain ⟨h1, -, h2⟩ := hz i j i1 (by omega) j1 (by omega)
              have h2 := h2 (Int.le_refl _)
              obtain ⟨g1, g2, g3⟩ := hz i k i1 (by omega) k1 kn
              have g4 : ρ 21 (n * i + k) = 1 ↔ WP W k.toNat i k := by
                rcases (by omega : n * i + k < n * i + j ∨ n * i + j ≤ n * i + k) with y | y
                · have x := g2 y; have w := WP_k1 (W := W) (k := k.toNat) (i := i); rw [ek] at w; exact x.trans w
                · exact g3 y
              obtain ⟨d1, d2, d3⟩ := hz k j k1 kn j1 (by omega)
              have d4 : ρ 21 (n * k + j) = 1 ↔ WP W k.toNat k j := by
                rcases (by omega : n * k + j < n * i + j ∨ n * i + j ≤ n * k + j) with y | y
                · have x := d2 y; have w := WP_k2 (W := W) (k := k.toNat) (j := j); rw [ek] at w; exact x.trans w
                · exact d3 y
              have st : WP W (k.toNat + 1) i j ↔ (WP W k.toNat i j ∨ (WP W k.toNat i k ∧ WP W k.toNat k j)) := by show (WP W k.toNat i j ∨ (WP W k.toNat i ((k.toNat : Nat) : Int) ∧ WP W k.toNat ((k.toNat : Nat) : Int) j)) ↔ _; rw [ek]
              refine ok_aload_n 72 rfl rfl rfl (ok_getR 73 rfl rfl fl_X12_75 rfl rfl (ok_iload_n 74 rfl rfl rfl (ok_iload 75 rfl rfl rfl (ok_imul 76 rfl rfl (by first | omega | (simp [up_if]; omega) | (simp [up_if] at *; omega)) (ok_iload 77 rfl rfl rfl (ok_iadd 78 rfl rfl (by first | omega | (simp [up_if]; omega) | (simp [up_if] at *; omega)) (ok_aload_n 79 rfl rfl rfl (ok_getR 80 rfl rfl fl_X12_75 rfl rfl (ok_iload_n 81 rfl rfl rfl (ok_iload 82 rfl rfl rfl (ok_imul 83 rfl rfl (by first | omega | (simp [up_if]; omega) | (simp [up_if] at *; omega)) (ok_iload 84 rfl rfl rfl (ok_iadd 85 rfl rfl (by first | omega | (simp [up_if]; omega) | (simp [up_if] at *; omega)) (ok_zald 86 rfl rfl rfl (by first | omega | (simp [up_if]; omega) | (simp [up_if] at *; omega)) (ok_if_ne 87 184 rfl rfl rfl (fun h151 => ?_) (fun h151 => ?_))))))))))))))))
              · refine ok_iconst 106 rfl rfl (by decide) (ok_goto 107 189 rfl rfl rfl (ok_zast 109 rfl rfl rfl (by first | omega | (simp [up_if]; omega) | (simp [up_if] at *; omega)) (by first | omega | (simp [up_if]; omega) | (simp [up_if] at *; omega)) (ok_inc6 110 rfl rfl rfl (by first | omega | (simp [up_if]; omega) | (simp [up_if] at *; omega)) (ok_goto 111 122 rfl rfl rfl ?_))))
                refine ih3 (j + 1) _ ⟨by omega, by omega, fr_up f (by simp [rgX]), fdW_s n1 ⟨i1, by omega⟩ ⟨j1, by omega⟩ hz (by omega) ?_⟩ (by omega)
                rw [st, ← h2, ← g4, ← d4]
                omega
              · refine ok_aload_n 88 rfl rfl rfl (ok_getR 89 rfl rfl fl_X12_75 rfl rfl (ok_iload_n 90 rfl rfl rfl (ok_iload 91 rfl rfl rfl (ok_imul 92 rfl rfl (by first | omega | (simp [up_if]; omega) | (simp [up_if] at *; omega)) (ok_iload 93 rfl rfl rfl (ok_iadd 94 rfl rfl (by first | omega | (simp [up_if]; omega) | (simp [up_if] at *; omega)) (ok_zald 95 rfl rfl rfl (by first | omega | (simp [up_if]; omega) | (simp [up_if] at *; omega)) (ok_if_eq 96 188 rfl rfl rfl (fun h166 => ?_) (fun h166 => ?_)))))))))
                · refine ok_iconst 108 rfl rfl (by decide) (ok_zast 109 rfl rfl rfl (by first | omega | (simp [up_if]; omega) | (simp [up_if] at *; omega)) (by first | omega | (simp [up_if]; omega) | (simp [up_if] at *; omega)) (ok_inc6 110 rfl rfl rfl (by first | omega | (simp [up_if]; omega) | (simp [up_if] at *; omega)) (ok_goto 111 122 rfl rfl rfl ?_)))
                  refine ih3 (j + 1) _ ⟨by omega, by omega, fr_up f (by simp [rgX]), fdW_s n1 ⟨i1, by omega⟩ ⟨j1, by omega⟩ hz (by omega) ?_⟩ (by omega)
                  rw [st, ← h2, ← g4, ← d4]
                  omega
                · refine ok_aload_n 97 rfl rfl rfl (ok_getR 98 rfl rfl fl_X12_75 rfl rfl (ok_iload_n 99 rfl rfl rfl (ok_iload 100 rfl rfl rfl (ok_imul 101 rfl rfl (by first | omega | (simp [up_if]; omega) | (simp [up_if] at *; omega)) (ok_iload 102 rfl rfl rfl (ok_iadd 103 rfl rfl (by first | omega | (simp [up_if]; omega) | (simp [up_if] at *; omega)) (ok_zald 104 rfl rfl rfl (by first | omega | (simp [up_if]; omega) | (simp [up_if] at *; omega)) (ok_if_eq 105 188 rfl rfl rfl (fun h181 => ?_) (fun h181 => ?_)))))))))
                  · refine ok_iconst 108 rfl rfl (by decide) (ok_zast 109 rfl rfl rfl (by first | omega | (simp [up_if]; omega) | (simp [up_if] at *; omega)) (by first | omega | (simp [up_if]; omega) | (simp [up_if] at *; omega)) (ok_inc6 110 rfl rfl rfl (by first | omega | (simp [up_if]; omega) | (simp [up_if] at *; omega)) (ok_goto 111 122 rfl rfl rfl ?_)))
                    refine ih3 (j + 1) _ ⟨by omega, by omega, fr_up f (by simp [rgX]), fdW_s n1 ⟨i1, by omega⟩ ⟨j1, by omega⟩ hz (by omega) ?_⟩ (by omega)
                    rw [st, ← h2, ← g4, ← d4]
                    omega
                  · refine ok_iconst 106 rfl rfl (by decide) (ok_goto 107 189 rfl rfl rfl (ok_zast 109 rfl rfl rfl (by first | omega | (simp [up_if]; omega) | (simp [up_if] at *; omega)) (by first | omega | (simp [up_if]; omega) | (simp [up_if] at *; omega)) (ok_inc6 110 rfl rfl rfl (by first | omega | (simp [up_if]; omega) | (simp [up_if] at *; omega)) (ok_goto 111 122 rfl rfl rfl ?_))))
                    refine ih3 (j + 1) _ ⟨by omega, by omega, fr_up f (by simp [rgX]), fdW_s n1 ⟨i1, by omega⟩ ⟨j1, by omega⟩ hz (by omega) ?_⟩ (by omega)
                    rw [st, ← h2, ← g4, ← d4]
                    omega
      · refine ok_iconst 28 rfl rfl (by decide) (ok_ist5 29 rfl rfl rfl ?_)
        refine lpO2 (fun (j : Int) (_ : eS) => [some (vr 0), some (vi s), some (vi r), some (vi n), some (vi k), some (vi j), none]) (fun _ ρ => ρ) (fun j ρ => 0 ≤ j ∧ j ≤ n ∧ fr rgX σ ρ ∧ fdB ρ 21 n (n * k + j) (WP W 0)) (fun j _ => (n - j).toNat) ?_ 0 _ ⟨by omega, by omega, f, by rw [Int.add_zero]; exact hz⟩
        clear f hz ρ
        rintro j ρ ⟨j1, j2, f, hz⟩ ih2
        obtain ⟨eb, e1, ec⟩ := E ρ f
        refine ok_iload 30 rfl rfl rfl (ok_iload_n 31 rfl rfl rfl (ok_icmp_ge 32 95 rfl rfl rfl (fun h50 => ?_) (fun h50 => ?_)))
        · refine ok_inc4 55 rfl rfl rfl (by first | omega | (simp [up_if]; omega) | (simp [up_if] at *; omega)) (ok_goto 56 38 rfl rfl rfl ?_)
          exact ok_fg [some (vr 0), some (vi s), some (vi r), some (vi n), some (vi (k + 1)), none, none] ⟨rfl, rfl, rfl, rfl, rfl, trivial⟩ (ih (k + 1) _ ⟨by omega, by omega, f, fdB_r (by rw [show j = n by omega] at hz; exact hz)⟩ (by omega))
        · have bm := ix8 (n := n) (i := k) (j := j) ⟨by omega, by omega⟩ ⟨by omega, by omega⟩ ⟨by omega, by omega⟩
          refine ok_aload_n 33 rfl rfl rfl (ok_getR 34 rfl rfl fl_X12_75 rfl rfl (ok_iload_n 35 rfl rfl rfl (ok_iload 36 rfl rfl rfl (ok_imul 37 rfl rfl (by first | omega | (simp [up_if]; omega) | (simp [up_if] at *; omega)) (ok_iload 38 rfl rfl rfl (ok_iadd 39 rfl rfl (by first | omega | (simp [up_if]; omega) | (simp [up_if] at *; omega)) (ok_iload 40 rfl rfl rfl (ok_iload 41 rfl rfl rfl (ok_icmp_eq 42 83 rfl rfl rfl (fun h68 => ?_) (fun h68 => ?_))))))))))
          · refine ok_iconst 49 rfl rfl (by decide) (ok_goto 50 88 rfl rfl rfl (ok_zast 52 rfl rfl rfl (by first | omega | (simp [up_if]; omega) | (simp [up_if] at *; omega)) (by first | omega | (simp [up_if]; omega) | (simp [up_if] at *; omega)) (ok_inc5 53 rfl rfl rfl (by first | omega | (simp [up_if]; omega) | (simp [up_if] at *; omega)) (ok_goto 54 47 rfl rfl rfl ?_))))
            refine ih2 (j + 1) _ ⟨by omega, by omega, fr_up f (by simp [rgX]), fdB_s n1 ⟨by omega, by omega⟩ ⟨by omega, by omega⟩ hz (by omega) ?_⟩ (by omega)
            first
              | exact ⟨fun _ => Or.inl (by omega), fun _ => rfl⟩
              | exact ⟨fun _ => Or.inr (by omega), fun _ => rfl⟩
              | exact ⟨fun y => absurd y (by decide), fun y => by rcases y with y | y <;> omega⟩
          · refine ok_aload_n 43 rfl rfl rfl (ok_iload_n 44 rfl rfl rfl (ok_iload 45 rfl rfl rfl (ok_iload 46 rfl rfl rfl (ok_callVI (M' := M_Mo_at) (as := [_, _, _]) 47 rfl rfl ml_X12_107 (s_Mo_at eb ⟨u1, u2⟩ ⟨by omega, by omega⟩ ⟨by omega, by omega⟩) rfl rfl (Nat.le_of_ble_eq_true rfl) ⟨Nat.le_of_ble_eq_true rfl, Nat.le_of_ble_eq_true rfl⟩ rfl (Nat.le_of_ble_eq_true rfl) (fun σ' z hz2 => ?_)))))
            rw [hz2.1, hz2.2, ec]; clear hz2 z σ'
            refine ok_if_le 48 87 rfl rfl rfl (fun h80 => ?_) (fun h80 => ?_)
            · refine ok_iconst 51 rfl rfl (by decide) (ok_zast 52 rfl rfl rfl (by first | omega | (simp [up_if]; omega) | (simp [up_if] at *; omega)) (by first | omega | (simp [up_if]; omega) | (simp [up_if] at *; omega)) (ok_inc5 53 rfl rfl rfl (by first | omega | (simp [up_if]; omega) | (simp [up_if] at *; omega)) (ok_goto 54 47 rfl rfl rfl ?_)))
              refine ih2 (j + 1) _ ⟨by omega, by omega, fr_up f (by simp [rgX]), fdB_s n1 ⟨by omega, by omega⟩ ⟨by omega, by omega⟩ hz (by omega) ?_⟩ (by omega)
              first
                | exact ⟨fun _ => Or.inl (by omega), fun _ => rfl⟩
                | exact ⟨fun _ => Or.inr (by omega), fun _ => rfl⟩
                | exact ⟨fun y => absurd y (by decide), fun y => by rcases y with y | y <;> omega⟩
            · refine ok_iconst 49 rfl rfl (by decide) (ok_goto 50 88 rfl rfl rfl (ok_zast 52 rfl rfl rfl (by first | omega | (simp [up_if]; omega) | (simp [up_if] at *; omega)) (by first | omega | (simp [up_if]; omega) | (simp [up_if] at *; omega)) (ok_inc5 53 rfl rfl rfl (by first | omega | (simp [up_if]; omega) | (simp [up_if] at *; omega)) (ok_goto 54 47 rfl rfl rfl ?_))))
              refine ih2 (j + 1) _ ⟨by omega, by omega, fr_up f (by simp [rgX]), fdB_s n1 ⟨by omega, by omega⟩ ⟨by omega, by omega⟩ hz (by omega) ?_⟩ (by omega)
              first
                | exact ⟨fun _ => Or.inl (by omega), fun _ => rfl⟩
                | exact ⟨fun _ => Or.inr (by omega), fun _ => rfl⟩
                | exact ⟨fun y => absurd y (by decide), fun y => by rcases y with y | y <;> omega⟩
    · refine ok_iconst 16 rfl rfl (by decide) (ok_iret 17 rfl rfl rfl ?_)
      exact ⟨_, rfl, fr.rf, Or.inl ⟨fun c => no1 a2 h23 (by have := c.2; omega), rfl⟩⟩
