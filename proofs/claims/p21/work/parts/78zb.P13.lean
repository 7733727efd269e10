theorem gF_dv (σ : eS) : ∀ k : Nat, gF σ k ∣ σ 0 4 ∧ ∀ j : Nat, j < k → gF σ k ∣ σ 4 j
  | 0 => ⟨Int.dvd_refl _, fun j h => absurd h (by omega)⟩
  | k + 1 => by
    obtain ⟨h1, h2⟩ := gF_dv σ k
    refine ⟨Int.dvd_trans (Int.gcd_dvd_left _ _) h1, fun j h => ?_⟩
    rcases (by omega : j < k ∨ j = k) with q | q
    · exact Int.dvd_trans (Int.gcd_dvd_left _ _) (h2 j q)
    · rw [q]; exact Int.gcd_dvd_right _ _
def rdP (σ τ : eS) (x y : Int) : Prop := τ 6 (x * 8 + y) = rdA σ (x * 8 + y) ∧ τ 7 (x * 8 + y) = rdU σ (x * 8 + y)
def rdN (σ τ : eS) (x y : Int) : Prop := τ 6 (x * 8 + y) = σ 6 (x * 8 + y) ∧ τ 7 (x * 8 + y) = σ 7 (x * 8 + y)
/-- which fractions are in least terms -/
def dPN (σ τ : eS) (n i j : Int) : Prop := ∀ x y, 0 ≤ x → x < n → 0 ≤ y → y < n → ((x < i ∨ (x = i ∧ y < j)) → rdP σ τ x y) ∧ (¬ (x < i ∨ (x = i ∧ y < j)) → rdN σ τ x y)
theorem dPN_cg {σ τ τ' : eS} {n i j : Int} (h : dPN σ τ n i j) (h6 : ∀ k, τ' 6 k = τ 6 k) (h7 : ∀ k, τ' 7 k = τ 7 k) : dPN σ τ' n i j := by
  intro x y a b c d
  unfold rdP rdN
  rw [h6, h7]
  exact h x y a b c d
theorem dPN_s {σ τ : eS} {n i j : Int} (h : dPN σ τ n i j) (hn : n ≤ 8) (hi : 0 ≤ i ∧ i < n) (hj : 0 ≤ j ∧ j < n) : dPN σ (up (up τ 6 (8 * i + j) (τ 6 (8 * i + j) / (Int.gcd (τ 7 (8 * i + j)) (τ 6 (8 * i + j)) : Int))) 7 (8 * i + j) (τ 7 (8 * i + j) / (Int.gcd (τ 7 (8 * i + j)) (τ 6 (8 * i + j)) : Int))) n i (j + 1) := by
  have e : 8 * i + j = i * 8 + j := by omega
  rw [e]
  intro x y a b c d
  obtain ⟨h1, h2⟩ := h x y a b c d
  by_cases q : x = i ∧ y = j
  · obtain ⟨q1, q2⟩ := q
    subst q1; subst q2
    refine ⟨fun _ => ?_, fun z => absurd (Or.inr ⟨rfl, by omega⟩) z⟩
    obtain ⟨w1, w2⟩ := h2 (by omega)
    unfold rdP rdA rdU
    rw [up_same, up_ne _ _ _ _ (by decide), up_same, w1, w2]
    exact ⟨rfl, rfl⟩
  · have ne : x * 8 + y ≠ i * 8 + j := by omega
    unfold rdP rdN
    rw [up_ne _ _ _ _ (by decide), up_nk _ _ _ _ ne, up_nk _ _ _ _ ne, up_ne _ _ _ _ (by decide)]
    exact ⟨fun z => h1 (by omega), fun z => h2 (by omega)⟩
theorem dPN_r {σ τ : eS} {n i : Int} (h : dPN σ τ n i n) : dPN σ τ n (i + 1) 0 := fun x y a b c d => ⟨fun q => (h x y a b c d).1 (by omega), fun q => (h x y a b c d).2 (by omega)⟩
theorem rd_one {σ : eS} {k : Int} (h : uOk σ k) : 1 ≤ rdU σ k ∧ Int.gcd (rdU σ k) (rdA σ k) = 1 := by
  obtain ⟨u1, u2, u3, u4⟩ := h
  obtain ⟨g1, g2⟩ := gcd_pos (a := σ 7 k) (b := σ 6 k) (by omega)
  unfold rdU rdA
  exact ⟨(gcd_div u1 g1 g2).1, Int.gcd_ediv_gcd_ediv_gcd (by omega)⟩
theorem dm_n {k n : Int} (hn : 0 ≤ n) (h0 : 0 ≤ k) (h1 : k < n * n) : ∃ x y : Int, 0 ≤ x ∧ x < n ∧ 0 ≤ y ∧ y < n ∧ k = n * x + y := by
  have n0 : 0 < n := by
    rcases (by omega : n = 0 ∨ 0 < n) with q | q
    · rw [q] at h1; omega
    · exact q
  exact ⟨k / n, k % n, Int.ediv_nonneg h0 hn, Int.ediv_lt_of_lt_mul n0 h1, Int.emod_nonneg _ (by omega), Int.emod_lt_of_pos _ n0, (Int.mul_ediv_add_emod k n).symm⟩
theorem nx_lt {n x y i : Int} (hy : y < n) (hn : 0 ≤ n) (hx : x < i) : n * x + y < n * i := by
  have := Int.mul_le_mul_of_nonneg_left (by omega : x + 1 ≤ i) hn
  rw [Int.mul_add] at this
  omega
/-- all fractions over one number, exactly -/
def OV (σ : eS) (s : Int) (σ' : eS) (z : Int) : Prop := (z = 0 ∧ (cbC (rdU σ) (σ 0 18).toNat (σ 0 18).toNat = -1 ∨ ¬ cOk (rdA σ) (rdU σ) (cbC (rdU σ) (σ 0 18).toNat (σ 0 18).toNat) (σ 0 18)) ∧ ∀ k, σ' 1 k = σ 1 k ∧ σ' 2 k = σ 2 k ∧ σ' 3 k = σ 3 k) ∨ (z = 1 ∧ 1 ≤ cbC (rdU σ) (σ 0 18).toNat (σ 0 18).toNat ∧ cOk (rdA σ) (rdU σ) (cbC (rdU σ) (σ 0 18).toNat (σ 0 18).toNat) (σ 0 18) ∧ (∀ k, σ' 1 k = if k = s then σ 0 18 else σ 1 k) ∧ (∀ k, σ' 2 k = if k = s then (if σ 0 18 = 0 then 0 else cbC (rdU σ) (σ 0 18).toNat (σ 0 18).toNat) else σ 2 k) ∧ (∀ k, ¬ (64 * s ≤ k ∧ k < 64 * s + σ 0 18 * σ 0 18) → σ' 3 k = σ 3 k) ∧ ∀ i j, 0 ≤ i → i < σ 0 18 → 0 ≤ j → j < σ 0 18 → σ' 3 (64 * s + (σ 0 18 * i + j)) = rdA σ (i * 8 + j) * (cbC (rdU σ) (σ 0 18).toNat (σ 0 18).toNat / rdU σ (i * 8 + j)))
/-- behind the second loop -/
def frP (σ τ : eS) (n b : Int) : Prop := τ 0 4 = b ∧ (∀ x y, 0 ≤ x → x < n → 0 ≤ y → y < n → rdP σ τ x y) ∧ ∀ x y, 0 ≤ x → x < n → 0 ≤ y → y < n → τ 4 (n * x + y) = rdA σ (x * 8 + y) * (b / rdU σ (x * 8 + y))
theorem OV_tk {σ τ σ' : eS} {s n z b : Int} (en : n = σ 0 18) (hn : 0 ≤ n ∧ n ≤ 8) (hu : uRows σ n n) (hb : b = cbC (rdU σ) n.toNat n.toNat) (hb1 : 1 ≤ b) (hb2 : b ≤ 999999) (hf : ∀ k, τ 1 k = σ 1 k ∧ τ 2 k = σ 2 k ∧ τ 3 k = σ 3 k) (hP : frP σ τ n b) (hq : Qtk τ s n σ' z) : OV σ s σ' z := by
  obtain ⟨p1, p2, p3⟩ := hP
  have g1 : gF τ (n * n).toNat = 1 := by
    obtain ⟨d1, d2⟩ := gF_dv τ (n * n).toNat
    have gp := gF_bd (σ := τ) (by omega) (n * n).toNat
    refine lt_one (ab := rdA σ) hb hb1 gp.1 (by rw [← p1]; exact d1) (fun x y hx hy => ?_) (fun x y hx hy => ?_)
    · refine rd_one ?_
      have := hu x y (by omega) (by omega) (by omega) (by omega)
      rw [show (x : Int) * 8 + y = 8 * x + y by omega]; exact this
    · have h1 := nx_lt (n := n) (x := x) (y := y) (i := n) (by omega) (by omega) (by omega)
      have h0 : 0 ≤ n * (x : Int) := Int.mul_nonneg (by omega) (by omega)
      have := d2 (n * (x : Int) + y).toNat (by omega)
      rw [show (((n * (x : Int) + y).toNat : Nat) : Int) = n * x + y by omega, p3 x y (by omega) (by omega) (by omega) (by omega)] at this
      exact this
  have hft : fitT τ n ↔ cOk (rdA σ) (rdU σ) b n := by
    unfold fitT
    rw [g1, p1, Int.ediv_one]
    constructor
    · rintro ⟨-, q⟩ i j a b' c d
      have h1 := nx_lt (n := n) (x := i) (y := j) (i := n) d (by omega) b'
      have h0 : 0 ≤ n * i := Int.mul_nonneg (by omega) a
      have := q (n * i + j) (by omega) h1
      rw [Int.ediv_one, p3 i j a b' c d] at this
      exact this
    · intro q
      refine ⟨hb2, fun k a b' => ?_⟩
      obtain ⟨x, y, x1, x2, x3, x4, x5⟩ := dm_n hn.1 a b'
      rw [Int.ediv_one, x5, p3 x y x1 x2 x3 x4]
      exact q x y x1 x2 x3 x4
  rw [hb] at hb1
  unfold OV
  rw [← en]
  rcases hq with ⟨q1, q2, q3⟩ | ⟨q1, q2, q3⟩
  · rw [hft, hb] at q3
    exact Or.inl ⟨q1, Or.inr q3, fun k => by rw [q2]; exact hf k⟩
  · rw [hft, hb] at q3
    refine Or.inr ⟨q1, hb1, q3, fun k => ?_, fun k => ?_, fun k hk => ?_, fun i j a b' c d => ?_⟩
    · rw [q2]
      simp only [tw]
      simp
      split
      · rfl
      · exact (hf k).1
    · rw [q2, g1, p1, Int.ediv_one, hb]
      simp only [tw]
      simp
      split
      · rfl
      · exact (hf k).2.1
    · rw [q2]
      simp only [tw]
      rw [if_neg (by omega), if_neg (by omega), if_neg (by omega)]
      exact (hf k).2.2
    · have h1 := nx_lt (n := n) (x := i) (y := j) (i := n) d (by omega) b'
      have h0 : 0 ≤ n * i := Int.mul_nonneg (by omega) a
      rw [q2, g1]
      simp only [tw]
      rw [if_neg (by omega), if_neg (by omega), if_pos ⟨trivial, by omega, by omega⟩, Int.ediv_one, show 64 * s + (n * i + j) - 64 * s = n * i + j by omega, p3 i j a b' c d, hb]
theorem t_Mo_isOver {σ : eS} {s : Int} (hB : iB1 σ) (hs : 0 ≤ s ∧ s < 4) (hr : 0 ≤ σ 0 18 ∧ σ 0 18 ≤ 8) (hu : uRows σ (σ 0 18) (σ 0 18)) : MtI shB M_Mo_isOver [vr 0, vi s] σ (fun σ' z => QO σ σ' z ∧ OV σ s σ' z) := by
  refine Mt.of okM_Mo_isOver (Nat.le_of_ble_eq_true rfl) (fun hk hg => ?_)
  obtain ⟨n, en⟩ : ∃ x, x = σ 0 18 := ⟨_, rfl⟩
  rw [← en] at hr hu
  obtain ⟨un, eun⟩ : ∃ f, f = rdU σ := ⟨_, rfl⟩
  have hB' : ∀ τ : eS, fr (fun c k => (c = 0 ∧ k = 4) ∨ c = 4 ∨ c = 6 ∨ c = 7) σ τ → (∀ k, 0 ≤ k → k < 64 → 0 ≤ τ 4 k) → iB1 τ := fun τ f g => ⟨fun t a b => by rw [f 1 t (by omega), f 2 t (by omega)]; exact hB.1 t a b, fun k a b => by rw [f 3 k (by omega)]; exact hB.2.1 k a b, g⟩
  refine ok_aload_n 0 rfl rfl rfl (ok_lconst (w := 1) 1 rfl rfl rfl (by decide) (ok_putL 2 rfl rfl fl_X12_85 rfl rfl rfl rfl (ok_iconst 3 rfl rfl (by decide) (ok_ist2 4 rfl rfl rfl ?_))))
  refine lpO2 (fun (i : Int) (_ : eS) => [some (vr 0), some (vi s), some (vi i), none, none, none, none]) (fun _ τ => τ) (fun i τ => 0 ≤ i ∧ i ≤ n ∧ fr (fun c k => (c = 0 ∧ k = 4) ∨ c = 6 ∨ c = 7) σ τ ∧ 1 ≤ τ 0 4 ∧ τ 0 4 ≤ 999999 ∧ uRows τ n n ∧ dPN σ τ n i 0 ∧ τ 0 4 = cbC un n.toNat i.toNat) (fun i _ => (n - i).toNat) ?_ 0 _ ⟨by omega, by omega, fr_up fr.rf (by omega), by rw [up_same]; omega, by rw [up_same]; omega, fun i j a b c d => by unfold uOk; rw [up_ne _ _ _ _ (by decide), up_ne _ _ _ _ (by decide)]; exact hu i j a b c d, fun x y a b c d => ⟨fun q => by omega, fun q => by unfold rdN; rw [up_ne _ _ _ _ (by decide), up_ne _ _ _ _ (by decide)]; exact ⟨rfl, rfl⟩⟩, by rw [up_same]; rfl⟩
  rintro i τ ⟨i1, i2, i3, i4, i5, i6, i7, i8⟩ ih
  have e18 : τ 0 18 = n := by rw [i3 0 18 (by omega)]; exact en.symm
  refine ok_iload_n 5 rfl rfl rfl (ok_aload_n 6 rfl rfl rfl (ok_getI 7 rfl rfl fl_X12_167 rfl rfl (Or.inl rfl) (ok_icmp_ge 8 138 rfl rfl rfl (fun h12 => ?_) (fun h12 => ?_))))
  · refine ok_iconst 81 rfl rfl (by decide) (ok_ist2 82 rfl rfl rfl ?_)
    have hbb : τ 0 4 = cbC un n.toNat n.toNat := by rw [i8, show i = n by omega]
    have hpp : ∀ x y, 0 ≤ x → x < n → 0 ≤ y → y < n → rdP σ τ x y := fun x y a b c d => (i7 x y a b c d).1 (by omega)
    obtain ⟨b, eb⟩ : ∃ b, b = cbC un n.toNat n.toNat := ⟨_, rfl⟩
    rw [← eb] at hbb
    have hb1 : 1 ≤ b := by omega
    have hb2 : b ≤ 999999 := by omega
    refine lpO2 (fun (i : Int) (_ : eS) => [some (vr 0), some (vi s), some (vi i), none, none, none, none]) (fun _ τ => τ) (fun i τ => 0 ≤ i ∧ i ≤ n ∧ fr (fun c k => (c = 0 ∧ k = 4) ∨ c = 4 ∨ c = 6 ∨ c = 7) σ τ ∧ 1 ≤ τ 0 4 ∧ τ 0 4 ≤ 999999 ∧ uRows τ n n ∧ (∀ k, 0 ≤ k → k < 64 → 0 ≤ τ 4 k) ∧ τ 0 4 = b ∧ (∀ x y, 0 ≤ x → x < n → 0 ≤ y → y < n → rdP σ τ x y) ∧ ∀ x y, 0 ≤ x → x < i → 0 ≤ y → y < n → τ 4 (n * x + y) = rdA σ (x * 8 + y) * (b / rdU σ (x * 8 + y))) (fun i _ => (n - i).toNat) ?_ 0 τ ⟨by omega, by omega, i3.mono (fun c k q => by omega), i4, i5, i6, fun k a b => by rw [i3 4 k (by omega)]; exact hB.2.2 k a b, hbb, hpp, fun x y a b => by omega⟩
    clear hbb hpp i1 i2 i3 i4 i5 i6 i7 i8 e18 h12 ih i τ
    rintro i τ ⟨i1, i2, i3, i4, i5, i6, i7, i8, i9, i10⟩ ih
    have e18 : τ 0 18 = n := by rw [i3 0 18 (by omega)]; exact en.symm
    refine ok_iload_n 83 rfl rfl rfl (ok_aload_n 84 rfl rfl rfl (ok_getI 85 rfl rfl fl_X12_167 rfl rfl (Or.inl rfl) (ok_icmp_ge 86 213 rfl rfl rfl (fun h145 => ?_) (fun h145 => ?_))))
    · refine ok_aload_n 128 rfl rfl rfl (ok_iload_n 129 rfl rfl rfl (ok_aload_n 130 rfl rfl rfl (ok_getI 131 rfl rfl fl_X12_167 rfl rfl (Or.inl rfl) (ok_callVI (M' := M_Mo_takes) (as := [_, _]) 132 rfl rfl ml_X12_179 (s_Mo_takes hs (by omega) i4 (by rw [e18]; intro k a b; have := sq8 hr; exact i7 k a (by omega))) rfl rfl (Nat.le_of_ble_eq_true rfl) ⟨Nat.le_of_ble_eq_true rfl, Nat.le_of_ble_eq_true rfl⟩ rfl (Nat.le_of_ble_eq_true rfl) (fun σ' z hz => ?_)))))
      have f0 : fr rgO σ τ := i3.mono (fun c k q => by simp only [rgO]; omega)
      refine ok_zret 133 rfl rfl rfl (by rcases hz with q | q <;> omega) ?_
      refine ⟨_, rfl, ?_, OV_tk en hr hu (by rw [eb, eun]) hb1 hb2 (fun k => ⟨i3 1 k (by omega), i3 2 k (by omega), i3 3 k (by omega)⟩) ⟨i8, i9, fun x y a1 a2 a3 a4 => i10 x y a1 (by omega) a3 a4⟩ (by rw [e18] at hz; exact hz)⟩
      rcases hz with ⟨hz, rfl, -⟩ | ⟨hz, rfl, hft⟩
      · exact ⟨f0, hB' _ i3 i7, Or.inl hz⟩
      · refine ⟨f0.tr (fun c k q => ?_), ?_, Or.inr hz⟩
        · simp only [rgO] at q
          simp only [tw]
          rw [if_neg (by omega), if_neg (by omega), if_neg (by omega)]
        · rw [e18] at hft ⊢
          obtain ⟨gp, gl⟩ := gF_bd i4 (n * n).toNat
          refine tw_B (hB' _ i3 i7) hs hr (fun q => ?_) (fun k a b => ?_)
          · rw [if_neg (by omega)]
            exact ⟨(gcd_div i4 gp gl).1, hft.1⟩
          · exact ⟨Int.ediv_nonneg (i7 k a (by have := sq8 hr; omega)) (by omega), hft.2 k a b⟩
    · refine ok_iconst 87 rfl rfl (by decide) (ok_ist3 88 rfl rfl rfl ?_)
      refine lpO2 (fun (j : Int) (_ : eS) => [some (vr 0), some (vi s), some (vi i), some (vi j), none, none, none]) (fun _ τ => τ) (fun j τ => 0 ≤ j ∧ j ≤ n ∧ fr (fun c k => (c = 0 ∧ k = 4) ∨ c = 4 ∨ c = 6 ∨ c = 7) σ τ ∧ 1 ≤ τ 0 4 ∧ τ 0 4 ≤ 999999 ∧ uRows τ n n ∧ (∀ k, 0 ≤ k → k < 64 → 0 ≤ τ 4 k) ∧ τ 0 4 = b ∧ (∀ x y, 0 ≤ x → x < n → 0 ≤ y → y < n → rdP σ τ x y) ∧ (∀ x y, 0 ≤ x → x < i → 0 ≤ y → y < n → τ 4 (n * x + y) = rdA σ (x * 8 + y) * (b / rdU σ (x * 8 + y))) ∧ ∀ y, 0 ≤ y → y < j → τ 4 (n * i + y) = rdA σ (i * 8 + y) * (b / rdU σ (i * 8 + y))) (fun j _ => (n - j).toNat) ?_ 0 _ ⟨by omega, by omega, i3, i4, i5, i6, i7, i8, i9, i10, fun y a b => by omega⟩
      have hin : i < n := by omega
      clear i3 i4 i5 i6 i7 i8 i9 i10 e18
      rintro j τ ⟨j1, j2, i3, i4, i5, i6, i7, i8, i9, i10, i11⟩ ih2
      have e18 : τ 0 18 = n := by rw [i3 0 18 (by omega)]; exact en.symm
      refine ok_iload_n 89 rfl rfl rfl (ok_aload_n 90 rfl rfl rfl (ok_getI 91 rfl rfl fl_X12_167 rfl rfl (Or.inl rfl) (ok_icmp_ge 92 207 rfl rfl rfl (fun h155 => ?_) (fun h155 => ?_))))
      · refine ok_inc2 126 rfl rfl rfl (by first | omega | (simp [up_if]; omega) | (simp [up_if] at *; omega)) (ok_goto 127 140 rfl rfl rfl ?_)
        refine ok_fg [some (vr 0), some (vi s), some (vi (i + 1)), none, none, none, none] ⟨rfl, rfl, rfl, trivial⟩ (ih (i + 1) τ ⟨by omega, by omega, i3, i4, i5, i6, i7, i8, i9, fun x y a1 a2 a3 a4 => by
          rcases (by omega : x < i ∨ x = i) with q | q
          · exact i10 x y a1 q a3 a4
          · rw [q]; exact i11 y a3 (by omega)⟩ (by omega))
      · have uk := i6 i j (by omega) (by omega) (by omega) (by omega)
        obtain ⟨u1, u2, u3, u4⟩ := id uk
        obtain ⟨x1, x2, x3, x4⟩ := ix8 (n := n) (i := i) (j := j) hr ⟨by omega, by omega⟩ ⟨by omega, by omega⟩
        obtain ⟨d1, d2⟩ := div_bd (u := τ 0 4) (g := τ 7 (8 * i + j)) (B := 999999) ⟨by omega, by omega⟩ u1
        obtain ⟨d7, d8⟩ := mul_bd (a := τ 6 (8 * i + j)) (b := τ 0 4 / τ 7 (8 * i + j)) (A := 999999) (B := 999999) ⟨by omega, by omega⟩ ⟨by omega, by omega⟩
        refine ok_aload_n 93 rfl rfl rfl (ok_getR 94 rfl rfl fl_X12_19 rfl rfl (ok_aload_n 95 rfl rfl rfl (ok_getI 96 rfl rfl fl_X12_167 rfl rfl (Or.inl rfl) (ok_iload_n 97 rfl rfl rfl (ok_imul 98 rfl rfl (by rw [e18]; omega) (ok_iload_n 99 rfl rfl rfl (ok_iadd 100 rfl rfl (by rw [e18]; omega) (ok_aload_n 101 rfl rfl rfl (ok_getR 102 rfl rfl fl_X12_30 rfl rfl (ok_bipush 103 rfl rfl (by decide) (by decide) (ok_iload_n 104 rfl rfl rfl (ok_imul 105 rfl rfl (by first | omega | (simp [up_if]; omega) | (simp [up_if] at *; omega)) (ok_iload_n 106 rfl rfl rfl (ok_iadd 107 rfl rfl (by first | omega | (simp [up_if]; omega) | (simp [up_if] at *; omega)) (ok_iald 108 rfl rfl rfl (by first | omega | (simp [up_if]; omega) | (simp [up_if] at *; omega)) (ok_i2l 109 rfl rfl (ok_aload_n 110 rfl rfl rfl (ok_getL 111 rfl rfl fl_X12_85 rfl rfl (ok_aload_n 112 rfl rfl rfl (ok_getR 113 rfl rfl fl_X12_33 rfl rfl (ok_bipush 114 rfl rfl (by decide) (by decide) (ok_iload_n 115 rfl rfl rfl (ok_imul 116 rfl rfl (by first | omega | (simp [up_if]; omega) | (simp [up_if] at *; omega)) (ok_iload_n 117 rfl rfl rfl (ok_iadd 118 rfl rfl (by first | omega | (simp [up_if]; omega) | (simp [up_if] at *; omega)) (ok_iald 119 rfl rfl rfl (by first | omega | (simp [up_if]; omega) | (simp [up_if] at *; omega)) (ok_i2l 120 rfl rfl (ok_ldiv 121 rfl rfl (by first | omega | (simp [up_if]; omega) | (simp [up_if] at *; omega)) (by first | omega | (simp [up_if]; omega) | (simp [up_if] at *; omega)) (ok_lmul 122 rfl rfl (by first | omega | (simp [up_if]; omega) | (simp [up_if] at *; omega)) (ok_last 123 rfl rfl rfl (by rw [e18]; omega) (ok_inc3 124 rfl rfl rfl (by first | omega | (simp [up_if]; omega) | (simp [up_if] at *; omega)) (ok_goto 125 150 rfl rfl rfl ?_))))))))))))))))))))))))))))))))
        rw [e18]
        refine ih2 (j + 1) _ ⟨by omega, by omega, fr_up i3 (by simp), by rw [up_ne _ _ _ _ (by decide)]; omega, by rw [up_ne _ _ _ _ (by decide)]; omega, fun a b a1 a2 a3 a4 => ?_, ?_, by rw [up_ne _ _ _ _ (by decide)]; exact i8, fun x y a1 a2 a3 a4 => ?_, fun x y a1 a2 a3 a4 => ?_, fun y a1 a2 => ?_⟩ (by omega)
        · unfold uOk
          rw [up_ne _ _ _ _ (by decide), up_ne _ _ _ _ (by decide)]
          exact i6 a b a1 a2 a3 a4
        · intro k a b
          rw [up_if]
          split
          · exact d7
          · exact i7 k a (by omega)
        · unfold rdP
          rw [up_ne _ _ _ _ (by decide), up_ne _ _ _ _ (by decide)]
          exact i9 x y a1 a2 a3 a4
        · have := nx_lt (n := n) (x := x) (y := y) (i := i) a4 (by omega) a2
          rw [up_nk _ _ _ _ (by omega)]
          exact i10 x y a1 a2 a3 a4
        · rcases (by omega : y < j ∨ y = j) with q | q
          · rw [up_nk _ _ _ _ (by omega)]; exact i11 y a1 q
          · obtain ⟨w1, w2⟩ := i9 i j (by omega) (by omega) (by omega) (by omega)
            rw [q, up_same, show 8 * i + j = i * 8 + j by omega, w1, w2, i8]
  · refine ok_iconst 9 rfl rfl (by decide) (ok_ist3 10 rfl rfl rfl ?_)
    refine lpO2 (fun (j : Int) (_ : eS) => [some (vr 0), some (vi s), some (vi i), some (vi j), none, none, none]) (fun _ τ => τ) (fun j τ => 0 ≤ j ∧ j ≤ n ∧ fr (fun c k => (c = 0 ∧ k = 4) ∨ c = 6 ∨ c = 7) σ τ ∧ 1 ≤ τ 0 4 ∧ τ 0 4 ≤ 999999 ∧ uRows τ n n ∧ dPN σ τ n i j ∧ τ 0 4 = cbR un i (cbC un n.toNat i.toNat) j.toNat) (fun j _ => (n - j).toNat) ?_ 0 _ ⟨by omega, by omega, i3, i4, i5, i6, i7, i8⟩
    have hin : i < n := by omega
    clear i3 i4 i5 i6 i7 i8 e18
    rintro j τ ⟨j1, j2, i3, i4, i5, i6, i7, i8⟩ ih2
    have e18 : τ 0 18 = n := by rw [i3 0 18 (by omega)]; exact en.symm
    refine ok_iload_n 11 rfl rfl rfl (ok_aload_n 12 rfl rfl rfl (ok_getI 13 rfl rfl fl_X12_167 rfl rfl (Or.inl rfl) (ok_icmp_ge 14 132 rfl rfl rfl (fun h22 => ?_) (fun h22 => ?_))))
    · refine ok_inc2 79 rfl rfl rfl (by first | omega | (simp [up_if]; omega) | (simp [up_if] at *; omega)) (ok_goto 80 7 rfl rfl rfl ?_)
      exact ok_fg [some (vr 0), some (vi s), some (vi (i + 1)), none, none, none, none] ⟨rfl, rfl, rfl, trivial⟩ (ih (i + 1) τ ⟨by omega, by omega, i3, i4, i5, i6, dPN_r (by rw [show j = n by omega] at i7; exact i7), by rw [i8, cbC_s i1, show j = n by omega]⟩ (by omega))
    · have uk := i6 i j (by omega) (by omega) (by omega) (by omega)
      obtain ⟨u1, u2, u3, u4⟩ := id uk
      obtain ⟨g1, g2⟩ := gcd_pos (a := τ 7 (8 * i + j)) (b := τ 6 (8 * i + j)) (by omega)
      obtain ⟨d1, d2⟩ := div_bd (B := 999999) ⟨u3, u4⟩ g1
      obtain ⟨d3, d4⟩ := gcd_div u1 g1 g2
      refine ok_bipush 15 rfl rfl (by decide) (by decide) (ok_iload_n 16 rfl rfl rfl (ok_imul 17 rfl rfl (by first | omega | (simp [up_if]; omega) | (simp [up_if] at *; omega)) (ok_iload_n 18 rfl rfl rfl (ok_iadd 19 rfl rfl (by first | omega | (simp [up_if]; omega) | (simp [up_if] at *; omega)) (ok_ist4 20 rfl rfl rfl (ok_aload_n 21 rfl rfl rfl (ok_getR 22 rfl rfl fl_X12_33 rfl rfl (ok_iload 23 rfl rfl rfl (ok_iald 24 rfl rfl rfl (by first | omega | (simp [up_if]; omega) | (simp [up_if] at *; omega)) (ok_i2l 25 rfl rfl (ok_aload_n 26 rfl rfl rfl (ok_getR 27 rfl rfl fl_X12_30 rfl rfl (ok_iload 28 rfl rfl rfl (ok_iald 29 rfl rfl rfl (by first | omega | (simp [up_if]; omega) | (simp [up_if] at *; omega)) (ok_i2l 30 rfl rfl (ok_callSL (M' := M_Mo_common) (as := [_, _]) 31 rfl rfl ml_X12_89 (s_Mo_common (by omega) (by omega)) ⟨Nat.le_of_ble_eq_true rfl, Nat.le_of_ble_eq_true rfl⟩ rfl (Nat.le_of_ble_eq_true rfl) (fun σ' z hz => ?_)))))))))))))))))
      rw [hz.1, hz.2]
      clear hz z σ'
      refine ok_lst5 32 rfl rfl rfl (ok_aload_n 33 rfl rfl rfl (ok_getR 34 rfl rfl fl_X12_30 rfl rfl (ok_iload 35 rfl rfl rfl (ok_dup2 36 rfl rfl ⟨rfl, rfl⟩ (ok_iald 37 rfl rfl rfl (by first | omega | (simp [up_if]; omega) | (simp [up_if] at *; omega)) (ok_lload 38 rfl rfl rfl (ok_l2i 39 rfl rfl (by first | omega | (simp [up_if]; omega) | (simp [up_if] at *; omega)) (ok_idiv 40 rfl rfl (by omega) (by omega) (ok_iast 41 rfl rfl rfl (by first | omega | (simp [up_if]; omega) | (simp [up_if] at *; omega)) (ok_aload_n 42 rfl rfl rfl (ok_getR 43 rfl rfl fl_X12_33 rfl rfl (ok_iload 44 rfl rfl rfl (ok_dup2 45 rfl rfl ⟨rfl, rfl⟩ (ok_iald 46 rfl rfl rfl (by first | omega | (simp [up_if]; omega) | (simp [up_if] at *; omega)) (ok_lload 47 rfl rfl rfl (ok_l2i 48 rfl rfl (by first | omega | (simp [up_if]; omega) | (simp [up_if] at *; omega)) (ok_idiv 49 rfl rfl (by simp only [up_ne _ _ _ _ (show (7 : Nat) ≠ 6 by decide)]; omega) (by omega) (ok_iast 50 rfl rfl rfl (by first | omega | (simp [up_if]; omega) | (simp [up_if] at *; omega)) ?_))))))))))))))))))
      obtain ⟨ρ, er⟩ : ∃ x, x = up (up τ 6 (8 * i + j) (τ 6 (8 * i + j) / (Int.gcd (τ 7 (8 * i + j)) (τ 6 (8 * i + j)) : Int))) 7 (8 * i + j) (τ 7 (8 * i + j) / (Int.gcd (τ 7 (8 * i + j)) (τ 6 (8 * i + j)) : Int)) := ⟨_, rfl⟩
      have f1 : fr (fun c k => (c = 0 ∧ k = 4) ∨ c = 6 ∨ c = 7) σ ρ := by rw [er]; exact fr_up (fr_up i3 (by simp)) (by simp)
      have b4 : ρ 0 4 = τ 0 4 := by rw [er]; simp [up_if]
      have r18 : ρ 0 18 = n := by rw [f1 0 18 (by omega)]; exact en.symm
      have b7 : 1 ≤ ρ 7 (8 * i + j) ∧ ρ 7 (8 * i + j) ≤ 999999 := by rw [er]; simp [up_if]; omega
      have b8 : uRows ρ n n := by
        intro a b a1 a2 a3 a4
        have := i6 a b a1 a2 a3 a4
        by_cases q : 8 * a + b = 8 * i + j
        · rw [q, er]; unfold uOk; simp [up_if]; omega
        · rw [er]; unfold uOk; simp [up_if, q]; exact this
      have b9 : dPN σ ρ n i (j + 1) := by rw [er]; exact dPN_s i7 (by omega) ⟨by omega, by omega⟩ ⟨by omega, by omega⟩
      have b10 : ρ 7 (8 * i + j) = un (i * 8 + j) := by
        have := ((b9 i j (by omega) (by omega) (by omega) (by omega)).1 (by omega)).2
        rw [show 8 * i + j = i * 8 + j by omega, eun]; exact this
      have b11 : cbR un i (cbC un n.toNat i.toNat) (j + 1).toNat = lcS (ρ 0 4) (ρ 7 (8 * i + j)) 999999 := by rw [cbR_s j1, ← i8, b4, b10]
      unfold lcS at b11
      rw [if_neg (by omega)] at b11
      obtain ⟨g5, g6⟩ := gcd_pos (a := ρ 0 4) (b := ρ 7 (8 * i + j)) (by omega)
      obtain ⟨d5, d6⟩ := gcd_div (by omega : 1 ≤ ρ 0 4) g5 g6
      obtain ⟨d7, d8⟩ := mul_bd (a := ρ 0 4 / (Int.gcd (ρ 0 4) (ρ 7 (8 * i + j)) : Int)) (b := ρ 7 (8 * i + j)) (A := 999999) (B := 999999) ⟨by omega, by omega⟩ ⟨by omega, by omega⟩
      have d9 := Int.mul_pos (by omega : 0 < ρ 0 4 / (Int.gcd (ρ 0 4) (ρ 7 (8 * i + j)) : Int)) (by omega : 0 < ρ 7 (8 * i + j))
      simp only [up_ne _ _ _ _ (show (7 : Nat) ≠ 6 by decide)]
      rw [← er]
      refine ok_aload_n 51 rfl rfl rfl (ok_aload_n 52 rfl rfl rfl (ok_getL 53 rfl rfl fl_X12_85 rfl rfl (ok_aload_n 54 rfl rfl rfl (ok_getL 55 rfl rfl fl_X12_85 rfl rfl (ok_aload_n 56 rfl rfl rfl (ok_getR 57 rfl rfl fl_X12_33 rfl rfl (ok_iload 58 rfl rfl rfl (ok_iald 59 rfl rfl rfl (by first | omega | (simp [up_if]; omega) | (simp [up_if] at *; omega)) (ok_i2l 60 rfl rfl (ok_callSL (M' := M_Mo_common) (as := [_, _]) 61 rfl rfl ml_X12_89 (s_Mo_common (by omega) (by omega)) ⟨Nat.le_of_ble_eq_true rfl, Nat.le_of_ble_eq_true rfl⟩ rfl (Nat.le_of_ble_eq_true rfl) (fun σ' z hz => ?_)))))))))))
      rw [hz.1, hz.2]
      clear hz z σ'
      refine ok_ldiv 62 rfl rfl (by first | omega | (simp [up_if]; omega) | (simp [up_if] at *; omega)) (by first | omega | (simp [up_if]; omega) | (simp [up_if] at *; omega)) (ok_aload_n 63 rfl rfl rfl (ok_getR 64 rfl rfl fl_X12_33 rfl rfl (ok_iload 65 rfl rfl rfl (ok_iald 66 rfl rfl rfl (by first | omega | (simp [up_if]; omega) | (simp [up_if] at *; omega)) (ok_i2l 67 rfl rfl (ok_lmul 68 rfl rfl (by first | omega | (simp [up_if]; omega) | (simp [up_if] at *; omega)) (ok_putL 69 rfl rfl fl_X12_85 rfl rfl rfl rfl (ok_aload_n 70 rfl rfl rfl (ok_getL 71 rfl rfl fl_X12_85 rfl rfl (ok_ldc2 72 (999999) rfl rfl kc_X12_93 (by decide) (ok_lcmp_le 73 74 126 rfl rfl rfl rfl rfl (fun h120 => ?_) (fun h120 => ?_))))))))))))
      · refine ok_inc3 77 rfl rfl rfl (by first | omega | (simp [up_if]; omega) | (simp [up_if] at *; omega)) (ok_goto 78 17 rfl rfl rfl ?_)
        rw [up_same] at h120
        refine ok_fg [some (vr 0), some (vi s), some (vi i), some (vi (j + 1)), none, none, none] ⟨rfl, rfl, rfl, rfl, trivial⟩ (ih2 (j + 1) _ ⟨by omega, by omega, fr_up f1 (by omega), by rw [up_same]; omega, by rw [up_same]; omega, fun a b a1 a2 a3 a4 => ?_, dPN_cg b9 (fun k => up_ne _ _ _ _ (by decide)) (fun k => up_ne _ _ _ _ (by decide)), by rw [up_same, b11, if_neg (by omega)]⟩ (by omega))
        unfold uOk
        rw [up_ne _ _ _ _ (by decide), up_ne _ _ _ _ (by decide)]
        exact b8 a b a1 a2 a3 a4
      · refine ok_iconst 75 rfl rfl (by decide) (ok_zret 76 rfl rfl rfl (by first | omega | (simp [up_if]; omega) | (simp [up_if] at *; omega)) ?_)
        rw [up_same] at h120
        have nb : cbC un n.toNat n.toNat = -1 := by
          refine cbC_neg (i := (i + 1).toNat) (by omega) ?_
          rw [cbC_s i1]
          refine cbR_neg (j := (j + 1).toNat) (by omega) ?_
          rw [b11, if_pos (by omega)]
        exact ⟨_, rfl, ⟨fr_up (f1.mono (fun c k q => by simp only [rgO]; omega)) (by simp [rgO]), hB' _ (fr_up (f1.mono (fun c k q => by omega)) (by omega)) (fun k a b => by rw [up_ne _ _ _ _ (by decide), f1 4 k (by omega)]; exact hB.2.2 k a b), Or.inl rfl⟩, Or.inl ⟨rfl, Or.inl (by rw [← en, ← eun]; exact nb), fun k => by rw [up_ne _ _ _ _ (by decide), up_ne _ _ _ _ (by decide), up_ne _ _ _ _ (by decide), f1 1 k (by omega), f1 2 k (by omega), f1 3 k (by omega)]; exact ⟨rfl, rfl, rfl⟩⟩⟩
