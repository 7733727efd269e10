/-! FIRST CHOICES -/
def fstC (n : Int) (good : Int → Int → Prop) (ch : Int → Int) : Prop := ∀ i : Int, 0 ≤ i → i < n → 0 ≤ ch i ∧ ch i < n ∧ good (cs ch i.toNat) (ch i) ∧ ∀ j, 0 ≤ j → j < ch i → ¬ good (cs ch i.toNat) j
theorem lex_fst {n : Int} {op : Int → Int → Prop} {ch : Int → Int} (h : lexCh n op ch) : fstC n (okJ n op) ch := h
theorem cs_n (f : Int → Int) (m : Nat) : cs f (m + 1) = sB (cs f m) (f m) := rfl
theorem cs_in {n : Int} {ch : Int → Int} (hn : 0 ≤ n ∧ n ≤ 8) : ∀ m : Nat, (m : Int) ≤ n → (∀ i : Int, 0 ≤ i → i < m → 0 ≤ ch i ∧ ch i < n ∧ bt (cs ch i.toNat) (ch i) = false) → 0 ≤ cs ch m ∧ cs ch m < p2 n ∧ pc (cs ch m) = m
  | 0, _, _ => by
    have := bit2 hn
    exact ⟨Int.le_refl _, by show (0 : Int) < p2 n; omega, pc_0⟩
  | m + 1, h, hi => by
    have b := bit2 hn
    obtain ⟨a1, a2, a3⟩ := cs_in hn m (by omega) (fun i x y => hi i x (by omega))
    obtain ⟨c1, c2, c3⟩ := hi m (by omega) (by omega)
    rw [Int.toNat_natCast] at c3
    have s := sB_lt (s := cs ch m) (j := ch m) (n := n) ⟨a1, a2⟩ ⟨c1, c2⟩
    have p := (bitC (s := cs ch m) (j := ch m) ⟨a1, by omega⟩ ⟨c1, by omega⟩ c3).1
    rw [cs_n]
    exact ⟨s.1, s.2, by omega⟩
theorem fst_un {n : Int} {good good' : Int → Int → Prop} {ch ch' : Int → Int} (hn : 0 ≤ n ∧ n ≤ 8) (hb : ∀ T j, good T j → bt T j = false) (e : ∀ T j, 0 ≤ T → T < p2 n → 0 ≤ pc T → pc T < n → 0 ≤ j → j < n → (good T j ↔ good' T j)) (h : fstC n good ch) (h' : fstC n good' ch') : ∀ i, 0 ≤ i → i < n → ch i = ch' i := by
  have key : ∀ m : Nat, (m : Int) ≤ n → ∀ k : Int, 0 ≤ k → k < m → ch k = ch' k := by
    intro m
    induction m with
    | zero => intro _ k a b; omega
    | succ m ih =>
      intro hm k a b
      have ihm := ih (by omega)
      rcases (by omega : k < m ∨ k = m) with q | q
      · exact ihm k a q
      · rw [q]
        have ec : cs ch m = cs ch' m := cs_cg ihm
        obtain ⟨t1, t2, t3⟩ := cs_in (ch := ch) hn m (by omega) (fun i x y => by have := h i x (by omega); exact ⟨this.1, this.2.1, hb _ _ this.2.2.1⟩)
        obtain ⟨a1, a2, a3, a4⟩ := h m (by omega) (by omega)
        obtain ⟨b1, b2, b3, b4⟩ := h' m (by omega) (by omega)
        rw [Int.toNat_natCast] at a3 a4 b3 b4
        rw [← ec] at b3 b4
        rcases (by omega : ch m < ch' m ∨ ch m = ch' m ∨ ch' m < ch m) with w | w | w
        · exact absurd ((e _ _ t1 t2 (by omega) (by omega) a1 a2).mp a3) (b4 _ a1 w)
        · exact w
        · exact absurd ((e _ _ t1 t2 (by omega) (by omega) b1 b2).mpr b3) (a4 _ b1 w)
  exact fun i a b => key n.toNat (by omega) i a (by omega)
theorem cpl_cg {n : Int} {op op' : Int → Int → Prop} (e : ∀ i j, 0 ≤ i → i < n → 0 ≤ j → j < n → (op i j ↔ op' i j)) : ∀ (m : Nat) (S : Int), (m : Int) ≤ n → (cpl n op m S ↔ cpl n op' m S)
  | 0, S, _ => Iff.rfl
  | m + 1, S, h => by
    unfold cpl
    constructor
    · rintro ⟨j, a, b, c, d, f⟩; exact ⟨j, a, b, c, (e _ j (by omega) (by omega) a b).mp d, (cpl_cg e m _ (by omega)).mp f⟩
    · rintro ⟨j, a, b, c, d, f⟩; exact ⟨j, a, b, c, (e _ j (by omega) (by omega) a b).mpr d, (cpl_cg e m _ (by omega)).mpr f⟩
theorem okJ_cg {n T j : Int} {op op' : Int → Int → Prop} (e : ∀ i j, 0 ≤ i → i < n → 0 ≤ j → j < n → (op i j ↔ op' i j)) (hT : 0 ≤ pc T ∧ pc T < n) (hj : 0 ≤ j ∧ j < n) : okJ n op T j ↔ okJ n op' T j := by
  unfold okJ
  rw [e _ j hT.1 hT.2 hj.1 hj.2, cpl_cg e _ _ (by omega)]
/-- first choices over the same joins are the same -/
theorem lex_un {n : Int} {op op' : Int → Int → Prop} {ch ch' : Int → Int} (hn : 0 ≤ n ∧ n ≤ 8) (e : ∀ i j, 0 ≤ i → i < n → 0 ≤ j → j < n → (op i j ↔ op' i j)) (h : fstC n (okJ n op) ch) (h' : fstC n (okJ n op') ch') : ∀ i, 0 ≤ i → i < n → ch i = ch' i :=
  fst_un hn (fun T j q => q.1) (fun T j a b c d x y => okJ_cg e ⟨c, d⟩ ⟨x, y⟩) h h'
theorem cpl_tail {n : Int} {op : Int → Int → Prop} {ch : Int → Int} (hn : 0 ≤ n) (h : ∀ i : Int, 0 ≤ i → i < n → 0 ≤ ch i ∧ ch i < n ∧ bt (cs ch i.toNat) (ch i) = false ∧ op i (ch i)) : ∀ m : Nat, (m : Int) ≤ n → cpl n op m (cs ch (n.toNat - m))
  | 0, _ => trivial
  | m + 1, hm => by
    have c := cpl_tail hn h m (by omega)
    obtain ⟨a1, a2, a3, a4⟩ := h (n - ((m + 1 : Nat) : Int)) (by omega) (by omega)
    refine ⟨ch (n - ((m + 1 : Nat) : Int)), a1, a2, ?_, a4, ?_⟩
    · rw [show (n - ((m + 1 : Nat) : Int)).toNat = n.toNat - (m + 1) by omega] at a3; exact a3
    · have e : n.toNat - m = (n.toNat - (m + 1)) + 1 := by omega
      rw [e, cs_n] at c
      rw [show ((n.toNat - (m + 1) : Nat) : Int) = n - ((m + 1 : Nat) : Int) by omega] at c
      exact c
theorem bit_sx : ∀ s : Fin 256, ∀ j : Fin 8, bt (s.val : Int) (j.val : Int) = false → ixor (sB (s.val : Int) (j.val : Int)) (ishl 1 (j.val : Int)) = (s.val : Int) := by decide +kernel
theorem bitSx {s j : Int} (h1 : 0 ≤ s ∧ s < 256) (h2 : 0 ≤ j ∧ j < 8) (h : bt s j = false) : ixor (sB s j) (ishl 1 j) = s := fin2 (P := fun s j => bt s j = false → ixor (sB s j) (ishl 1 j) = s) bit_sx h1.1 h1.2 h2.1 h2.2 h
theorem sm_pt {f g : Int → Int} {x d : Int} : ∀ {n : Nat}, 0 ≤ x → x < n → g x = f x + d → (∀ k : Int, 0 ≤ k → k < n → k ≠ x → g k = f k) → sm g n = sm f n + d
  | 0, a, b, _, _ => by omega
  | n + 1, a, b, c, e => by
    show sm g n + g n = sm f n + f n + d
    by_cases q : x = n
    · have : sm g n = sm f n := sm_cg (fun k y z => e k y (by omega) (by omega))
      rw [this, ← q, c]; omega
    · rw [sm_pt (f := f) (g := g) (x := x) (d := d) a (by omega) c (fun k y z w => e k y (by omega) w), e n (by omega) (by omega) (fun z => q z.symm)]
      omega
def nxG (σ : eS) (o u j : Int) : Prop := iand (ishr o j) 1 ≠ 0 ∧ σ 19 (ior u (ishl 1 j)) ≠ σ 16 3
theorem t_Ch_nextColumn {σ : eS} {o u f n : Int} (hu : 0 ≤ u ∧ u < 256) (hf : 0 ≤ f ∧ f ≤ n) (hn : 0 ≤ n ∧ n ≤ 8) : MtI shA M_Ch_nextColumn [vr 16, vi o, vi u, vi f, vi n] σ (fun σ' z => σ' = σ ∧ f ≤ z ∧ z ≤ n ∧ (∀ j, f ≤ j → j < z → ¬ nxG σ o u j) ∧ (z < n → nxG σ o u z)) := by
  refine Mt.of okM_Ch_nextColumn (Nat.le_of_ble_eq_true rfl) (fun hk hg => ?_)
  refine ok_iload_n 0 rfl rfl rfl (ok_ist5 1 rfl rfl rfl ?_)
  refine lpO (fun j : Int => [some (vr 16), some (vi o), some (vi u), some (vi f), some (vi n), some (vi j)]) (fun _ => σ) (fun j => f ≤ j ∧ j ≤ n ∧ ∀ i, f ≤ i → i < j → ¬ nxG σ o u i) (fun j => (8 - j).toNat) ?_ f ⟨by omega, by omega, fun i a b => by omega⟩
  rintro j ⟨j1, j2, j3⟩ ih
  refine ok_iload 2 rfl rfl rfl (ok_iload 3 rfl rfl rfl (ok_icmp_ge 4 46 rfl rfl rfl (fun h7 => ?_) (fun h7 => ?_)))
  · refine ok_iload 26 rfl rfl rfl (ok_iret 27 rfl rfl rfl ?_)
    exact ⟨_, rfl, rfl, by omega, by omega, fun i a b => j3 i a (by omega), fun q => by omega⟩
  · have b := or8 hu (j := j) ⟨by omega, by omega⟩
    refine ok_iload_n 5 rfl rfl rfl (ok_iload 6 rfl rfl rfl (ok_ishr 7 rfl rfl (ok_iconst 8 rfl rfl (by decide) (ok_iand 9 rfl rfl (ok_if_eq 10 40 rfl rfl rfl (fun h16 => ?_) (fun h16 => ?_))))))
    · refine ok_inc5 24 rfl rfl rfl (by first | omega | (simp [up_if]; omega) | (simp [up_if] at *; omega)) (ok_goto 25 3 rfl rfl rfl ?_)
      exact ih (j + 1) ⟨by omega, by omega, lt_ext j3 (fun q => q.1 h16)⟩ (by omega)
    · refine ok_aload_n 11 rfl rfl rfl (ok_getR 12 rfl rfl fl_X0_19 rfl rfl (ok_iload_n 13 rfl rfl rfl (ok_iconst 14 rfl rfl (by decide) (ok_iload 15 rfl rfl rfl (ok_ishl 16 rfl rfl (ok_ior 17 rfl rfl (ok_iald 18 rfl rfl rfl (by first | omega | (simp [up_if]; omega) | (simp [up_if] at *; omega)) (ok_aload_n 19 rfl rfl rfl (ok_getI 20 rfl rfl fl_X0_22 rfl rfl (Or.inl rfl) (ok_icmp_eq 21 40 rfl rfl rfl (fun h34 => ?_) (fun h34 => ?_)))))))))))
      · refine ok_inc5 24 rfl rfl rfl (by first | omega | (simp [up_if]; omega) | (simp [up_if] at *; omega)) (ok_goto 25 3 rfl rfl rfl ?_)
        exact ih (j + 1) ⟨by omega, by omega, lt_ext j3 (fun q => q.2 h34)⟩ (by omega)
      · refine ok_iload 22 rfl rfl rfl (ok_iret 23 rfl rfl rfl ?_)
        exact ⟨_, rfl, rfl, j1, by omega, j3, fun _ => ⟨h16, h34⟩⟩
abbrev rgFf : Nat → Int → Prop := fun c k => (c = 16 ∧ k = 3) ∨ c = 17 ∨ c = 19
def FF (σ : eS) (n : Int) (op : Int → Int → Prop) (σ' : eS) (z : Int) : Prop := fr rgFf σ σ' ∧ iCh σ' ∧ σ' 16 3 = σ 16 3 + 1 ∧ iSe σ' ∧ ((z = 0 ∧ ¬ cpl n op n.toNat 0) ∨ (z = 1 ∧ cpl n op n.toNat 0 ∧ fstC n (okJ n op) (fun i => σ' 17 i)))
def dd (ρ : eS) (q : Int) : Int → Int := fun T => if ρ 19 T = q then 1 else 0
theorem dd_bd (ρ : eS) (q : Int) : 0 ≤ sm (dd ρ q) 256 ∧ sm (dd ρ q) 256 ≤ 256 := by
  have := sm_bd (f := dd ρ q) (B := 1) (by decide) (n := 256) (fun k a b => by unfold dd; split <;> omega)
  omega
/-- behind the whole search: the prefix of rows that have columns -/
def pre (n : Int) (op : Int → Int → Prop) (ch : Int → Int) (r : Int) : Prop := ∀ i : Int, 0 ≤ i → i < r → 0 ≤ ch i ∧ ch i < n ∧ bt (cs ch i.toNat) (ch i) = false ∧ op i (ch i) ∧ ∀ j, 0 ≤ j → j < ch i → ¬ okJ n op (cs ch i.toNat) j
theorem pre_fst {n : Int} {op : Int → Int → Prop} {ch : Int → Int} (hn : 0 ≤ n ∧ n ≤ 8) (h : pre n op ch n) : cpl n op n.toNat 0 ∧ fstC n (okJ n op) ch := by
  have tl := cpl_tail (op := op) (ch := ch) hn.1 (fun i a b => by have := h i a b; exact ⟨this.1, this.2.1, this.2.2.1, this.2.2.2.1⟩)
  refine ⟨?_, fun i a b => ?_⟩
  · have := tl n.toNat (by omega)
    rw [Nat.sub_self] at this
    exact this
  · obtain ⟨x1, x2, x3, x4, x5⟩ := h i a b
    have ci := (cs_in (ch := ch) hn i.toNat (by omega) (fun k y z => by have := h k y (by omega); exact ⟨this.1, this.2.1, this.2.2.1⟩)).2.2
    refine ⟨x1, x2, ⟨x3, by rw [ci, show ((i.toNat : Nat) : Int) = i by omega]; exact x4, ?_⟩, x5⟩
    have := tl (n - i - 1).toNat (by omega)
    rw [show n.toNat - (n - i - 1).toNat = i.toNat + 1 by omega, cs_n, show ((i.toNat : Nat) : Int) = i by omega] at this
    rw [ci, show ((i.toNat : Nat) : Int) = i by omega]
    exact this
theorem pre_cg {n r : Int} {op : Int → Int → Prop} {ch ch' : Int → Int} (h : pre n op ch r) (e : ∀ k, 0 ≤ k → k < r → ch' k = ch k) : pre n op ch' r := fun i a b => by
  have ec : cs ch' i.toNat = cs ch i.toNat := cs_cg (fun k x y => e k x (by omega))
  rw [ec, e i a b]
  exact h i a b
theorem t_Ch_findFirst {σ : eS} {J n : Int} {op : Int → Int → Prop} (hC : iCh σ) (hn : 0 ≤ n ∧ n ≤ 8) (hJ : jOf J n op) (hS : iSe σ) (hS2 : σ 16 3 < 2147483647) : MtI shA M_Ch_findFirst [vr 16, vl J, vi n] σ (FF σ n op) := by
  refine Mt.of okM_Ch_findFirst (Nat.le_of_ble_eq_true rfl) (fun hk hg => ?_)
  have b2 := bit2 hn
  obtain ⟨q, eq⟩ : ∃ q, q = σ 16 3 + 1 := ⟨_, rfl⟩
  refine ok_aload_n 0 rfl rfl rfl (ok_dup 1 rfl rfl rfl (ok_getI 2 rfl rfl fl_X0_22 rfl rfl (Or.inl rfl) (ok_iconst 3 rfl rfl (by decide) (ok_iadd 4 rfl rfl (by have := hS.1; omega) (ok_putI 5 rfl rfl fl_X0_22 rfl rfl rfl rfl (ok_iconst 6 rfl rfl (by decide) (ok_ist4 7 rfl rfl rfl (ok_iconst 8 rfl rfl (by decide) (ok_ist5 9 rfl rfl rfl (ok_iconst 10 rfl rfl (by decide) (ok_ist6 11 rfl rfl rfl (ok_iconst 12 rfl rfl (by decide) (ok_ist7 13 rfl rfl rfl ?_)))))))))))))
  obtain ⟨σ1, e1⟩ : ∃ x, x = up σ 16 3 (σ 16 3 + 1) := ⟨_, rfl⟩
  rw [← e1]
  have h3 : σ1 16 3 = q := by rw [e1, up_same, eq]
  have h17 : ∀ k, σ1 17 k = σ 17 k := fun k => by rw [e1, up_ne _ _ _ _ (by decide)]
  have h19 : ∀ k, σ1 19 k = σ 19 k := fun k => by rw [e1, up_ne _ _ _ _ (by decide)]
  have f0 : fr rgFf σ σ1 := by rw [e1]; exact fr_up fr.rf (by simp [rgFf])
  have d0 : sm (dd σ1 q) 256 = 0 := by
    have : sm (dd σ1 q) 256 = sm (fun _ => 0) 256 := sm_cg (fun k a b => by unfold dd; rw [if_neg (by rw [h19]; have := hS.2 k a (by omega); omega)])
    rw [this]
    have z : ∀ m : Nat, sm (fun _ => (0 : Int)) m = 0 := by
      intro m
      induction m with
      | zero => rfl
      | succ m ih => show sm (fun _ => (0 : Int)) m + 0 = 0; rw [ih]; rfl
    exact z 256
  clear e1
  refine lpO5 (fun (u r w k : Int) (_ : eS) => [some (vr 16), some (vl J), none, some (vi n), some (vi u), some (vi r), some (vi w), some (vi k), none]) (fun _ _ _ _ ρ => ρ) (fun u r w k ρ => 0 ≤ r ∧ r ≤ n ∧ 0 ≤ w ∧ w ≤ n ∧ 0 ≤ k ∧ k ≤ 520 ∧ fr rgFf σ ρ ∧ iCh ρ ∧ ρ 16 3 = q ∧ (∀ T, 0 ≤ T → T < 256 → ρ 19 T ≤ q) ∧ u = cs (fun i => ρ 17 i) r.toNat ∧ pre n op (fun i => ρ 17 i) r ∧ (∀ j, 0 ≤ j → j < w → ¬ okJ n op u j) ∧ (∀ T, 0 ≤ T → T < p2 n → ρ 19 T = q → ¬ cpl n op (n - pc T).toNat T) ∧ (∀ i, 0 ≤ i → i ≤ r → ρ 19 (cs (fun i => ρ 17 i) i.toNat) ≠ q) ∧ k = 2 * sm (dd ρ q) 256 + r) (fun _ _ _ k _ => (520 - k).toNat) ?_ 0 0 0 0 σ1 ⟨by omega, by omega, by omega, by omega, by omega, by omega, f0, iCh_cg hC h17, h3, fun T a b => by rw [h19]; have := hS.2 T a b; omega, rfl, fun i a b => by omega, fun j a b => by omega, fun T a b c => by rw [h19] at c; have := hS.2 T a (by omega); omega, fun i a b => by rw [show i = 0 by omega]; show σ1 19 0 ≠ q; rw [h19]; have := hS.2 0 (by omega) (by omega); omega, by omega⟩
  clear h3 h17 h19 f0 d0 σ1
  rintro u r w k ρ ⟨r1, r2, w1, w2, k1, k2, f, hC1, h3, hq, eu, hP, hw, hdead, hlive, hk⟩ ih
  have db := dd_bd ρ q
  obtain ⟨c1, c2, c3⟩ := cs_in (ch := fun i => ρ 17 i) hn r.toNat (by omega) (fun i a b => by have := hP i a (by omega); exact ⟨this.1, this.2.1, this.2.2.1⟩)
  rw [← eu] at c1 c2 c3
  have pu : pc u = r := by omega
  have u256 : 0 ≤ u ∧ u < 256 := ⟨c1, by omega⟩
  refine ok_iload 14 rfl rfl rfl (ok_sipush 15 rfl rfl (by decide) (by decide) (ok_icmp_ge 16 143 rfl rfl rfl (fun h27 => ?_) (fun h27 => ?_)))
  · have rn : r = n := by omega
    rw [rn] at hP
    refine ok_iload 80 rfl rfl rfl (ok_iload_n 81 rfl rfl rfl (ok_icmp_ne 82 153 rfl rfl rfl (fun h146 => ?_) (fun h146 => ?_)))
    · exact absurd rn h146
    · refine ok_iconst 83 rfl rfl (by decide) (ok_goto 84 154 rfl rfl rfl (ok_zret 86 rfl rfl rfl (by first | omega | (simp [up_if]; omega) | (simp [up_if] at *; omega)) ?_))
      exact ⟨_, rfl, f, hC1, by omega, ⟨by rw [h3]; have := hS.1; omega, fun T a b => by rw [h3]; exact hq T a b⟩, Or.inr ⟨rfl, pre_fst hn hP⟩⟩
  · refine ok_iload 17 rfl rfl rfl (ok_iload_n 18 rfl rfl rfl (ok_icmp_ge 19 143 rfl rfl rfl (fun h33 => ?_) (fun h33 => ?_)))
    · have rn : r = n := by omega
      rw [rn] at hP
      refine ok_iload 80 rfl rfl rfl (ok_iload_n 81 rfl rfl rfl (ok_icmp_ne 82 153 rfl rfl rfl (fun h146 => ?_) (fun h146 => ?_)))
      · exact absurd rn h146
      · refine ok_iconst 83 rfl rfl (by decide) (ok_goto 84 154 rfl rfl rfl (ok_zret 86 rfl rfl rfl (by first | omega | (simp [up_if]; omega) | (simp [up_if] at *; omega)) ?_))
        exact ⟨_, rfl, f, hC1, by omega, ⟨by rw [h3]; have := hS.1; omega, fun T a b => by rw [h3]; exact hq T a b⟩, Or.inr ⟨rfl, pre_fst hn hP⟩⟩
    · refine ok_aload_n 20 rfl rfl rfl (ok_lload_n 21 rfl rfl rfl (ok_iload 22 rfl rfl rfl (ok_callSI (M' := M_Jo_rowOf) (as := [_, _]) 23 rfl rfl ml_X0_26 (s_Jo_rowOf) ⟨Nat.le_of_ble_eq_true rfl, Nat.le_of_ble_eq_true rfl⟩ rfl (Nat.le_of_ble_eq_true rfl) (fun σ' z hz => ?_))))
      rw [hz.1, hz.2]
      clear hz z σ'
      refine ok_iload 24 rfl rfl rfl (ok_iconst 25 rfl rfl (by decide) (ok_ixor 26 rfl rfl (ok_iand 27 rfl rfl (ok_iload 28 rfl rfl rfl (ok_iload 29 rfl rfl rfl (ok_iload_n 30 rfl rfl rfl ?_))))))
      have ow : iand (rowJ J r) (ixor u (-1)) = iand (rowJ J (pc u)) (ixor u (-1)) := by rw [pu]
      have hop : ∀ j, 0 ≤ j → j < n → (nxG ρ (iand (rowJ J r) (ixor u (-1))) u j ↔ (bt u j = false ∧ op r j ∧ ρ 19 (sB u j) ≠ q)) := fun j a b => by
        unfold nxG
        rw [ow, (open_sp hn hJ u256 ⟨by omega, by omega⟩ ⟨a, b⟩).1, bitP u256 ⟨a, by omega⟩, h3, pu]
        exact and_assoc
      have hno : ∀ j, 0 ≤ j → j < n → ¬ nxG ρ (iand (rowJ J r) (ixor u (-1))) u j → ¬ okJ n op u j := fun j a b c d => by
        rw [hop j a b] at c
        obtain ⟨d1, d2, d3⟩ := d
        rw [pu] at d2 d3
        refine c ⟨d1, d2, fun e => ?_⟩
        have sl := sB_lt (s := u) (j := j) (n := n) ⟨c1, c2⟩ ⟨a, b⟩
        have sp := (bitC u256 (j := j) ⟨a, by omega⟩ d1).1
        refine hdead _ sl.1 sl.2 e ?_
        rw [sp, pu, show n - (r + 1) = n - r - 1 by omega]
        exact d3
      refine ok_callVI (M' := M_Ch_nextColumn) (as := [_, _, _, _]) 31 rfl rfl ml_X0_32 (t_Ch_nextColumn u256 ⟨w1, w2⟩ hn) rfl rfl (Nat.le_of_ble_eq_true rfl) ⟨Nat.le_of_ble_eq_true rfl, Nat.le_of_ble_eq_true rfl⟩ rfl (Nat.le_of_ble_eq_true rfl) (fun σ' z hz => ?_)
      obtain ⟨hs_, hz⟩ := hz
      rw [hs_]; clear hs_ σ'
      obtain ⟨z1, z2, z3, z4⟩ := hz
      have hbelow : ∀ j, 0 ≤ j → j < z → ¬ okJ n op u j := fun j a b => by
        by_cases x : j < w
        · exact hw j a x
        · exact hno j a (by omega) (z3 j (by omega) b)
      refine ok_ist8 32 rfl rfl rfl (ok_iload 33 rfl rfl rfl (ok_iload_n 34 rfl rfl rfl (ok_icmp_ge 35 91 rfl rfl rfl (fun h61 => ?_) (fun h61 => ?_))))
      · have zn : z = n := by omega
        have hcpl : ¬ cpl n op (n - pc u).toNat u := fun x => by
          obtain ⟨j, a, b, c⟩ := (cpl_iff (by omega) (by omega)).mp x
          exact hbelow j a (by omega) c
        refine ok_iload 51 rfl rfl rfl (ok_if_ne 52 98 rfl rfl rfl (fun h93 => ?_) (fun h93 => ?_))
        · have c := hC1 (r + -1) (by omega) (by omega)
          have e : ∀ x, up ρ 19 u x 17 (r + -1) = ρ 17 (r + -1) := fun x => up_ne _ _ _ _ (by decide)
          obtain ⟨y1, y2, y3, y4, y5⟩ := hP (r + -1) (by omega) (by omega)
          have y1 : 0 ≤ ρ 17 (r + -1) := y1
          have y2 : ρ 17 (r + -1) < n := y2
          have eu2 : u = sB (cs (fun i => ρ 17 i) (r + -1).toNat) (ρ 17 (r + -1)) := by
            have := cs_s (fun i => ρ 17 i) (i := r + -1) (by omega)
            rw [show r + -1 + 1 = r by omega, ← eu] at this
            exact this
          obtain ⟨v1, v2, v3⟩ := cs_in (ch := fun i => ρ 17 i) hn (r + -1).toNat (by omega) (fun i a b => by have := hP i a (by omega); exact ⟨this.1, this.2.1, this.2.2.1⟩)
          have ex := bitSx (s := cs (fun i => ρ 17 i) (r + -1).toNat) (j := ρ 17 (r + -1)) ⟨v1, by omega⟩ ⟨by omega, by omega⟩ y3
          rw [← eu2] at ex
          refine ok_aload_n 55 rfl rfl rfl (ok_getR 56 rfl rfl fl_X0_19 rfl rfl (ok_iload 57 rfl rfl rfl (ok_aload_n 58 rfl rfl rfl (ok_getI 59 rfl rfl fl_X0_22 rfl rfl (Or.inl rfl) (ok_iast 60 rfl rfl rfl (by omega) (ok_inc5 61 rfl rfl rfl (by first | omega | (simp [up_if]; omega) | (simp [up_if] at *; omega)) (ok_iload 62 rfl rfl rfl (ok_iconst 63 rfl rfl (by decide) (ok_aload_n 64 rfl rfl rfl (ok_getR 65 rfl rfl fl_X0_9 rfl rfl (ok_iload 66 rfl rfl rfl (ok_iald 67 rfl rfl rfl (by first | omega | (simp [up_if]; omega) | (simp [up_if] at *; omega)) (ok_ishl 68 rfl rfl (ok_ixor 69 rfl rfl (ok_ist4 70 rfl rfl rfl (ok_aload_n 71 rfl rfl rfl (ok_getR 72 rfl rfl fl_X0_9 rfl rfl (ok_iload 73 rfl rfl rfl (ok_iald 74 rfl rfl rfl (by first | omega | (simp [up_if]; omega) | (simp [up_if] at *; omega)) (ok_iconst 75 rfl rfl (by decide) (ok_iadd 76 rfl rfl (by first | omega | (simp [up_if]; omega) | (simp [up_if] at *; omega)) (ok_ist6 77 rfl rfl rfl (ok_inc7 78 rfl rfl rfl (by first | omega | (simp [up_if]; omega) | (simp [up_if] at *; omega)) (ok_goto 79 22 rfl rfl rfl ?_))))))))))))))))))))))))
          rw [e, ex, h3]
          have ed : sm (dd (up ρ 19 u q) q) 256 = sm (dd ρ q) 256 + 1 := by
            refine sm_pt (x := u) u256.1 (by omega) ?_ (fun T a b x => ?_)
            · have := hlive r r1 (by omega)
              rw [← eu] at this
              unfold dd; rw [if_pos (up_same _ _ _ _), if_neg this]; rfl
            · unfold dd; rw [up_nk _ _ _ _ x]
          have ecs : ∀ i : Nat, cs (fun i => up ρ 19 u q 17 i) i = cs (fun i => ρ 17 i) i := fun i => cs_cg (fun k a b => up_ne _ _ _ _ (by decide))
          refine ok_fg [some (vr 16), some (vl J), none, some (vi n), some (vi _), some (vi (r + -1)), some (vi _), some (vi (k + 1)), none] ⟨rfl, rfl, rfl, rfl, rfl, rfl, rfl, trivial⟩ (ih _ (r + -1) _ (k + 1) _ ⟨by omega, by omega, by omega, by omega, by omega, by omega, fr_up f (by simp [rgFf]), iCh_cg hC1 (fun k => up_ne _ _ _ _ (by decide)), by rw [up_ne _ _ _ _ (by decide)]; exact h3, fun T a b => ?_, by rw [ecs], pre_cg (fun i a b => hP i a (by omega)) (fun k a b => up_ne _ _ _ _ (by decide)), fun j a b => ?_, fun T a b x => ?_, fun i a b => ?_, by rw [ed]; omega⟩ (by omega))
          · rw [up_if]; split
            · exact Int.le_refl _
            · exact hq T a b
          · rcases (by omega : j < ρ 17 (r + -1) ∨ j = ρ 17 (r + -1)) with x | x
            · exact y5 j a x
            · rw [x]
              rintro ⟨x1, x2, x3⟩
              rw [← eu2] at x3
              refine hcpl ?_
              rw [pu, show n - r = n - pc (cs (fun i => ρ 17 i) (r + -1).toNat) - 1 by omega]
              exact x3
          · by_cases y : T = u
            · rw [y]; exact hcpl
            · rw [up_nk _ _ _ _ y] at x; exact hdead T a b x
          · rw [ecs]
            have pi := (cs_in (ch := fun i => ρ 17 i) hn i.toNat (by omega) (fun i a b => by have := hP i a (by omega); exact ⟨this.1, this.2.1, this.2.2.1⟩)).2.2
            rw [up_nk _ _ _ _ (fun y => by rw [y] at pi; omega)]
            exact hlive i a (by omega)
        · refine ok_iconst 53 rfl rfl (by decide) (ok_zret 54 rfl rfl rfl (by first | omega | (simp [up_if]; omega) | (simp [up_if] at *; omega)) ?_)
          refine ⟨_, rfl, f, hC1, by omega, ⟨by rw [h3]; have := hS.1; omega, fun T a b => by rw [h3]; exact hq T a b⟩, Or.inl ⟨rfl, ?_⟩⟩
          have u0 : u = 0 := by rw [eu, show r = 0 by omega]; rfl
          rw [pu, show r = 0 by omega, Int.sub_zero, u0] at hcpl
          exact hcpl
      · have zl : z < n := by omega
        obtain ⟨g1, g2, g3⟩ := (hop z (by omega) zl).mp (z4 zl)
        have sl := sB_lt (s := u) (j := z) (n := n) ⟨c1, c2⟩ ⟨by omega, zl⟩
        refine ok_aload_n 36 rfl rfl rfl (ok_getR 37 rfl rfl fl_X0_9 rfl rfl (ok_iload 38 rfl rfl rfl (ok_iload 39 rfl rfl rfl (ok_iast 40 rfl rfl rfl (by first | omega | (simp [up_if]; omega) | (simp [up_if] at *; omega)) (ok_iload 41 rfl rfl rfl (ok_iconst 42 rfl rfl (by decide) (ok_iload 43 rfl rfl rfl (ok_ishl 44 rfl rfl (ok_ior 45 rfl rfl ?_)))))))))
        rw [bitP u256 (j := z) ⟨by omega, by omega⟩]
        refine ok_ist4 46 rfl rfl rfl (ok_iconst 47 rfl rfl (by decide) (ok_ist6 48 rfl rfl rfl (ok_inc5 49 rfl rfl rfl (by first | omega | (simp [up_if]; omega) | (simp [up_if] at *; omega)) (ok_goto 50 137 rfl rfl rfl (ok_inc7 78 rfl rfl rfl (by first | omega | (simp [up_if]; omega) | (simp [up_if] at *; omega)) (ok_goto 79 22 rfl rfl rfl ?_))))))
        have ecs : ∀ i : Int, 0 ≤ i → i ≤ r → cs (fun i => up ρ 17 r z 17 i) i.toNat = cs (fun i => ρ 17 i) i.toNat := fun i a b => cs_cg (fun k x y => by rw [up_nk _ _ _ _ (by omega)])
        have ec1 : cs (fun i => up ρ 17 r z 17 i) (r + 1).toNat = sB u z := by
          rw [cs_s _ r1, ecs r r1 (Int.le_refl _), ← eu, up_same]
        have ed : sm (dd (up ρ 17 r z) q) 256 = sm (dd ρ q) 256 := sm_cg (fun T a b => by unfold dd; rw [up_ne _ _ _ _ (by decide)])
        refine ok_fg [some (vr 16), some (vl J), none, some (vi n), some (vi _), some (vi (r + 1)), some (vi _), some (vi (k + 1)), none] ⟨rfl, rfl, rfl, rfl, rfl, rfl, rfl, trivial⟩ (ih _ (r + 1) _ (k + 1) _ ⟨by omega, by omega, by omega, by omega, by omega, by omega, fr_up f (by simp [rgFf]), up_ch hC1 ⟨by omega, by omega⟩, by rw [up_ne _ _ _ _ (by decide)]; exact h3, fun T a b => by rw [up_ne _ _ _ _ (by decide)]; exact hq T a b, ec1.symm, fun i a b => ?_, fun j a b => by omega, fun T a b x => by rw [up_ne _ _ _ _ (by decide)] at x; exact hdead T a b x, fun i a b => ?_, by rw [ed]; omega⟩ (by omega))
        · rw [ecs i a (by omega)]
          dsimp only
          rcases (by omega : i < r ∨ i = r) with x | x
          · rw [up_nk _ _ _ _ (by omega)]; exact hP i a x
          · rw [x, up_same, ← eu]
            exact ⟨by omega, zl, g1, g2, hbelow⟩
        · rw [up_ne _ _ _ _ (by decide)]
          rcases (by omega : i ≤ r ∨ i = r + 1) with x | x
          · rw [ecs i a x]; exact hlive i a x
          · rw [x, ec1]; exact g3
