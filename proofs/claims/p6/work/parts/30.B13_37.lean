section
theorem b0 {b : Bool} : ((if b = true then (1 : Int) else 0) = 0 ↔ b = false) := by cases b <;> simp
theorem b1' {b : Bool} : ((if b = true then (1 : Int) else 0) = 1 ↔ b = true) := by cases b <;> simp
theorem s_Mo_bits {σ : eS} {s : Int} (h : 0 ≤ s ∧ s < 256) : MtI shB M_Mo_bits [vi s] σ (fun σ' z => σ' = σ ∧ z = pc s) := by
  refine Mt.of okM_Mo_bits (Nat.le_of_ble_eq_true rfl) (fun hk hg => ?_)
  have hb := bitL (n := 0) h (by omega)
  refine ok_iconst 0 rfl rfl (by decide) (ok_ist1 1 rfl rfl rfl (ok_iload_n 2 rfl rfl rfl (ok_ist2 3 rfl rfl rfl ?_)))
  refine lpO2 (fun a k : Int => [some (vi s), some (vi a), some (vi k)]) (fun _ _ => σ) (fun a k => 0 ≤ k ∧ k < 256 ∧ 0 ≤ a ∧ a + pc k = pc s) (fun _ k => k.toNat) ?_ 0 s ⟨by omega, by omega, by omega, by omega⟩
  rintro a k ⟨k1, k2, k3, k4⟩ ih
  have hk := bitH ⟨k1, k2⟩
  have hq := bitL (s := k / 2) (n := 0) (by omega) (by omega)
  refine ok_iload_n 4 rfl rfl rfl (ok_if_le 5 21 rfl rfl rfl (fun h5 => ?_) (fun h5 => ?_))
  · refine ok_iload_n 17 rfl rfl rfl (ok_iret 18 rfl rfl rfl ?_)
    exact ⟨_, rfl, rfl, by rw [← k4, show k = 0 by omega]; simp [pc]⟩
  · refine ok_iload_n 6 rfl rfl rfl (ok_iload_n 7 rfl rfl rfl (ok_iconst 8 rfl rfl (by decide) (ok_irem 9 rfl rfl (by first | omega | (simp [up_if]; omega) | (simp [up_if] at *; omega)) (by first | omega | (simp [up_if]; omega) | (simp [up_if] at *; omega)) (ok_iadd 10 rfl rfl (by first | omega | (simp [up_if]; omega) | (simp [up_if] at *; omega)) (ok_ist1 11 rfl rfl rfl (ok_iload_n 12 rfl rfl rfl (ok_iconst 13 rfl rfl (by decide) (ok_idiv 14 rfl rfl (by first | omega | (simp [up_if]; omega) | (simp [up_if] at *; omega)) (by first | omega | (simp [up_if]; omega) | (simp [up_if] at *; omega)) (ok_ist2 15 rfl rfl rfl (ok_goto 16 4 rfl rfl rfl ?_))))))))))
    exact ih _ _ ⟨by omega, by omega, by omega, by omega⟩ (by omega)
def wk (σ : eS) (i j : Int) : Int := σ 9 (σ 0 22 * i + j)
def nW (σ : eS) : Prop := 1 ≤ σ 0 22 ∧ σ 0 22 ≤ 8
theorem s_Mo_worked {σ : eS} {i j : Int} (h : nW σ) (hi : 0 ≤ i ∧ i < σ 0 22) (hj : 0 ≤ j ∧ j < σ 0 22) : MtI shB M_Mo_worked [vr 0, vi i, vi j] σ (fun σ' z => σ' = σ ∧ z = wk σ i j) := by
  refine Mt.of okM_Mo_worked (Nat.le_of_ble_eq_true rfl) (fun hk hg => ?_)
  obtain ⟨h3, h4, h5, h6⟩ := ix8 (n := σ 0 22) ⟨by have := h.1; omega, h.2⟩ hi hj
  refine ok_aload_n 0 rfl rfl rfl (ok_getR 1 rfl rfl fl_X12_39 rfl rfl (ok_aload_n 2 rfl rfl rfl (ok_getI 3 rfl rfl fl_X12_234 rfl rfl (Or.inl rfl) (ok_iload_n 4 rfl rfl rfl (ok_imul 5 rfl rfl (by first | omega | (simp [up_if]; omega) | (simp [up_if] at *; omega)) (ok_iload_n 6 rfl rfl rfl (ok_iadd 7 rfl rfl (by first | omega | (simp [up_if]; omega) | (simp [up_if] at *; omega)) (ok_iald 8 rfl rfl rfl (by first | omega | (simp [up_if]; omega) | (simp [up_if] at *; omega)) (ok_iret 9 rfl rfl rfl ?_)))))))))
  exact ⟨_, rfl, rfl, rfl⟩
def opB (σ : eS) (l r c i j : Int) : Prop := l ≤ wk σ i j ∧ (i = r ↔ j = c)
theorem s_Mo_isOpen {σ : eS} {i j l r c : Int} (h : nW σ) (hi : 0 ≤ i ∧ i < σ 0 22) (hj : 0 ≤ j ∧ j < σ 0 22) : MtI shB M_Mo_isOpen [vr 0, vi i, vi j, vi l, vi r, vi c] σ (fun σ' z => σ' = σ ∧ ((z = 1 ∧ opB σ l r c i j) ∨ (z = 0 ∧ ¬ opB σ l r c i j))) := by
  refine Mt.of okM_Mo_isOpen (Nat.le_of_ble_eq_true rfl) (fun hk hg => ?_)
  refine ok_aload_n 0 rfl rfl rfl (ok_iload_n 1 rfl rfl rfl (ok_iload_n 2 rfl rfl rfl (ok_callVI (M' := M_Mo_worked) (as := [_, _]) 3 rfl rfl ml_X12_244 (s_Mo_worked h hi hj) rfl rfl (Nat.le_of_ble_eq_true rfl) ⟨Nat.le_of_ble_eq_true rfl, Nat.le_of_ble_eq_true rfl⟩ rfl (Nat.le_of_ble_eq_true rfl) (fun σ' z hz => ?_))))
  rw [hz.1, hz.2]
  clear hz z σ'
  refine ok_iload_n 4 rfl rfl rfl (ok_icmp_lt 5 39 rfl rfl rfl (fun h7 => ?_) (fun h7 => ?_))
  · refine ok_iconst 21 rfl rfl (by decide) (ok_zret 22 rfl rfl rfl (by first | omega | (simp [up_if]; omega) | (simp [up_if] at *; omega)) ?_)
    exact ⟨_, rfl, rfl, by unfold opB; omega⟩
  · refine ok_iload_n 6 rfl rfl rfl (ok_iload 7 rfl rfl rfl (ok_icmp_ne 8 20 rfl rfl rfl (fun h13 => ?_) (fun h13 => ?_)))
    · refine ok_iconst 11 rfl rfl (by decide) (ok_iload_n 12 rfl rfl rfl (ok_iload 13 rfl rfl rfl (ok_icmp_ne 14 31 rfl rfl rfl (fun h24 => ?_) (fun h24 => ?_))))
      · refine ok_iconst 17 rfl rfl (by decide) (ok_icmp_ne 18 39 rfl rfl rfl (fun h32 => ?_) (fun h32 => ?_))
        · refine ok_iconst 21 rfl rfl (by decide) (ok_zret 22 rfl rfl rfl (by first | omega | (simp [up_if]; omega) | (simp [up_if] at *; omega)) ?_)
          exact ⟨_, rfl, rfl, by unfold opB; omega⟩
        · refine ok_iconst 19 rfl rfl (by decide) (ok_goto 20 40 rfl rfl rfl (ok_zret 22 rfl rfl rfl (by first | omega | (simp [up_if]; omega) | (simp [up_if] at *; omega)) ?_))
          exact ⟨_, rfl, rfl, by unfold opB; omega⟩
      · refine ok_iconst 15 rfl rfl (by decide) (ok_goto 16 32 rfl rfl rfl (ok_icmp_ne 18 39 rfl rfl rfl (fun h32 => ?_) (fun h32 => ?_)))
        · refine ok_iconst 21 rfl rfl (by decide) (ok_zret 22 rfl rfl rfl (by first | omega | (simp [up_if]; omega) | (simp [up_if] at *; omega)) ?_)
          exact ⟨_, rfl, rfl, by unfold opB; omega⟩
        · refine ok_iconst 19 rfl rfl (by decide) (ok_goto 20 40 rfl rfl rfl (ok_zret 22 rfl rfl rfl (by first | omega | (simp [up_if]; omega) | (simp [up_if] at *; omega)) ?_))
          exact ⟨_, rfl, rfl, by unfold opB; omega⟩
    · refine ok_iconst 9 rfl rfl (by decide) (ok_goto 10 21 rfl rfl rfl (ok_iload_n 12 rfl rfl rfl (ok_iload 13 rfl rfl rfl (ok_icmp_ne 14 31 rfl rfl rfl (fun h24 => ?_) (fun h24 => ?_)))))
      · refine ok_iconst 17 rfl rfl (by decide) (ok_icmp_ne 18 39 rfl rfl rfl (fun h32 => ?_) (fun h32 => ?_))
        · refine ok_iconst 21 rfl rfl (by decide) (ok_zret 22 rfl rfl rfl (by first | omega | (simp [up_if]; omega) | (simp [up_if] at *; omega)) ?_)
          exact ⟨_, rfl, rfl, by unfold opB; omega⟩
        · refine ok_iconst 19 rfl rfl (by decide) (ok_goto 20 40 rfl rfl rfl (ok_zret 22 rfl rfl rfl (by first | omega | (simp [up_if]; omega) | (simp [up_if] at *; omega)) ?_))
          exact ⟨_, rfl, rfl, by unfold opB; omega⟩
      · refine ok_iconst 15 rfl rfl (by decide) (ok_goto 16 32 rfl rfl rfl (ok_icmp_ne 18 39 rfl rfl rfl (fun h32 => ?_) (fun h32 => ?_)))
        · refine ok_iconst 21 rfl rfl (by decide) (ok_zret 22 rfl rfl rfl (by first | omega | (simp [up_if]; omega) | (simp [up_if] at *; omega)) ?_)
          exact ⟨_, rfl, rfl, by unfold opB; omega⟩
        · refine ok_iconst 19 rfl rfl (by decide) (ok_goto 20 40 rfl rfl rfl (ok_zret 22 rfl rfl rfl (by first | omega | (simp [up_if]; omega) | (simp [up_if] at *; omega)) ?_))
          exact ⟨_, rfl, rfl, by unfold opB; omega⟩
/-- what is left can be chosen: m rows from a set of used columns on -/
def cpl (n : Int) (op : Int → Int → Prop) : Nat → Int → Prop
  | 0, _ => True
  | m + 1, S => ∃ j, 0 ≤ j ∧ j < n ∧ bt S j = false ∧ op (n - ((m + 1 : Nat) : Int)) j ∧ cpl n op m (sB S j)
def cs (ch : Int → Int) : Nat → Int
  | 0 => 0
  | i + 1 => sB (cs ch i) (ch i)
/-- the j-th column may follow the set T -/
def okJ (n : Int) (op : Int → Int → Prop) (T j : Int) : Prop := bt T j = false ∧ op (pc T) j ∧ cpl n op (n - pc T - 1).toNat (sB T j)
theorem cpl_iff {n : Int} {op : Int → Int → Prop} {T : Int} (h : pc T < n) (h0 : 0 ≤ pc T) : cpl n op (n - pc T).toNat T ↔ ∃ j, 0 ≤ j ∧ j < n ∧ okJ n op T j := by
  have e : (n - pc T).toNat = (n - pc T - 1).toNat + 1 := by omega
  have e2 : n - (((n - pc T - 1).toNat + 1 : Nat) : Int) = pc T := by omega
  rw [e]
  show (∃ j, 0 ≤ j ∧ j < n ∧ bt T j = false ∧ op (n - (((n - pc T - 1).toNat + 1 : Nat) : Int)) j ∧ cpl n op (n - pc T - 1).toNat (sB T j)) ↔ _
  rw [e2]
  rfl
/-- the first choice -/
def lexCh (n : Int) (op : Int → Int → Prop) (ch : Int → Int) : Prop := ∀ i : Int, 0 ≤ i → i < n → 0 ≤ ch i ∧ ch i < n ∧ okJ n op (cs ch i.toNat) (ch i) ∧ ∀ j, 0 ≤ j → j < ch i → ¬ okJ n op (cs ch i.toNat) j
theorem cs_cg {f g : Int → Int} : ∀ {i : Nat}, (∀ k : Int, 0 ≤ k → k < i → f k = g k) → cs f i = cs g i
  | 0, _ => rfl
  | i + 1, h => by
    show sB (cs f i) (f i) = sB (cs g i) (g i)
    rw [cs_cg (fun k a b => h k a (by omega)), h i (by omega) (by omega)]
theorem cs_s (f : Int → Int) {i : Int} (h : 0 ≤ i) : cs f (i + 1).toNat = sB (cs f i.toNat) (f i) := by
  have : (i + 1).toNat = i.toNat + 1 := by omega
  rw [this]
  show sB (cs f i.toNat) (f ((i.toNat : Nat) : Int)) = _
  rw [Int.toNat_of_nonneg h]
def Qch (σ : eS) (n : Int) (op : Int → Int → Prop) (σ' : eS) (z : Int) : Prop := (z = 0 ∧ ¬ cpl n op n.toNat 0 ∧ fr (fun c _ => c = 10) σ σ') ∨ (z = 1 ∧ cpl n op n.toNat 0 ∧ fr (fun c _ => c = 10 ∨ c = 11) σ σ' ∧ lexCh n op (fun i => σ' 11 i))
def dpC (n : Int) (op : Int → Int → Prop) (τ : eS) (T : Int) : Prop := (τ 10 T = 1 ∧ cpl n op (n - pc T).toNat T) ∨ (τ 10 T = -1 ∧ ¬ cpl n op (n - pc T).toNat T)
theorem nW.fr' {σ τ : eS} (h : nW σ) (e : τ 0 22 = σ 0 22) : nW τ := by unfold nW; rw [e]; exact h
theorem s_Mo_isChosen {σ : eS} {l r c : Int} (h : nW σ) : MtI shB M_Mo_isChosen [vr 0, vi l, vi r, vi c] σ (Qch σ (σ 0 22) (opB σ l r c)) := by
  refine Mt.of okM_Mo_isChosen (Nat.le_of_ble_eq_true rfl) (fun hk hg => ?_)
  obtain ⟨n, en⟩ : ∃ x, x = σ 0 22 := ⟨_, rfl⟩
  obtain ⟨op, eop⟩ : ∃ x, x = opB σ l r c := ⟨_, rfl⟩
  have hn : 1 ≤ n ∧ n ≤ 8 := by rw [en]; exact h
  obtain ⟨z1, z2, z3, z4⟩ := bit2 (n := n) (by omega)
  have z4 := z4 hn.1
  rw [← en, ← eop]
  have hop : ∀ τ : eS, fr (fun c _ => c = 10 ∨ c = 11) σ τ → opB τ l r c = op ∧ τ 0 22 = n ∧ nW τ := fun τ f => by
    have e1 : τ 0 22 = n := by rw [f 0 22 (by omega), en]
    refine ⟨?_, e1, h.fr' (by rw [e1, en])⟩
    rw [eop]
    funext i j
    unfold opB wk
    rw [f 0 22 (by omega), f 9 _ (by omega)]
  refine ok_iconst 0 rfl rfl (by decide) (ok_aload_n 1 rfl rfl rfl (ok_getI 2 rfl rfl fl_X12_234 rfl rfl (Or.inl rfl) (ok_ishl 3 rfl rfl ?_)))
  rw [← en, z1]
  refine ok_iconst 4 rfl rfl (by decide) (ok_isub 5 rfl rfl (by first | omega | (simp [up_if]; omega) | (simp [up_if] at *; omega)) (ok_ist4 6 rfl rfl rfl (ok_aload_n 7 rfl rfl rfl (ok_getR 8 rfl rfl fl_X12_42 rfl rfl (ok_iload 9 rfl rfl rfl (ok_lconst (w := 1) 10 rfl rfl rfl (by decide) (ok_last 11 rfl rfl rfl (by first | omega | (simp [up_if]; omega) | (simp [up_if] at *; omega)) (ok_iload 12 rfl rfl rfl (ok_iconst 13 rfl rfl (by decide) (ok_isub 14 rfl rfl (by first | omega | (simp [up_if]; omega) | (simp [up_if] at *; omega)) (ok_ist5 15 rfl rfl rfl ?_)))))))))))
  refine lpO2 (fun (s : Int) (_ : eS) => [some (vr 0), some (vi l), some (vi r), some (vi c), some (vi (p2 n - 1)), some (vi s), none, none]) (fun _ τ => τ) (fun s τ => -1 ≤ s ∧ s < p2 n - 1 ∧ fr (fun c _ => c = 10) σ τ ∧ ∀ T, s < T → T < p2 n → dpC n op τ T) (fun s _ => (s + 1).toNat) ?_ (p2 n - 1 - 1) _ ⟨by omega, by omega, fr_up fr.rf rfl, fun T a b => ?_⟩
  rotate_left
  · have e : T = p2 n - 1 := by omega
    have := (bitL (s := T) (n := n) (by omega) (by omega)).2.1 e
    refine Or.inl ⟨by rw [e, up_same], ?_⟩
    rw [this, show (n - n).toNat = 0 by omega]
    trivial
  rintro s τ ⟨i1, i2, i3, i4⟩ ih
  obtain ⟨o1, o2, o3⟩ := hop τ (i3.mono (fun c k q => by omega))
  refine ok_iload 16 rfl rfl rfl (ok_if_lt 17 119 rfl rfl rfl (fun h26 => ?_) (fun h26 => ?_))
  · rw [show s = -1 by omega] at i4
    refine ok_aload_n 66 rfl rfl rfl (ok_getR 67 rfl rfl fl_X12_42 rfl rfl (ok_iconst 68 rfl rfl (by decide) (ok_lald 69 rfl rfl rfl (by first | omega | (simp [up_if]; omega) | (simp [up_if] at *; omega)) (ok_lconst (w := 0) 70 rfl rfl rfl (by decide) (ok_lcmp_ge 71 72 132 rfl rfl rfl rfl rfl (fun h126 => ?_) (fun h126 => ?_))))))
    · refine ok_iconst 75 rfl rfl (by decide) (ok_ist5 76 rfl rfl rfl (ok_iconst 77 rfl rfl (by decide) (ok_ist6 78 rfl rfl rfl ?_)))
      have hc0 : cpl n op n.toNat 0 := by
        rcases i4 0 (by omega) (by omega) with q | q
        · have := q.2
          rwa [show pc 0 = 0 by simp [pc], Int.sub_zero] at this
        · omega
      refine lpO2 (fun (i : Int) (ρ : eS) => [some (vr 0), some (vi l), some (vi r), some (vi c), some (vi (p2 n - 1)), some (vi (cs (fun i => ρ 11 i) i.toNat)), some (vi i), none]) (fun _ ρ => ρ) (fun i ρ => 0 ≤ i ∧ i ≤ n ∧ fr (fun c _ => c = 11) τ ρ ∧ 0 ≤ cs (fun i => ρ 11 i) i.toNat ∧ cs (fun i => ρ 11 i) i.toNat < p2 n ∧ pc (cs (fun i => ρ 11 i) i.toNat) = i ∧ cpl n op (n - i).toNat (cs (fun i => ρ 11 i) i.toNat) ∧ ∀ k : Int, 0 ≤ k → k < i → 0 ≤ ρ 11 k ∧ ρ 11 k < n ∧ okJ n op (cs (fun i => ρ 11 i) k.toNat) (ρ 11 k) ∧ ∀ j, 0 ≤ j → j < ρ 11 k → ¬ okJ n op (cs (fun i => ρ 11 i) k.toNat) j) (fun i _ => (n - i).toNat) ?_ 0 τ ⟨by omega, by omega, fr.rf, Int.le_refl _, by show (0 : Int) < p2 n; omega, by show pc 0 = 0; simp [pc], by rw [Int.sub_zero]; exact hc0, fun k a b => by omega⟩
      clear ih
      rintro i ρ ⟨k1, k2, k3, k4, k5, k6, k7, k8⟩ ih
      obtain ⟨S, eS⟩ : ∃ x, x = cs (fun i => ρ 11 i) i.toNat := ⟨_, rfl⟩
      rw [← eS] at k4 k5 k6 k7 ⊢
      obtain ⟨u1, u2, u3⟩ := hop ρ (fun c k q => by rw [k3 c k (by omega), i3 c k (by omega)])
      refine ok_iload 79 rfl rfl rfl (ok_aload_n 80 rfl rfl rfl (ok_getI 81 rfl rfl fl_X12_234 rfl rfl (Or.inl rfl) (ok_icmp_ge 82 222 rfl rfl rfl (fun h144 => ?_) (fun h144 => ?_))))
      · refine ok_iconst 126 rfl rfl (by decide) (ok_zret 127 rfl rfl rfl (by first | omega | (simp [up_if]; omega) | (simp [up_if] at *; omega)) ?_)
        refine ⟨_, rfl, Or.inr ⟨rfl, hc0, fun c k q => by rw [k3 c k (by omega), i3 c k (by omega)], fun k a b => ?_⟩⟩
        exact k8 k a (by omega)
      · refine ok_iconst 83 rfl rfl (by decide) (ok_ist7 84 rfl rfl rfl ?_)
        have hin : i < n := by omega
        have hex : ∃ j, 0 ≤ j ∧ j < n ∧ okJ n op S j := (cpl_iff (by omega) (by omega)).mp (by rw [k6]; exact k7)
        refine lpO (fun j : Int => [some (vr 0), some (vi l), some (vi r), some (vi c), some (vi (p2 n - 1)), some (vi S), some (vi i), some (vi j)]) (fun _ => ρ) (fun j => 0 ≤ j ∧ j < n ∧ ∀ j', 0 ≤ j' → j' < j → ¬ okJ n op S j') (fun j => (n - j).toNat) ?_ 0 ⟨by omega, by omega, fun j' a b => by omega⟩
        rintro j ⟨j1, j2, j3⟩ ih2
        have e1 := bitG (s := S) (j := j) (by omega) (by omega)
        have e2 := bitP (s := S) (j := j) (by omega) (by omega)
        obtain ⟨l1, l2⟩ := sB_lt (s := S) (j := j) (n := n) ⟨k4, k5⟩ ⟨j1, j2⟩
        have nxt : ¬ okJ n op S j → Ok shB M_Mo_isChosen 192 [some (vr 0), some (vi l), some (vi r), some (vi c), some (vi (p2 n - 1)), some (vi S), some (vi i), some (vi j)] [] ρ (fun σ' v => ∃ z, v = some (vi z) ∧ Qch σ n op σ' z) := by
          intro hno
          have hj : j + 1 < n := by
            obtain ⟨j', a1, a2, a3⟩ := hex
            by_cases q : j' < j
            · exact absurd a3 (j3 j' a1 q)
            · by_cases q' : j' = j
              · rw [q'] at a3; exact absurd a3 hno
              · omega
          refine ok_inc7 111 rfl rfl rfl (by first | omega | (simp [up_if]; omega) | (simp [up_if] at *; omega)) (ok_goto 112 150 rfl rfl rfl ?_)
          exact ih2 (j + 1) ⟨by omega, hj, lt_ext j3 hno⟩ (by omega)
        refine ok_iload 85 rfl rfl rfl (ok_iload 86 rfl rfl rfl (ok_ishr 87 rfl rfl (ok_iconst 88 rfl rfl (by decide) (ok_iand 89 rfl rfl ?_))))
        rw [e1]
        refine ok_iconst 90 rfl rfl (by decide) (ok_icmp_eq 91 192 rfl rfl rfl (fun h158 => ?_) (fun h158 => ?_))
        · exact nxt (fun q => by have q1 := q.1; rw [b1'.mp h158] at q1; cases q1)
        · have hb : bt S j = false := by
            cases hq : bt S j with
            | false => rfl
            | true => exact absurd (b1'.mpr hq) h158
          refine ok_aload_n 92 rfl rfl rfl (ok_iload 93 rfl rfl rfl (ok_iload 94 rfl rfl rfl (ok_iload_n 95 rfl rfl rfl (ok_iload_n 96 rfl rfl rfl (ok_iload_n 97 rfl rfl rfl (ok_callVI (M' := M_Mo_isOpen) (as := [_, _, _, _, _]) 98 rfl rfl ml_X12_252 (s_Mo_isOpen u3 (by omega) (by omega)) rfl rfl (Nat.le_of_ble_eq_true rfl) ⟨Nat.le_of_ble_eq_true rfl, Nat.le_of_ble_eq_true rfl⟩ rfl (Nat.le_of_ble_eq_true rfl) (fun σ' z hz => ?_)))))))
          obtain ⟨hs_, hz⟩ := hz
          rw [hs_]; clear hs_ σ'
          rw [u1] at hz
          refine ok_if_eq 99 192 rfl rfl rfl (fun h172 => ?_) (fun h172 => ?_)
          · exact nxt (fun q => no1 hz h172 (by have := q.2.1; rwa [k6] at this))
          · refine ok_aload_n 100 rfl rfl rfl (ok_getR 101 rfl rfl fl_X12_42 rfl rfl (ok_iload 102 rfl rfl rfl (ok_iconst 103 rfl rfl (by decide) (ok_iload 104 rfl rfl rfl (ok_ishl 105 rfl rfl (ok_ior 106 rfl rfl ?_))))))
            rw [e2]
            refine ok_lald 107 rfl rfl rfl (by omega) ?_
            have hd := i4 (sB S j) (by omega) l2
            have hcp := (bitC (s := S) (j := j) (by omega) (by omega) hb).1
            have er : ρ 10 (sB S j) = τ 10 (sB S j) := k3 10 _ (by omega)
            refine ok_lconst (w := 0) 108 rfl rfl rfl (by decide) (ok_lcmp_ge 109 110 198 rfl rfl rfl rfl rfl (fun h188 => ?_) (fun h188 => ?_))
            · have hok : okJ n op S j := by
                refine ⟨hb, by rw [k6]; exact yes1 hz h172, ?_⟩
                rcases hd with y | y
                · have := y.2
                  rwa [show n - pc (sB S j) = n - pc S - 1 by omega] at this
                · omega
              refine ok_aload_n 113 rfl rfl rfl (ok_getR 114 rfl rfl fl_X12_45 rfl rfl (ok_iload 115 rfl rfl rfl (ok_iload 116 rfl rfl rfl (ok_iast 117 rfl rfl rfl (by first | omega | (simp [up_if]; omega) | (simp [up_if] at *; omega)) (ok_iload 118 rfl rfl rfl (ok_iconst 119 rfl rfl (by decide) (ok_iload 120 rfl rfl rfl (ok_ishl 121 rfl rfl (ok_ior 122 rfl rfl (ok_ist5 123 rfl rfl rfl (ok_inc6 124 rfl rfl rfl (by first | omega | (simp [up_if]; omega) | (simp [up_if] at *; omega)) (ok_goto 125 138 rfl rfl rfl ?_))))))))))))
              rw [e2]
              have ecs : ∀ k : Int, 0 ≤ k → k ≤ i → cs (fun q => up ρ 11 i j 11 q) k.toNat = cs (fun q => ρ 11 q) k.toNat := fun k a b => cs_cg (fun q a' b' => by rw [up_nk _ _ _ _ (by omega)])
              have ec1 : cs (fun q => up ρ 11 i j 11 q) (i + 1).toNat = sB S j := by
                rw [cs_s _ k1, ecs i k1 (Int.le_refl _), ← eS, up_same]
              have hfin := ih (i + 1) (up ρ 11 i j) ⟨by omega, by omega, fr_up k3 rfl, by rw [ec1]; exact l1, by rw [ec1]; exact l2, by rw [ec1]; omega, by rw [ec1]; have := hok.2.2; rwa [k6, show n - i - 1 = n - (i + 1) by omega] at this, fun k a b => ?_⟩ (by omega)
              · rw [ec1] at hfin
                exact ok_fg [some (vr 0), some (vi l), some (vi r), some (vi c), some (vi (p2 n - 1)), some (vi (sB S j)), some (vi (i + 1)), none] ⟨rfl, rfl, rfl, rfl, rfl, rfl, rfl, trivial⟩ hfin
              · rw [ecs k a (by omega)]
                by_cases q : k = i
                · rw [q, up_same, ← eS]
                  exact ⟨j1, j2, hok, j3⟩
                · rw [up_nk _ _ _ _ q]
                  exact k8 k a (by omega)
            · exact nxt (fun q => by
                rcases hd with y | y
                · omega
                · refine y.2 ?_
                  have := q.2.2
                  rwa [show n - pc (sB S j) = n - pc S - 1 by omega])
    · refine ok_iconst 73 rfl rfl (by decide) (ok_zret 74 rfl rfl rfl (by first | omega | (simp [up_if]; omega) | (simp [up_if] at *; omega)) ?_)
      refine ⟨_, rfl, Or.inl ⟨rfl, ?_, i3⟩⟩
      rcases i4 0 (by omega) (by omega) with q | q
      · omega
      · have := q.2
        rwa [show pc 0 = 0 by simp [pc], Int.sub_zero] at this
  · refine ok_iload 18 rfl rfl rfl (ok_callSI (M' := M_Mo_bits) (as := [_]) 19 rfl rfl ml_X12_241 (s_Mo_bits (by omega)) ⟨Nat.le_of_ble_eq_true rfl, Nat.le_of_ble_eq_true rfl⟩ rfl (Nat.le_of_ble_eq_true rfl) (fun σ' z hz => ?_))
    rw [hz.1, hz.2]
    clear hz z σ'
    refine ok_ist6 20 rfl rfl rfl ?_
    have hp := (bitL (s := s) (n := n) (by omega) (by omega)).1 (by omega)
    have hp0 := (bitL (s := s) (n := n) (by omega) (by omega)).2.2.1
    refine ok_aload_n 21 rfl rfl rfl (ok_getR 22 rfl rfl fl_X12_42 rfl rfl (ok_iload 23 rfl rfl rfl (ok_ldc2 24 (-1) rfl rfl kc_X12_219 (by decide) (ok_last 25 rfl rfl rfl (by omega) (ok_iconst 26 rfl rfl (by decide) (ok_ist7 27 rfl rfl rfl ?_))))))
    refine lpO2 (fun (j : Int) (_ : eS) => [some (vr 0), some (vi l), some (vi r), some (vi c), some (vi (p2 n - 1)), some (vi s), some (vi (pc s)), some (vi j)]) (fun _ ρ => ρ) (fun j ρ => 0 ≤ j ∧ j ≤ n ∧ fr (fun c _ => c = 10) σ ρ ∧ (∀ T, s < T → T < p2 n → dpC n op ρ T) ∧ ((ρ 10 s = 1 ∧ ∃ j', 0 ≤ j' ∧ j' < n ∧ okJ n op s j') ∨ (ρ 10 s = -1 ∧ ∀ j', 0 ≤ j' → j' < j → ¬ okJ n op s j'))) (fun j _ => (n - j).toNat) ?_ 0 _ ⟨by omega, by omega, fr_up i3 rfl, fun T a b => ?_, Or.inr ⟨by rw [up_same], fun j' a b => by omega⟩⟩
    rotate_left
    · unfold dpC
      rw [up_nk _ _ _ _ (by omega)]
      exact i4 T a b
    rintro j ρ ⟨j1, j2, j3, j4, j5⟩ ih2
    obtain ⟨u1, u2, u3⟩ := hop ρ (j3.mono (fun c k q => by omega))
    have nxt : j < n → (¬ okJ n op s j ∨ ρ 10 s = 1) → Ok shB M_Mo_isChosen 107 [some (vr 0), some (vi l), some (vi r), some (vi c), some (vi (p2 n - 1)), some (vi s), some (vi (pc s)), some (vi j)] [] ρ (fun σ' v => ∃ z, v = some (vi z) ∧ Qch σ n op σ' z) := by
      intro hj hno
      refine ok_inc7 62 rfl rfl rfl (by first | omega | (simp [up_if]; omega) | (simp [up_if] at *; omega)) (ok_goto 63 49 rfl rfl rfl ?_)
      refine ih2 (j + 1) ρ ⟨by omega, by omega, j3, j4, ?_⟩ (by omega)
      rcases j5 with q | q
      · exact Or.inl q
      · rcases hno with y | y
        · exact Or.inr ⟨q.1, lt_ext q.2 y⟩
        · omega
    refine ok_iload 28 rfl rfl rfl (ok_aload_n 29 rfl rfl rfl (ok_getI 30 rfl rfl fl_X12_234 rfl rfl (Or.inl rfl) (ok_icmp_ge 31 113 rfl rfl rfl (fun h55 => ?_) (fun h55 => ?_))))
    · refine ok_inc5 64 rfl rfl rfl (by first | omega | (simp [up_if]; omega) | (simp [up_if] at *; omega)) (ok_goto 65 24 rfl rfl rfl ?_)
      refine ok_fg [some (vr 0), some (vi l), some (vi r), some (vi c), some (vi (p2 n - 1)), some (vi (s + -1)), none, none] ⟨rfl, rfl, rfl, rfl, rfl, rfl, trivial⟩ (ih (s + -1) ρ ⟨by omega, by omega, j3, fun T a b => ?_⟩ (by omega))
      by_cases q : T = s
      · rw [q]
        have hiff := cpl_iff (op := op) hp hp0
        rcases j5 with y | y
        · exact Or.inl ⟨y.1, hiff.mpr y.2⟩
        · exact Or.inr ⟨y.1, fun w => by obtain ⟨j', a1, a2, a3⟩ := hiff.mp w; exact y.2 j' a1 (by omega) a3⟩
      · exact j4 T (by omega) b
    · have e1 := bitG (s := s) (j := j) (by omega) (by omega)
      have e2 := bitP (s := s) (j := j) (by omega) (by omega)
      obtain ⟨l1, l2⟩ := sB_lt (s := s) (j := j) (n := n) ⟨by omega, by omega⟩ ⟨by omega, by omega⟩
      refine ok_iload 32 rfl rfl rfl (ok_iload 33 rfl rfl rfl (ok_ishr 34 rfl rfl (ok_iconst 35 rfl rfl (by decide) (ok_iand 36 rfl rfl ?_))))
      rw [e1]
      refine ok_if_ne 37 107 rfl rfl rfl (fun h65 => ?_) (fun h65 => ?_)
      · exact nxt (by omega) (Or.inl (fun q => h65 (b0.mpr q.1)))
      · refine ok_aload_n 38 rfl rfl rfl (ok_iload 39 rfl rfl rfl (ok_iload 40 rfl rfl rfl (ok_iload_n 41 rfl rfl rfl (ok_iload_n 42 rfl rfl rfl (ok_iload_n 43 rfl rfl rfl (ok_callVI (M' := M_Mo_isOpen) (as := [_, _, _, _, _]) 44 rfl rfl ml_X12_252 (s_Mo_isOpen u3 ⟨by omega, by omega⟩ ⟨by omega, by omega⟩) rfl rfl (Nat.le_of_ble_eq_true rfl) ⟨Nat.le_of_ble_eq_true rfl, Nat.le_of_ble_eq_true rfl⟩ rfl (Nat.le_of_ble_eq_true rfl) (fun σ' z hz => ?_)))))))
        obtain ⟨hs_, hz⟩ := hz
        rw [hs_]; clear hs_ σ'
        rw [u1] at hz
        have hb := b0.mp h65
        obtain ⟨hc1, hc2⟩ := bitC (s := s) (j := j) (by omega) (by omega) hb
        have hd := j4 (sB s j) hc2 l2
        refine ok_if_eq 45 107 rfl rfl rfl (fun h79 => ?_) (fun h79 => ?_)
        · exact nxt (by omega) (Or.inl (fun q => no1 hz h79 q.2.1))
        · refine ok_aload_n 46 rfl rfl rfl (ok_getR 47 rfl rfl fl_X12_42 rfl rfl (ok_iload 48 rfl rfl rfl (ok_iconst 49 rfl rfl (by decide) (ok_iload 50 rfl rfl rfl (ok_ishl 51 rfl rfl (ok_ior 52 rfl rfl ?_))))))
          rw [e2]
          refine ok_lald 53 rfl rfl rfl (by omega) (ok_lconst (w := 0) 54 rfl rfl rfl (by decide) (ok_lcmp_le 55 56 107 rfl rfl rfl rfl rfl (fun h95 => ?_) (fun h95 => ?_)))
          · refine nxt (by omega) (Or.inl (fun q => ?_))
            rcases hd with y | y
            · omega
            · exact y.2 (by have := q.2.2; rwa [show n - pc (sB s j) = n - pc s - 1 by omega])
          · refine ok_aload_n 57 rfl rfl rfl (ok_getR 58 rfl rfl fl_X12_42 rfl rfl (ok_iload 59 rfl rfl rfl (ok_lconst (w := 1) 60 rfl rfl rfl (by decide) (ok_last 61 rfl rfl rfl (by first | omega | (simp [up_if]; omega) | (simp [up_if] at *; omega)) ?_))))
            have hok : okJ n op s j := by
              refine ⟨hb, yes1 hz h79, ?_⟩
              rcases hd with y | y
              · have := y.2
                rwa [show n - pc (sB s j) = n - pc s - 1 by omega] at this
              · omega
            refine ok_inc7 62 rfl rfl rfl (by first | omega | (simp [up_if]; omega) | (simp [up_if] at *; omega)) (ok_goto 63 49 rfl rfl rfl ?_)
            refine ih2 (j + 1) _ ⟨by omega, by omega, fr_up j3 rfl, fun T a b => ?_, Or.inl ⟨by rw [up_same], j, j1, by omega, hok⟩⟩ (by omega)
            unfold dpC
            rw [up_nk _ _ _ _ (by omega)]
            exact j4 T a b
end
section
/-! the greatest: what is left of the rows, by sets of columns -/
/-- a column j that may follow the set T: free, great enough, and the rest has a choice -/
def okG (n l : Int) (w : Int → Int → Int) (v : Int → Int) (T j : Int) : Prop := bt T j = false ∧ l ≤ w (pc T) j ∧ 0 ≤ v (sB T j)
def cmbG (sums : Int) (a b : Int) : Int := if sums = 0 then min a b else a + b
def dpG (n l sums : Int) (w : Int → Int → Int) (v : Int → Int) (T : Int) : Prop := (∀ j, 0 ≤ j → j < n → okG n l w v T j → cmbG sums (w (pc T) j) (v (sB T j)) ≤ v T) ∧ ((v T = -1 ∧ ∀ j, 0 ≤ j → j < n → ¬ okG n l w v T j) ∨ ∃ j, 0 ≤ j ∧ j < n ∧ okG n l w v T j ∧ v T = cmbG sums (w (pc T) j) (v (sB T j)))
def dpP (n l sums : Int) (w : Int → Int → Int) (v : Int → Int) (T j : Int) : Prop := (v T = -1 ∧ ∀ j', 0 ≤ j' → j' < j → ¬ okG n l w v T j') ∨ ∃ j', 0 ≤ j' ∧ j' < n ∧ okG n l w v T j' ∧ v T = cmbG sums (w (pc T) j') (v (sB T j'))
def wBd (σ : eS) : Prop := ∀ i j, 0 ≤ i → i < σ 0 22 → 0 ≤ j → j < σ 0 22 → 0 ≤ wk σ i j ∧ wk σ i j ≤ 799999992
def Qlc (σ : eS) (n l sums : Int) (σ' : eS) : Prop := fr (fun c _ => c = 10) σ σ' ∧ σ' 10 (p2 n - 1) = (if sums = 0 then 9223372036854775807 else 0) ∧ ∀ T, 0 ≤ T → T < p2 n - 1 → dpG n l sums (wk σ) (fun k => σ' 10 k) T ∧ -1 ≤ σ' 10 T ∧ σ' 10 T ≤ 799999992 * 8
theorem s_Mo_laysCan {σ : eS} {l b : Int} (h : nW σ) (hw : wBd σ) (hl : 0 ≤ l) (hb : b = 0 ∨ b = 1) : MtV shB M_Mo_laysCan [vr 0, vi l, vi b] σ (Qlc σ (σ 0 22) l b) := by
  refine Mt.of okM_Mo_laysCan (Nat.le_of_ble_eq_true rfl) (fun hk hg => ?_)
  obtain ⟨n, en⟩ : ∃ x, x = σ 0 22 := ⟨_, rfl⟩
  have hn : 1 ≤ n ∧ n ≤ 8 := by rw [en]; exact h
  obtain ⟨z1, z2, z3, z4⟩ := bit2 (n := n) (by omega)
  have z4 := z4 hn.1
  rw [← en]
  have hop : ∀ τ : eS, fr (fun c _ => c = 10) σ τ → wk τ = wk σ ∧ τ 0 22 = n ∧ nW τ := fun τ f => by
    have e1 : τ 0 22 = n := by rw [f 0 22 (by omega), en]
    refine ⟨?_, e1, h.fr' (by rw [e1, en])⟩
    funext i j
    unfold wk
    rw [f 0 22 (by omega), f 9 _ (by omega)]
  have hwb : ∀ i j, 0 ≤ i → i < n → 0 ≤ j → j < n → 0 ≤ wk σ i j ∧ wk σ i j ≤ 799999992 := fun i j a1 a2 a3 a4 => hw i j a1 (by omega) a3 (by omega)
  have main : ∀ (τ : eS), fr (fun c _ => c = 10) σ τ → τ 10 (p2 n - 1) = (if b = 0 then 9223372036854775807 else 0) → Ok shB M_Mo_laysCan 26 [some (vr 0), some (vi l), some (vi b), some (vi (p2 n - 1)), none, none, none, none, none] [] τ (fun σ' v => v = none ∧ Qlc σ n l b σ') := by
    intro τ f0 v0
    refine ok_iload_n 16 rfl rfl rfl (ok_iconst 17 rfl rfl (by decide) (ok_isub 18 rfl rfl (by first | omega | (simp [up_if]; omega) | (simp [up_if] at *; omega)) (ok_ist4 19 rfl rfl rfl ?_)))
    refine lpO2 (fun (s : Int) (_ : eS) => [some (vr 0), some (vi l), some (vi b), some (vi (p2 n - 1)), some (vi s), none, none, none, none]) (fun _ τ => τ) (fun s τ => -1 ≤ s ∧ s < p2 n - 1 ∧ fr (fun c _ => c = 10) σ τ ∧ τ 10 (p2 n - 1) = (if b = 0 then 9223372036854775807 else 0) ∧ ∀ T, s < T → T < p2 n - 1 → dpG n l b (wk σ) (fun k => τ 10 k) T ∧ -1 ≤ τ 10 T ∧ τ 10 T ≤ 799999992 * (n - pc T)) (fun s _ => (s + 1).toNat) ?_ (p2 n - 1 - 1) _ ⟨by omega, by omega, f0, v0, fun T a b => by omega⟩
    clear f0 v0 τ
    rintro s τ ⟨i1, i2, i3, i5, i4⟩ ih
    refine ok_iload 20 rfl rfl rfl (ok_if_lt 21 194 rfl rfl rfl (fun h33 => ?_) (fun h33 => ?_))
    · refine ok_vret 107 rfl rfl rfl ?_
      refine ⟨rfl, i3, i5, fun T a b' => ?_⟩
      obtain ⟨y1, y2, y3⟩ := i4 T (by omega) b'
      have := (bitL (s := T) (n := n) (by omega) (by omega)).2.2.1
      exact ⟨y1, y2, by omega⟩
    · refine ok_iload 22 rfl rfl rfl (ok_callSI (M' := M_Mo_bits) (as := [_]) 23 rfl rfl ml_X12_241 (s_Mo_bits (by omega)) ⟨Nat.le_of_ble_eq_true rfl, Nat.le_of_ble_eq_true rfl⟩ rfl (Nat.le_of_ble_eq_true rfl) (fun σ' z hz => ?_))
      rw [hz.1, hz.2]
      clear hz z σ'
      refine ok_ist5 24 rfl rfl rfl ?_
      have hp := (bitL (s := s) (n := n) (by omega) (by omega)).1 (by omega)
      have hp0 := (bitL (s := s) (n := n) (by omega) (by omega)).2.2.1
      refine ok_aload_n 25 rfl rfl rfl (ok_getR 26 rfl rfl fl_X12_42 rfl rfl (ok_iload 27 rfl rfl rfl (ok_ldc2 28 (-1) rfl rfl kc_X12_219 (by decide) (ok_last 29 rfl rfl rfl (by omega) (ok_iconst 30 rfl rfl (by decide) (ok_ist6 31 rfl rfl rfl ?_))))))
      refine lpO2 (fun (j : Int) (_ : eS) => [some (vr 0), some (vi l), some (vi b), some (vi (p2 n - 1)), some (vi s), some (vi (pc s)), some (vi j), none, none]) (fun _ ρ => ρ) (fun j ρ => 0 ≤ j ∧ j ≤ n ∧ fr (fun c _ => c = 10) σ ρ ∧ ρ 10 (p2 n - 1) = (if b = 0 then 9223372036854775807 else 0) ∧ (∀ T, s < T → T < p2 n - 1 → dpG n l b (wk σ) (fun k => ρ 10 k) T ∧ -1 ≤ ρ 10 T ∧ ρ 10 T ≤ 799999992 * (n - pc T)) ∧ -1 ≤ ρ 10 s ∧ ρ 10 s ≤ 799999992 * (n - pc s) ∧ (∀ j', 0 ≤ j' → j' < j → okG n l (wk σ) (fun k => ρ 10 k) s j' → cmbG b (wk σ (pc s) j') (ρ 10 (sB s j')) ≤ ρ 10 s) ∧ dpP n l b (wk σ) (fun k => ρ 10 k) s j) (fun j _ => (n - j).toNat) ?_ 0 _ ⟨by omega, by omega, fr_up i3 rfl, by rw [up_nk _ _ _ _ (by omega)]; exact i5, fun T a b' => ?_, by rw [up_same]; omega, by rw [up_same]; omega, fun j' a b => by omega, Or.inl ⟨up_same _ _ _ _, fun j' a b => by omega⟩⟩
      rotate_left
      · obtain ⟨y1, y2, y3⟩ := i4 T a b'
        refine ⟨?_, by rw [up_nk _ _ _ _ (by omega)]; exact y2, by rw [up_nk _ _ _ _ (by omega)]; exact y3⟩
        have e : ∀ j, 0 ≤ j → j < n → bt T j = false → up τ 10 s (-1) 10 (sB T j) = τ 10 (sB T j) := fun j a1 a2 a3 => by
          have := (bitC (s := T) (j := j) (by omega) (by omega) a3).2
          rw [up_nk _ _ _ _ (by omega)]
        have eT : up τ 10 s (-1) 10 T = τ 10 T := up_nk _ _ _ _ (by omega)
        have eok : ∀ j, 0 ≤ j → j < n → (okG n l (wk σ) (fun k => up τ 10 s (-1) 10 k) T j ↔ okG n l (wk σ) (fun k => τ 10 k) T j) := fun j a1 a2 => by
          unfold okG
          constructor
          · rintro ⟨q1, q2, q3⟩; dsimp only at q3; rw [e j a1 a2 q1] at q3; exact ⟨q1, q2, q3⟩
          · rintro ⟨q1, q2, q3⟩; refine ⟨q1, q2, ?_⟩; dsimp only; rw [e j a1 a2 q1]; exact q3
        refine ⟨fun j a1 a2 a3 => ?_, ?_⟩
        · dsimp only
          rw [eT, e j a1 a2 a3.1]
          exact y1.1 j a1 a2 ((eok j a1 a2).mp a3)
        · dsimp only
          rw [eT]
          rcases y1.2 with q | ⟨j, q1, q2, q3, q4⟩
          · exact Or.inl ⟨q.1, fun j a1 a2 a3 => q.2 j a1 a2 ((eok j a1 a2).mp a3)⟩
          · exact Or.inr ⟨j, q1, q2, (eok j q1 q2).mpr q3, by rw [e j q1 q2 q3.1]; exact q4⟩
      rintro j ρ ⟨j1, j2, j3, jA, j4, j5, j6, j7, j8⟩ ih2
      obtain ⟨u1, u2, u3⟩ := hop ρ j3
      have nxt : j < n → ¬ okG n l (wk σ) (fun k => ρ 10 k) s j → Ok shB M_Mo_laysCan 182 [some (vr 0), some (vi l), some (vi b), some (vi (p2 n - 1)), some (vi s), some (vi (pc s)), some (vi j), none, none] [] ρ (fun σ' v => v = none ∧ Qlc σ n l b σ') := by
        intro hj hno
        refine ok_inc6 103 rfl rfl rfl (by first | omega | (simp [up_if]; omega) | (simp [up_if] at *; omega)) (ok_goto 104 56 rfl rfl rfl ?_)
        refine ih2 (j + 1) ρ ⟨by omega, by omega, j3, jA, j4, j5, j6, lt_ext j7 (fun q => absurd q hno), ?_⟩ (by omega)
        rcases j8 with q | q
        · exact Or.inl ⟨q.1, lt_ext q.2 hno⟩
        · exact Or.inr q
      refine ok_iload 32 rfl rfl rfl (ok_aload_n 33 rfl rfl rfl (ok_getI 34 rfl rfl fl_X12_234 rfl rfl (Or.inl rfl) (ok_icmp_ge 35 188 rfl rfl rfl (fun h62 => ?_) (fun h62 => ?_))))
      · refine ok_inc4 105 rfl rfl rfl (by first | omega | (simp [up_if]; omega) | (simp [up_if] at *; omega)) (ok_goto 106 31 rfl rfl rfl ?_)
        refine ok_fg [some (vr 0), some (vi l), some (vi b), some (vi (p2 n - 1)), some (vi (s + -1)), none, none, none, none] ⟨rfl, rfl, rfl, rfl, rfl, trivial⟩ (ih (s + -1) ρ ⟨by omega, by omega, j3, jA, fun T a b' => ?_⟩ (by omega))
        by_cases q : T = s
        · rw [q]
          refine ⟨⟨fun j' a1 a2 a3 => j7 j' a1 (by omega) a3, ?_⟩, j5, j6⟩
          rcases j8 with y | y
          · exact Or.inl ⟨y.1, fun j' a1 a2 => y.2 j' a1 (by omega)⟩
          · exact Or.inr y
        · exact j4 T (by omega) b'
      · have e1 := bitG (s := s) (j := j) (by omega) (by omega)
        have e2 := bitP (s := s) (j := j) (by omega) (by omega)
        obtain ⟨l1, l2⟩ := sB_lt (s := s) (j := j) (n := n) ⟨by omega, by omega⟩ ⟨by omega, by omega⟩
        have wb := hwb (pc s) j (by omega) (by omega) (by omega) (by omega)
        refine ok_iload 36 rfl rfl rfl (ok_iload 37 rfl rfl rfl (ok_ishr 38 rfl rfl (ok_iconst 39 rfl rfl (by decide) (ok_iand 40 rfl rfl ?_))))
        rw [e1]
        refine ok_iconst 41 rfl rfl (by decide) (ok_icmp_eq 42 182 rfl rfl rfl (fun h73 => ?_) (fun h73 => ?_))
        · exact nxt (by omega) (fun q => by have q1 := q.1; rw [b1'.mp h73] at q1; cases q1)
        · refine ok_aload_n 43 rfl rfl rfl (ok_iload 44 rfl rfl rfl (ok_iload 45 rfl rfl rfl (ok_callVI (M' := M_Mo_worked) (as := [_, _]) 46 rfl rfl ml_X12_244 (s_Mo_worked u3 ⟨by omega, by omega⟩ ⟨by omega, by omega⟩) rfl rfl (Nat.le_of_ble_eq_true rfl) ⟨Nat.le_of_ble_eq_true rfl, Nat.le_of_ble_eq_true rfl⟩ rfl (Nat.le_of_ble_eq_true rfl) (fun σ' z hz => ?_))))
          rw [hz.1, hz.2, u1]; clear hz z σ'
          have hb' : bt s j = false := by
            cases hq : bt s j with
            | false => rfl
            | true => exact absurd (b1'.mpr hq) h73
          obtain ⟨hc1, hc2⟩ := bitC (s := s) (j := j) (by omega) (by omega) hb'
          refine ok_iload_n 47 rfl rfl rfl (ok_icmp_lt 48 182 rfl rfl rfl (fun h85 => ?_) (fun h85 => ?_))
          · exact nxt (by omega) (fun q => by have := q.2.1; omega)
          · refine ok_aload_n 49 rfl rfl rfl (ok_getR 50 rfl rfl fl_X12_42 rfl rfl (ok_iload 51 rfl rfl rfl (ok_iconst 52 rfl rfl (by decide) (ok_iload 53 rfl rfl rfl (ok_ishl 54 rfl rfl (ok_ior 55 rfl rfl ?_))))))
            rw [e2]
            refine ok_lald 56 rfl rfl rfl (by omega) (ok_lconst (w := 0) 57 rfl rfl rfl (by decide) (ok_lcmp_ge 58 59 108 rfl rfl rfl rfl rfl (fun h101 => ?_) (fun h101 => ?_)))
            · have hok : okG n l (wk σ) (fun k => ρ 10 k) s j := ⟨hb', by omega, by omega⟩
              have vb : (b = 1 → ρ 10 (sB s j) ≤ 799999992 * (n - pc s - 1)) ∧ 0 ≤ ρ 10 (sB s j) := by
                refine ⟨fun hb1 => ?_, by omega⟩
                by_cases q : sB s j = p2 n - 1
                · rw [q, jA, if_neg (by omega)]; omega
                · have := (j4 (sB s j) hc2 (by omega)).2.2; omega
              refine ok_iload_n 61 rfl rfl rfl (ok_if_eq 62 137 rfl rfl rfl (fun h109 => ?_) (fun h109 => ?_))
              · refine ok_aload_n 78 rfl rfl rfl (ok_iload 79 rfl rfl rfl (ok_iload 80 rfl rfl rfl (ok_callVI (M' := M_Mo_worked) (as := [_, _]) 81 rfl rfl ml_X12_244 (s_Mo_worked u3 ⟨by omega, by omega⟩ ⟨by omega, by omega⟩) rfl rfl (Nat.le_of_ble_eq_true rfl) ⟨Nat.le_of_ble_eq_true rfl, Nat.le_of_ble_eq_true rfl⟩ rfl (Nat.le_of_ble_eq_true rfl) (fun σ' z hz => ?_))))
                rw [hz.1, hz.2, u1]; clear hz z σ'
                refine ok_i2l 82 rfl rfl (ok_aload_n 83 rfl rfl rfl (ok_getR 84 rfl rfl fl_X12_42 rfl rfl (ok_iload 85 rfl rfl rfl (ok_iconst 86 rfl rfl (by decide) (ok_iload 87 rfl rfl rfl (ok_ishl 88 rfl rfl (ok_ior 89 rfl rfl ?_)))))))
                rw [e2]
                refine ok_lald 90 rfl rfl rfl (by omega) (ok_mminL 91 rfl rfl ml_X12_247 ⟨Nat.le_of_ble_eq_true rfl, Nat.le_of_ble_eq_true rfl⟩ (ok_lst7 92 rfl rfl rfl (ok_aload_n 93 rfl rfl rfl (ok_getR 94 rfl rfl fl_X12_42 rfl rfl (ok_iload 95 rfl rfl rfl (ok_aload_n 96 rfl rfl rfl (ok_getR 97 rfl rfl fl_X12_42 rfl rfl (ok_iload 98 rfl rfl rfl (ok_lald 99 rfl rfl rfl (by omega) (ok_lload 100 rfl rfl rfl (ok_mmaxL 101 rfl rfl ml_X12_250 ⟨Nat.le_of_ble_eq_true rfl, Nat.le_of_ble_eq_true rfl⟩ (ok_last 102 rfl rfl rfl (by omega) (ok_inc6 103 rfl rfl rfl (by first | omega | (simp [up_if]; omega) | (simp [up_if] at *; omega)) (ok_goto 104 56 rfl rfl rfl ?_))))))))))))))
                obtain ⟨X, eX⟩ : ∃ x, x = cmbG b (wk σ (pc s) j) (ρ 10 (sB s j)) := ⟨_, rfl⟩
                have hX : 0 ≤ X ∧ X ≤ 799999992 * (n - pc s) := by
                  rw [eX]; unfold cmbG
                  split
                  · omega
                  · have := vb.1 (by omega); omega
                first | (have eX' : wk σ (pc s) j + ρ 10 (sB s j) = X := by
                           rw [eX]; unfold cmbG; rw [if_neg (by omega)]
                         rw [eX']) | (have eX' : min (wk σ (pc s) j) (ρ 10 (sB s j)) = X := by
                                       rw [eX]; unfold cmbG; rw [if_pos (by omega)]
                                      rw [eX'])
                have ev : ∀ k, s < k → up ρ 10 s (max (ρ 10 s) X) 10 k = ρ 10 k := fun k hk => up_nk _ _ _ _ (by omega)
                have eok : ∀ T j', s ≤ T → T < p2 n - 1 → 0 ≤ j' → j' < n → (okG n l (wk σ) (fun k => up ρ 10 s (max (ρ 10 s) X) 10 k) T j' ↔ okG n l (wk σ) (fun k => ρ 10 k) T j') := fun T j' a0 a1 a2 a3 => by
                  unfold okG
                  constructor
                  · rintro ⟨q1, q2, q3⟩; have := (bitC (s := T) (j := j') (by omega) (by omega) q1).2; dsimp only at q3; rw [ev _ (by omega)] at q3; exact ⟨q1, q2, q3⟩
                  · rintro ⟨q1, q2, q3⟩; have := (bitC (s := T) (j := j') (by omega) (by omega) q1).2; refine ⟨q1, q2, ?_⟩; dsimp only; rw [ev _ (by omega)]; exact q3
                refine ok_fg [some (vr 0), some (vi l), some (vi b), some (vi (p2 n - 1)), some (vi s), some (vi (pc s)), some (vi (j + 1)), none, none] ⟨rfl, rfl, rfl, rfl, rfl, rfl, rfl, trivial⟩ (ih2 (j + 1) _ ⟨by omega, by omega, fr_up j3 rfl, by rw [ev _ (by omega)]; exact jA, fun T a b' => ?_, by rw [up_same]; omega, by rw [up_same]; omega, ?_, ?_⟩ (by omega))
                · obtain ⟨y1, y2, y3⟩ := j4 T a b'
                  refine ⟨⟨fun j' a1 a2 a3 => ?_, ?_⟩, by rw [ev T a]; exact y2, by rw [ev T a]; exact y3⟩
                  · have hh := (eok T j' (by omega) b' a1 a2).mp a3
                    have := (bitC (s := T) (j := j') (by omega) (by omega) hh.1).2
                    dsimp only
                    rw [ev T a, ev _ (by omega)]
                    exact y1.1 j' a1 a2 hh
                  · dsimp only
                    rw [ev T a]
                    rcases y1.2 with q | ⟨j', q1, q2, q3, q4⟩
                    · exact Or.inl ⟨q.1, fun j' a1 a2 a3 => q.2 j' a1 a2 ((eok T j' (by omega) b' a1 a2).mp a3)⟩
                    · have := (bitC (s := T) (j := j') (by omega) (by omega) q3.1).2
                      exact Or.inr ⟨j', q1, q2, (eok T j' (by omega) b' q1 q2).mpr q3, by rw [ev _ (by omega)]; exact q4⟩
                · intro j' a1 a2 a3
                  have hh := (eok s j' (Int.le_refl _) (by omega) a1 (by omega)).mp a3
                  have h8 := (bitC (s := s) (j := j') (by omega) (by omega) hh.1).2
                  rw [up_same, ev _ h8]
                  by_cases q : j' = j
                  · rw [q, ← eX]; omega
                  · have := j7 j' a1 (by omega) hh; omega
                · unfold dpP
                  dsimp only
                  rw [up_same]
                  by_cases q : ρ 10 s < X
                  · refine Or.inr ⟨j, j1, by omega, (eok s j (Int.le_refl _) (by omega) j1 (by omega)).mpr hok, ?_⟩
                    rw [ev _ hc2, ← eX]; omega
                  · rcases j8 with y | ⟨j', q1, q2, q3, q4⟩
                    · have y1 : ρ 10 s = -1 := y.1
                      omega
                    · have h8 := (bitC (s := s) (j := j') (by omega) (by omega) q3.1).2
                      refine Or.inr ⟨j', q1, q2, (eok s j' (Int.le_refl _) (by omega) q1 q2).mpr q3, ?_⟩
                      have q5 : ρ 10 s = cmbG b (wk σ (pc s) j') (ρ 10 (sB s j')) := q4
                      rw [ev _ h8, ← q5]; omega
              · refine ok_aload_n 63 rfl rfl rfl (ok_iload 64 rfl rfl rfl (ok_iload 65 rfl rfl rfl (ok_callVI (M' := M_Mo_worked) (as := [_, _]) 66 rfl rfl ml_X12_244 (s_Mo_worked u3 ⟨by omega, by omega⟩ ⟨by omega, by omega⟩) rfl rfl (Nat.le_of_ble_eq_true rfl) ⟨Nat.le_of_ble_eq_true rfl, Nat.le_of_ble_eq_true rfl⟩ rfl (Nat.le_of_ble_eq_true rfl) (fun σ' z hz => ?_))))
                rw [hz.1, hz.2, u1]; clear hz z σ'
                refine ok_i2l 67 rfl rfl (ok_aload_n 68 rfl rfl rfl (ok_getR 69 rfl rfl fl_X12_42 rfl rfl (ok_iload 70 rfl rfl rfl (ok_iconst 71 rfl rfl (by decide) (ok_iload 72 rfl rfl rfl (ok_ishl 73 rfl rfl (ok_ior 74 rfl rfl ?_)))))))
                rw [e2]
                refine ok_lald 75 rfl rfl rfl (by omega) (ok_ladd 76 rfl rfl (by have := vb.1 (by omega); omega) (ok_goto 77 161 rfl rfl rfl (ok_lst7 92 rfl rfl rfl (ok_aload_n 93 rfl rfl rfl (ok_getR 94 rfl rfl fl_X12_42 rfl rfl (ok_iload 95 rfl rfl rfl (ok_aload_n 96 rfl rfl rfl (ok_getR 97 rfl rfl fl_X12_42 rfl rfl (ok_iload 98 rfl rfl rfl (ok_lald 99 rfl rfl rfl (by omega) (ok_lload 100 rfl rfl rfl (ok_mmaxL 101 rfl rfl ml_X12_250 ⟨Nat.le_of_ble_eq_true rfl, Nat.le_of_ble_eq_true rfl⟩ (ok_last 102 rfl rfl rfl (by omega) (ok_inc6 103 rfl rfl rfl (by first | omega | (simp [up_if]; omega) | (simp [up_if] at *; omega)) (ok_goto 104 56 rfl rfl rfl ?_)))))))))))))))
                obtain ⟨X, eX⟩ : ∃ x, x = cmbG b (wk σ (pc s) j) (ρ 10 (sB s j)) := ⟨_, rfl⟩
                have hX : 0 ≤ X ∧ X ≤ 799999992 * (n - pc s) := by
                  rw [eX]; unfold cmbG
                  split
                  · omega
                  · have := vb.1 (by omega); omega
                first | (have eX' : wk σ (pc s) j + ρ 10 (sB s j) = X := by
                           rw [eX]; unfold cmbG; rw [if_neg (by omega)]
                         rw [eX']) | (have eX' : min (wk σ (pc s) j) (ρ 10 (sB s j)) = X := by
                                       rw [eX]; unfold cmbG; rw [if_pos (by omega)]
                                      rw [eX'])
                have ev : ∀ k, s < k → up ρ 10 s (max (ρ 10 s) X) 10 k = ρ 10 k := fun k hk => up_nk _ _ _ _ (by omega)
                have eok : ∀ T j', s ≤ T → T < p2 n - 1 → 0 ≤ j' → j' < n → (okG n l (wk σ) (fun k => up ρ 10 s (max (ρ 10 s) X) 10 k) T j' ↔ okG n l (wk σ) (fun k => ρ 10 k) T j') := fun T j' a0 a1 a2 a3 => by
                  unfold okG
                  constructor
                  · rintro ⟨q1, q2, q3⟩; have := (bitC (s := T) (j := j') (by omega) (by omega) q1).2; dsimp only at q3; rw [ev _ (by omega)] at q3; exact ⟨q1, q2, q3⟩
                  · rintro ⟨q1, q2, q3⟩; have := (bitC (s := T) (j := j') (by omega) (by omega) q1).2; refine ⟨q1, q2, ?_⟩; dsimp only; rw [ev _ (by omega)]; exact q3
                refine ok_fg [some (vr 0), some (vi l), some (vi b), some (vi (p2 n - 1)), some (vi s), some (vi (pc s)), some (vi (j + 1)), none, none] ⟨rfl, rfl, rfl, rfl, rfl, rfl, rfl, trivial⟩ (ih2 (j + 1) _ ⟨by omega, by omega, fr_up j3 rfl, by rw [ev _ (by omega)]; exact jA, fun T a b' => ?_, by rw [up_same]; omega, by rw [up_same]; omega, ?_, ?_⟩ (by omega))
                · obtain ⟨y1, y2, y3⟩ := j4 T a b'
                  refine ⟨⟨fun j' a1 a2 a3 => ?_, ?_⟩, by rw [ev T a]; exact y2, by rw [ev T a]; exact y3⟩
                  · have hh := (eok T j' (by omega) b' a1 a2).mp a3
                    have := (bitC (s := T) (j := j') (by omega) (by omega) hh.1).2
                    dsimp only
                    rw [ev T a, ev _ (by omega)]
                    exact y1.1 j' a1 a2 hh
                  · dsimp only
                    rw [ev T a]
                    rcases y1.2 with q | ⟨j', q1, q2, q3, q4⟩
                    · exact Or.inl ⟨q.1, fun j' a1 a2 a3 => q.2 j' a1 a2 ((eok T j' (by omega) b' a1 a2).mp a3)⟩
                    · have := (bitC (s := T) (j := j') (by omega) (by omega) q3.1).2
                      exact Or.inr ⟨j', q1, q2, (eok T j' (by omega) b' q1 q2).mpr q3, by rw [ev _ (by omega)]; exact q4⟩
                · intro j' a1 a2 a3
                  have hh := (eok s j' (Int.le_refl _) (by omega) a1 (by omega)).mp a3
                  have h8 := (bitC (s := s) (j := j') (by omega) (by omega) hh.1).2
                  rw [up_same, ev _ h8]
                  by_cases q : j' = j
                  · rw [q, ← eX]; omega
                  · have := j7 j' a1 (by omega) hh; omega
                · unfold dpP
                  dsimp only
                  rw [up_same]
                  by_cases q : ρ 10 s < X
                  · refine Or.inr ⟨j, j1, by omega, (eok s j (Int.le_refl _) (by omega) j1 (by omega)).mpr hok, ?_⟩
                    rw [ev _ hc2, ← eX]; omega
                  · rcases j8 with y | ⟨j', q1, q2, q3, q4⟩
                    · have y1 : ρ 10 s = -1 := y.1
                      omega
                    · have h8 := (bitC (s := s) (j := j') (by omega) (by omega) q3.1).2
                      refine Or.inr ⟨j', q1, q2, (eok s j' (Int.le_refl _) (by omega) q1 q2).mpr q3, ?_⟩
                      have q5 : ρ 10 s = cmbG b (wk σ (pc s) j') (ρ 10 (sB s j')) := q4
                      rw [ev _ h8, ← q5]; omega
            · refine ok_goto 60 182 rfl rfl rfl ?_
              exact nxt (by omega) (fun q => by have q9 : 0 ≤ ρ 10 (sB s j) := q.2.2; omega)
  refine ok_iconst 0 rfl rfl (by decide) (ok_aload_n 1 rfl rfl rfl (ok_getI 2 rfl rfl fl_X12_234 rfl rfl (Or.inl rfl) (ok_ishl 3 rfl rfl ?_)))
  rw [← en, z1]
  refine ok_iconst 4 rfl rfl (by decide) (ok_isub 5 rfl rfl (by first | omega | (simp [up_if]; omega) | (simp [up_if] at *; omega)) (ok_ist3 6 rfl rfl rfl (ok_aload_n 7 rfl rfl rfl (ok_getR 8 rfl rfl fl_X12_42 rfl rfl (ok_iload_n 9 rfl rfl rfl (ok_iload_n 10 rfl rfl rfl (ok_if_eq 11 22 rfl rfl rfl (fun h15 => ?_) (fun h15 => ?_))))))))
  · refine ok_ldc2 14 (9223372036854775807) rfl rfl kc_X12_239 (by decide) (ok_last 15 rfl rfl rfl (by first | omega | (simp [up_if]; omega) | (simp [up_if] at *; omega)) ?_)
    first | exact main _ (fr_up fr.rf rfl) (by rw [up_same, if_neg (by omega)]) | exact main _ (fr_up fr.rf rfl) (by rw [up_same, if_pos (by omega)])
  · refine ok_lconst (w := 0) 12 rfl rfl rfl (by decide) (ok_goto 13 25 rfl rfl rfl (ok_last 15 rfl rfl rfl (by first | omega | (simp [up_if]; omega) | (simp [up_if] at *; omega)) ?_))
    first | exact main _ (fr_up fr.rf rfl) (by rw [up_same, if_neg (by omega)]) | exact main _ (fr_up fr.rf rfl) (by rw [up_same, if_pos (by omega)])
end
section
/-! from pairings to sets, and even tables -/
theorem bt_cs {f : Int → Int} : ∀ {k : Nat}, (∀ i : Int, 0 ≤ i → i < k → 0 ≤ f i) → ∀ {c : Int}, 0 ≤ c → (bt (cs f k) c = true ↔ ∃ i : Int, 0 ≤ i ∧ i < k ∧ f i = c)
  | 0, _, c, hc => by
    show bt 0 c = true ↔ _
    rw [bt_0]
    constructor
    · intro h; cases h
    · rintro ⟨i, h1, h2, -⟩; omega
  | k + 1, h, c, hc => by
    show bt (sB (cs f k) (f k)) c = true ↔ _
    rw [bt_sB (h k (by omega) (by omega)) hc, Bool.or_eq_true, bt_cs (k := k) (fun i a b => h i a (by omega)) hc, decide_eq_true_eq]
    constructor
    · rintro (⟨i, h1, h2, h3⟩ | h1)
      · exact ⟨i, h1, by omega, h3⟩
      · exact ⟨k, by omega, by omega, h1.symm⟩
    · rintro ⟨i, h1, h2, h3⟩
      by_cases q : i = k
      · exact Or.inr (by rw [← h3, q])
      · exact Or.inl ⟨i, h1, by omega, h3⟩
/-- columns that rows have, one each -/
def perm (n : Int) (f : Int → Int) : Prop := (∀ i, 0 ≤ i → i < n → 0 ≤ f i ∧ f i < n) ∧ ∀ i k, 0 ≤ i → i < k → k < n → f i ≠ f k
theorem cpl_of {n : Int} {op : Int → Int → Prop} {f : Int → Int} (hn : 0 ≤ n) (hf : perm n f) (ho : ∀ i, 0 ≤ i → i < n → op i (f i)) : cpl n op n.toNat 0 := by
  have key : ∀ m : Nat, (m : Int) ≤ n → cpl n op m (cs f (n - m).toNat) := by
    intro m
    induction m with
    | zero => intro _; trivial
    | succ m ih =>
      intro hm
      have e : (n - (m : Nat)).toNat = (n - ((m + 1 : Nat) : Int)).toNat + 1 := by omega
      have h1 := ih (by omega)
      have hk : (((n - ((m + 1 : Nat) : Int)).toNat : Nat) : Int) = n - ((m + 1 : Nat) : Int) := by omega
      rw [e] at h1
      have h2 : cpl n op m (sB (cs f (n - ((m + 1 : Nat) : Int)).toNat) (f (((n - ((m + 1 : Nat) : Int)).toNat : Nat) : Int))) := h1
      rw [hk] at h2
      have hb := hf.1 (n - ((m + 1 : Nat) : Int)) (by omega) (by omega)
      refine ⟨f (n - ((m + 1 : Nat) : Int)), hb.1, hb.2, ?_, ho _ (by omega) (by omega), h2⟩
      cases hq : bt (cs f (n - ((m + 1 : Nat) : Int)).toNat) (f (n - ((m + 1 : Nat) : Int))) with
      | false => rfl
      | true =>
        obtain ⟨i, a1, a2, a3⟩ := (bt_cs (fun i a b => (hf.1 i a (by omega)).1) hb.1).mp hq
        exact absurd a3 (hf.2 i _ a1 (by omega) (by omega))
  have := key n.toNat (by omega)
  rw [show (n - ((n.toNat : Nat) : Int)).toNat = 0 by omega] at this
  exact this
theorem lexCh_perm {n : Int} {op : Int → Int → Prop} {ch : Int → Int} (h : lexCh n op ch) : perm n ch ∧ ∀ i, 0 ≤ i → i < n → op (pc (cs ch i.toNat)) (ch i) := by
  refine ⟨⟨fun i a b => ⟨(h i a b).1, (h i a b).2.1⟩, fun i k a b c q => ?_⟩, fun i a b => (h i a b).2.2.1.2.1⟩
  have h1 := (h k (by omega) c).2.2.1.1
  have h2 : bt (cs ch k.toNat) (ch k) = true := (bt_cs (fun j x y => (h j x (by omega)).1) (h k (by omega) c).1).mpr ⟨i, a, by omega, q⟩
  rw [h1] at h2
  cases h2
theorem lexCh_pc {n : Int} {op : Int → Int → Prop} {ch : Int → Int} (hn : n ≤ 8) (h : lexCh n op ch) : ∀ i : Nat, (i : Int) ≤ n → 0 ≤ cs ch i ∧ cs ch i < p2 n ∧ pc (cs ch i) = i := by
  intro i
  induction i with
  | zero => intro h0; exact ⟨Int.le_refl _, by show (0 : Int) < p2 n; exact Int.lt_of_lt_of_le (by decide) (bit2 (n := n) (by omega)).2.1, by show pc 0 = 0; simp [pc]⟩
  | succ i ih =>
    intro hi
    obtain ⟨h1, h2, h3⟩ := ih (by omega)
    have hh := h i (by omega) (by omega)
    have h4 := (bit2 (n := n) (by omega)).2.2.1
    rw [Int.toNat_natCast] at hh
    obtain ⟨l1, l2⟩ := sB_lt (s := cs ch i) (j := ch i) (n := n) ⟨h1, h2⟩ ⟨hh.1, hh.2.1⟩
    have h5 := (bitC (s := cs ch i) (j := ch i) ⟨h1, by omega⟩ ⟨hh.1, by omega⟩ hh.2.2.1.1).1
    refine ⟨l1, l2, ?_⟩
    have h6 : cs ch (i + 1) = sB (cs ch i) (ch i) := rfl
    rw [h6]
    omega
theorem s2_sm (f : Int → Int) : ∀ n : Nat, s2 (fun k => f (k : Int)) n = sm f n
  | 0 => rfl
  | n + 1 => by
    show s2 (fun k => f (k : Int)) n + f n = sm f n + f n
    rw [s2_sm f n]
/-- an even table of numbers -/
def EvW (n : Int) (w : Int → Int → Int) (m : Int) : Prop := (∀ i j, 0 ≤ i → i < n → 0 ≤ j → j < n → 0 ≤ w i j) ∧ (∀ i, 0 ≤ i → i < n → sm (fun j => w i j) n.toNat = m) ∧ (∀ j, 0 ≤ j → j < n → sm (fun i => w i j) n.toNat = m)
/-- there is a choice of cells above 0, through a cell above 0 where one is told -/
theorem birk {n : Int} {w : Int → Int → Int} {m : Int} (h : EvW n w m) (hm : 0 < m) (hn : 0 ≤ n) : ∃ f, perm n f ∧ ∀ i, 0 ≤ i → i < n → 0 < w i (f i) := by
  obtain ⟨h1, h2, h3⟩ := h
  obtain ⟨f, hf⟩ := hall (n := n.toNat) (w := fun r c => w r c) (A := fun _ => true) (B := fun _ => true) (e := fun _ => 0) (m := m) (fun r c a b => h1 r c (by omega) (by omega) (by omega) (by omega)) (fun r _ => Int.le_refl _)
    (fun r a _ => by simp only [if_true]; rw [s2_sm (fun c => w r c), h2 r (by omega) (by omega)]; omega) (fun c a _ => by simp only [if_true]; rw [s2_sm (fun r => w r c), h3 c (by omega) (by omega)]; omega) (by simp only [if_true]; rw [s2_0]; exact hm)
  refine ⟨fun i => (f i.toNat : Int), ⟨fun i a b => ?_, fun i k a b c q => ?_⟩, fun i a b => ?_⟩
  · have := (hf.1 i.toNat (by omega) rfl).1
    dsimp only
    exact ⟨by omega, by omega⟩
  · have := hf.2 i.toNat k.toNat (by omega) (by omega) rfl rfl (by dsimp only at q; omega)
    omega
  · have := (hf.1 i.toNat (by omega) rfl).2
    simp at this
    rwa [show max i 0 = i by omega] at this
theorem birk2 {n : Int} {w : Int → Int → Int} {m i0 j0 : Int} (h : EvW n w m) (hi : 0 ≤ i0 ∧ i0 < n) (hj : 0 ≤ j0 ∧ j0 < n) (hp : 0 < w i0 j0) : ∃ f, perm n f ∧ f i0 = j0 ∧ ∀ i, 0 ≤ i → i < n → 0 < w i (f i) := by
  obtain ⟨h1, h2, h3⟩ := h
  obtain ⟨N, eN⟩ : ∃ N : Nat, (N : Int) = n := ⟨n.toNat, by omega⟩
  obtain ⟨a, ea⟩ : ∃ N : Nat, (N : Int) = i0 := ⟨i0.toNat, by omega⟩
  obtain ⟨b, eb⟩ : ∃ N : Nat, (N : Int) = j0 := ⟨j0.toNat, by omega⟩
  subst eN; subst ea; subst eb
  simp only [Int.toNat_natCast] at h2 h3
  have hrow : ∀ r : Nat, r < N → s2 (fun c => w r c) N = m := fun r hr => by rw [s2_sm (fun c => w r c)]; exact h2 r (by omega) (by omega)
  have hcol : ∀ c : Nat, c < N → s2 (fun r => w r c) N = m := fun c hc => by rw [s2_sm (fun r => w r c)]; exact h3 c (by omega) (by omega)
  have hnn : ∀ r c : Nat, r < N → c < N → 0 ≤ w r c := fun r c x y => h1 r c (by omega) (by omega) (by omega) (by omega)
  obtain ⟨f, hf⟩ := hall (n := N) (w := fun r c => w r c) (A := fun r => decide (r ≠ a)) (B := fun c => decide (c ≠ b)) (e := fun r => w r b) (m := m) hnn (fun r x => hnn r b x (by omega))
    (fun r x _ => by
      have e1 : s2 (fun c => if decide (c ≠ b) = true then w r c else 0) N = s2 (fun c => w r c - (if c = b then w r c else 0)) N := s2_cg (fun c _ => by
        by_cases q : c = b
        · simp [q]
        · simp [q])
      rw [e1, s2_sub, s2_one (fun c => w r c) (by omega), hrow r x]
      exact Int.le_refl _)
    (fun c x _ => by
      rw [← hcol c x]
      exact s2_le (fun r y => by split; exact Int.le_refl _; exact hnn r c y x))
    (by
      have e1 : s2 (fun r => if decide (r ≠ a) = true then w r b else 0) N = s2 (fun r => w r b - (if r = a then w r b else 0)) N := s2_cg (fun r _ => by
        by_cases q : r = a
        · simp [q]
        · simp [q])
      rw [e1, s2_sub, s2_one (fun r => w r b) (by omega), hcol b (by omega)]
      omega)
  refine ⟨fun i => if i = a then b else (f i.toNat : Int), ⟨fun i x y => ?_, fun i k x y z q => ?_⟩, if_pos rfl, fun i x y => ?_⟩
  · dsimp only
    split
    · exact ⟨by omega, by omega⟩
    · next q =>
      have := (hf.1 i.toNat (by omega) (by simp; omega)).1
      exact ⟨by omega, by omega⟩
  · dsimp only at q
    have nb : ∀ i : Int, 0 ≤ i → i < N → i ≠ a → (f i.toNat : Int) ≠ b := fun i x y z => by
      have := (hf.1 i.toNat (by omega) (by simp; omega)).2
      simp at this
      have := this.2
      omega
    by_cases q1 : i = a
    · rw [if_pos q1, if_neg (by omega)] at q
      exact nb k (by omega) z (by omega) q.symm
    · by_cases q2 : k = a
      · rw [if_neg q1, if_pos q2] at q
        exact nb i x (by omega) q1 q
      · rw [if_neg q1, if_neg q2] at q
        have := hf.2 i.toNat k.toNat (by omega) (by omega) (by simp; omega) (by simp; omega) (by omega)
        omega
  · dsimp only
    split
    · next q => rw [q]; exact hp
    · next q =>
      have := (hf.1 i.toNat (by omega) (by simp; omega)).2
      simp at this
      have h9 := this.1
      rwa [show max i 0 = i by omega] at h9
/-- every column has one row -/
theorem perm_col {n : Int} {f : Int → Int} (hn : 0 ≤ n) (h : perm n f) (v : Int) {j : Int} (hj : 0 ≤ j ∧ j < n) : sm (fun i => if f i = j then v else 0) n.toNat = v := by
  obtain ⟨N, eN⟩ : ∃ N : Nat, (N : Int) = n := ⟨n.toNat, by omega⟩
  subst eN
  rw [Int.toNat_natCast, ← s2_sm]
  have cnt1 : ∀ c : Nat, c < N → s2 (fun i : Nat => if f i = c then (1 : Int) else 0) N ≤ 1 := by
    intro c hc
    by_cases q : ∃ i : Nat, i < N ∧ f i = c
    · obtain ⟨i, a1, a2⟩ := q
      have : s2 (fun k : Nat => if f k = c then (1 : Int) else 0) N = s2 (fun k => if k = i then (1 : Int) else 0) N := s2_cg (fun k hk => by
        by_cases z : k = i
        · rw [if_pos z, z, if_pos a2]
        · rw [if_neg z, if_neg]
          intro y
          rcases Nat.lt_or_ge k i with w | w
          · exact h.2 k i (by omega) (by omega) (by omega) (by rw [y, a2])
          · exact h.2 i k (by omega) (by omega) (by omega) (by rw [y, a2]))
      rw [this, s2_one (fun _ => 1) a1]
      exact Int.le_refl _
    · have : s2 (fun k : Nat => if f k = c then (1 : Int) else 0) N = s2 (fun _ => 0) N := s2_cg (fun k hk => if_neg (fun y => q ⟨k, hk, y⟩))
      rw [this, s2_0]
      decide
  have tot : s2 (fun c : Nat => s2 (fun i : Nat => if f i = c then (1 : Int) else 0) N) N = s2 (fun _ => 1) N := by
    rw [s2_swap (fun c i : Nat => if f i = c then (1 : Int) else 0) N N]
    refine s2_cg (fun i hi => ?_)
    have hb := h.1 i (by omega) (by omega)
    have : s2 (fun c : Nat => if f i = c then (1 : Int) else 0) N = s2 (fun c => if c = (f i).toNat then (1 : Int) else 0) N := s2_cg (fun c hc => by
      by_cases z : f i = c
      · rw [if_pos z, if_pos (by omega)]
      · rw [if_neg z, if_neg (by omega)])
    rw [this, s2_one (fun _ => 1) (by omega)]
  have one : ∀ c : Nat, c < N → s2 (fun i : Nat => if f i = c then (1 : Int) else 0) N = 1 := by
    intro c hc
    have h1 := cnt1 c hc
    have h2 : s2 (fun c' : Nat => s2 (fun i : Nat => if f i = c' then (1 : Int) else 0) N) N ≤ s2 (fun c' => (1 : Int) - (if c' = c then (1 - s2 (fun i : Nat => if f i = c' then (1 : Int) else 0) N) else 0)) N := s2_le (fun c' hc' => by
      split
      · omega
      · have := cnt1 c' hc'; omega)
    rw [s2_sub, s2_one (fun c' => 1 - s2 (fun i : Nat => if f i = c' then (1 : Int) else 0) N) hc, tot] at h2
    omega
  have e := one j.toNat (by omega)
  have e2 : s2 (fun i : Nat => if f i = j then v else 0) N = s2 (fun i : Nat => (if f i = ((j.toNat : Nat) : Int) then (1 : Int) else 0) * v) N := s2_cg (fun i hi => by
    by_cases z : f i = j
    · rw [if_pos z, if_pos (by omega)]; omega
    · rw [if_neg z, if_neg (by omega)]; omega)
  rw [e2, s2_mul, e]
  omega
end
section
def wo (σ : eS) (s n j : Int) : eS := fun c k => if c = 0 ∧ k = 22 then n else if c = 9 ∧ 0 ≤ k ∧ k < j then σ 3 (64 * s + k) else σ c k
theorem wo_0 (σ : eS) (s n : Int) : up σ 0 22 n = wo σ s n 0 := by
  funext c k
  simp only [up_if, wo]
  by_cases h : c = 0 ∧ k = 22
  · rw [if_pos h, if_pos h]
  · rw [if_neg h, if_neg h, if_neg (by omega)]
theorem wo_s {σ : eS} {s n j : Int} (h : 0 ≤ j) : up (wo σ s n j) 9 j (σ 3 (64 * s + j)) = wo σ s n (j + 1) := by
  funext c k
  simp only [up_if, wo]
  by_cases h1 : c = 9 ∧ k = j
  · rw [if_pos h1, if_neg (by omega), if_pos ⟨h1.1, by omega, by omega⟩, h1.2]
  · rw [if_neg h1]
    by_cases h2 : c = 0 ∧ k = 22
    · rw [if_pos h2, if_pos h2]
    · rw [if_neg h2, if_neg h2]
      by_cases h3 : c = 9 ∧ 0 ≤ k ∧ k < j
      · rw [if_pos h3, if_pos ⟨h3.1, by omega, by omega⟩]
      · rw [if_neg h3, if_neg (by omega)]
theorem s_Mo_worksOn {σ : eS} {s : Int} (hB : iB1 σ) (hs : tabB σ s) : MtV shB M_Mo_worksOn [vr 0, vi s] σ (fun σ' => σ' = wo σ s (σ 1 s) (σ 1 s * σ 1 s)) := by
  refine Mt.of okM_Mo_worksOn (Nat.le_of_ble_eq_true rfl) (fun hk hg => ?_)
  obtain ⟨s1, s2, s3⟩ := id hs
  obtain ⟨g1, g2, -⟩ := hB.1 s s1 s2
  obtain ⟨n, en⟩ : ∃ x, x = σ 1 s := ⟨_, rfl⟩
  rw [← en] at s3 g1 g2 ⊢
  obtain ⟨q1, q2⟩ := sq8 (n := n) ⟨by omega, by omega⟩
  refine ok_aload_n 0 rfl rfl rfl (ok_aload_n 1 rfl rfl rfl (ok_getR 2 rfl rfl fl_X12_7 rfl rfl (ok_iload_n 3 rfl rfl rfl (ok_iald 4 rfl rfl rfl (by first | omega | (simp [up_if]; omega) | (simp [up_if] at *; omega)) (ok_putI 5 rfl rfl fl_X12_234 rfl rfl rfl rfl ?_)))))
  rw [← en, wo_0 σ s n]
  refine ok_iconst 6 rfl rfl (by decide) (ok_ist2 7 rfl rfl rfl ?_)
  refine lpO (fun j : Int => [some (vr 0), some (vi s), some (vi j)]) (fun j => wo σ s n j) (fun j => 0 ≤ j ∧ j ≤ n * n) (fun j => (n * n - j).toNat) ?_ 0 ⟨by omega, by omega⟩
  rintro j ⟨j1, j2⟩ ih
  have e22 : wo σ s n j 0 22 = n := by simp [wo]
  have e3 : ∀ k, wo σ s n j 3 k = σ 3 k := fun k => by simp [wo]
  refine ok_iload_n 8 rfl rfl rfl (ok_aload_n 9 rfl rfl rfl (ok_getI 10 rfl rfl fl_X12_234 rfl rfl (Or.inl rfl) (ok_aload_n 11 rfl rfl rfl (ok_getI 12 rfl rfl fl_X12_234 rfl rfl (Or.inl rfl) (ok_imul 13 rfl rfl (by rw [e22]; omega) ?_)))))
  rw [e22]
  refine ok_icmp_ge 14 48 rfl rfl rfl (fun h22 => ?_) (fun h22 => ?_)
  · refine ok_vret 29 rfl rfl rfl ?_
    exact ⟨rfl, by rw [show j = n * n by omega]⟩
  · refine ok_aload_n 15 rfl rfl rfl (ok_getR 16 rfl rfl fl_X12_39 rfl rfl (ok_iload_n 17 rfl rfl rfl (ok_aload_n 18 rfl rfl rfl (ok_getR 19 rfl rfl fl_X12_16 rfl rfl (ok_bipush 20 rfl rfl (by decide) (by decide) (ok_iload_n 21 rfl rfl rfl (ok_imul 22 rfl rfl (by first | omega | (simp [up_if]; omega) | (simp [up_if] at *; omega)) (ok_iload_n 23 rfl rfl rfl (ok_iadd 24 rfl rfl (by first | omega | (simp [up_if]; omega) | (simp [up_if] at *; omega)) (ok_iald 25 rfl rfl rfl (by first | omega | (simp [up_if]; omega) | (simp [up_if] at *; omega)) (ok_iast 26 rfl rfl rfl (by first | omega | (simp [up_if]; omega) | (simp [up_if] at *; omega)) (ok_inc2 27 rfl rfl rfl (by first | omega | (simp [up_if]; omega) | (simp [up_if] at *; omega)) (ok_goto 28 12 rfl rfl rfl ?_)))))))))))))
    rw [e3, wo_s j1]
    exact ih (j + 1) ⟨by omega, by omega⟩ (by omega)
theorem s_Mo_isLeft {σ : eS} (h : nW σ) : MtI shB M_Mo_isLeft [vr 0] σ (fun σ' z => σ' = σ ∧ ((z = 1 ∧ ∃ k, 0 ≤ k ∧ k < σ 0 22 * σ 0 22 ∧ 0 < σ 9 k) ∨ (z = 0 ∧ ∀ k, 0 ≤ k → k < σ 0 22 * σ 0 22 → σ 9 k ≤ 0))) := by
  refine Mt.of okM_Mo_isLeft (Nat.le_of_ble_eq_true rfl) (fun hk hg => ?_)
  obtain ⟨n, en⟩ : ∃ x, x = σ 0 22 := ⟨_, rfl⟩
  have hn : 1 ≤ n ∧ n ≤ 8 := by rw [en]; exact h
  obtain ⟨q1, q2⟩ := sq8 (n := n) ⟨by omega, by omega⟩
  rw [← en]
  refine ok_iconst 0 rfl rfl (by decide) (ok_ist1 1 rfl rfl rfl ?_)
  refine lpO (fun j : Int => [some (vr 0), some (vi j)]) (fun _ => σ) (fun j => 0 ≤ j ∧ j ≤ n * n ∧ ∀ k, 0 ≤ k → k < j → σ 9 k ≤ 0) (fun j => (n * n - j).toNat) ?_ 0 ⟨by omega, by omega, fun k a b => by omega⟩
  rintro j ⟨j1, j2, j3⟩ ih
  refine ok_iload_n 2 rfl rfl rfl (ok_aload_n 3 rfl rfl rfl (ok_getI 4 rfl rfl fl_X12_234 rfl rfl (Or.inl rfl) (ok_aload_n 5 rfl rfl rfl (ok_getI 6 rfl rfl fl_X12_234 rfl rfl (Or.inl rfl) (ok_imul 7 rfl rfl (by rw [← en]; omega) ?_)))))
  rw [← en]
  refine ok_icmp_ge 8 32 rfl rfl rfl (fun h12 => ?_) (fun h12 => ?_)
  · refine ok_iconst 18 rfl rfl (by decide) (ok_zret 19 rfl rfl rfl (by first | omega | (simp [up_if]; omega) | (simp [up_if] at *; omega)) ?_)
    exact ⟨_, rfl, rfl, Or.inr ⟨rfl, fun k a b => j3 k a (by omega)⟩⟩
  · refine ok_aload_n 9 rfl rfl rfl (ok_getR 10 rfl rfl fl_X12_39 rfl rfl (ok_iload_n 11 rfl rfl rfl (ok_iald 12 rfl rfl rfl (by first | omega | (simp [up_if]; omega) | (simp [up_if] at *; omega)) (ok_if_le 13 26 rfl rfl rfl (fun h21 => ?_) (fun h21 => ?_)))))
    · refine ok_inc1 16 rfl rfl rfl (by first | omega | (simp [up_if]; omega) | (simp [up_if] at *; omega)) (ok_goto 17 2 rfl rfl rfl ?_)
      exact ih (j + 1) ⟨by omega, by omega, lt_ext j3 h21⟩ (by omega)
    · refine ok_iconst 14 rfl rfl (by decide) (ok_zret 15 rfl rfl rfl (by first | omega | (simp [up_if]; omega) | (simp [up_if] at *; omega)) ?_)
      exact ⟨_, rfl, rfl, Or.inl ⟨rfl, j, j1, by omega, h21⟩⟩
/-! what the greatest sums and least cells tell -/
theorem dp_ge {n l sums : Int} {w : Int → Int → Int} {v : Int → Int} (hn : 1 ≤ n ∧ n ≤ 8) (hw : ∀ i j, 0 ≤ i → i < n → 0 ≤ j → j < n → 0 ≤ w i j) (ha : v (p2 n - 1) = (if sums = 0 then 9223372036854775807 else 0)) (hd : ∀ T, 0 ≤ T → T < p2 n - 1 → dpG n l sums w v T) :
    ∀ (m : Nat) (T : Int), 0 ≤ T → T < p2 n → (n - pc T).toNat = m → cpl n (fun i j => l ≤ w i j) m T → 0 ≤ v T ∧ (sums = 0 → 1 ≤ l → 1 ≤ v T) := by
  obtain ⟨z1, z2, z3, z4⟩ := bit2 (n := n) (by omega)
  intro m
  induction m with
  | zero =>
    intro T h1 h2 h3 _
    have : T = p2 n - 1 := by
      by_cases q : T = p2 n - 1
      · exact q
      · have := (bitL (s := T) (n := n) (by omega) (by omega)).1 (by omega); omega
    rw [this, ha]
    split
    · exact ⟨by decide, fun _ _ => by decide⟩
    · exact ⟨by decide, fun q => by omega⟩
  | succ m ih =>
    intro T h1 h2 h3 ⟨j, a1, a2, a3, a4, a5⟩
    have hp := bitL (s := T) (n := n) (by omega) (by omega)
    have hT : T < p2 n - 1 := by
      by_cases q : T = p2 n - 1
      · have := hp.2.1 q; omega
      · omega
    have hlt := hp.1 hT
    have hc := bitC (s := T) (j := j) (by omega) (by omega) a3
    have hs := sB_lt (s := T) (j := j) (n := n) ⟨h1, h2⟩ ⟨a1, a2⟩
    have e : n - ((m + 1 : Nat) : Int) = pc T := by omega
    rw [e] at a4
    have hi := ih (sB T j) hs.1 hs.2 (by omega) a5
    have hg := (hd T h1 hT).1 j a1 a2 ⟨a3, a4, hi.1⟩
    have hwn := hw (pc T) j hp.2.2.1 hlt a1 a2
    unfold cmbG at hg
    split at hg
    · next q =>
      refine ⟨by omega, fun _ hl => ?_⟩
      have := hi.2 q hl
      omega
    · next q => exact ⟨by omega, fun y => absurd y q⟩
theorem dp_le {n l : Int} {w : Int → Int → Int} {v : Int → Int} {x : Int} (hx : 1 ≤ x) (hn : 1 ≤ n ∧ n ≤ 8) (hd : ∀ T, 0 ≤ T → T < p2 n - 1 → dpG n l 0 w v T) :
    ∀ (m : Nat) (T : Int), 0 ≤ T → T < p2 n → (n - pc T).toNat = m → x ≤ v T → cpl n (fun i j => x ≤ w i j) m T := by
  obtain ⟨z1, z2, z3, z4⟩ := bit2 (n := n) (by omega)
  intro m
  induction m with
  | zero => intro T h1 h2 h3 _; trivial
  | succ m ih =>
    intro T h1 h2 h3 h4
    have hp := bitL (s := T) (n := n) (by omega) (by omega)
    have hT : T < p2 n - 1 := by
      by_cases q : T = p2 n - 1
      · have := hp.2.1 q; omega
      · omega
    have hlt := hp.1 hT
    rcases (hd T h1 hT).2 with q | ⟨j, a1, a2, a3, a4⟩
    · have := q.1; omega
    · have hc := bitC (s := T) (j := j) (by omega) (by omega) a3.1
      have hs := sB_lt (s := T) (j := j) (n := n) ⟨h1, h2⟩ ⟨a1, a2⟩
      unfold cmbG at a4
      rw [if_pos rfl] at a4
      have e : n - ((m + 1 : Nat) : Int) = pc T := by omega
      refine ⟨j, a1, a2, a3.1, ?_, ih (sB T j) hs.1 hs.2 (by omega) (by omega)⟩
      dsimp only
      rw [e]
      omega
theorem cpl_mono {n : Int} {op op' : Int → Int → Prop} (h : ∀ i j, 0 ≤ i → i < n → 0 ≤ j → j < n → op i j → op' i j) : ∀ (m : Nat) (T : Int), (m : Int) ≤ n → cpl n op m T → cpl n op' m T := by
  intro m
  induction m with
  | zero => intro T _ _; trivial
  | succ m ih =>
    intro T hm ⟨j, a1, a2, a3, a4, a5⟩
    exact ⟨j, a1, a2, a3, h _ j (by omega) (by omega) a1 a2 a4, ih _ (by omega) a5⟩
/-- a choice of cells that are so much at least -/
def chB (σ : eS) (n l : Int) (ch : Int → Int) : Prop := perm n ch ∧ ∀ i, 0 ≤ i → i < n → l ≤ wk σ i (ch i)
theorem s_Mo_chooseGreatest {σ : eS} {l : Int} (h : nW σ) (hw : wBd σ) (hl : 0 ≤ l) (hc : cpl (σ 0 22) (fun i j => l ≤ wk σ i j) (σ 0 22).toNat 0) : MtL shB M_Mo_chooseGreatest [vr 0, vi l] σ (fun σ' z => fr (fun c _ => c = 10 ∨ c = 11) σ σ' ∧ z = σ' 10 0 ∧ chB σ (σ 0 22) l (fun i => σ' 11 i)) := by
  refine Mt.of okM_Mo_chooseGreatest (Nat.le_of_ble_eq_true rfl) (fun hk hg => ?_)
  obtain ⟨n, en⟩ : ∃ x, x = σ 0 22 := ⟨_, rfl⟩
  have hn : 1 ≤ n ∧ n ≤ 8 := by rw [en]; exact h
  obtain ⟨z1, z2, z3, z4⟩ := bit2 (n := n) (by omega)
  have z4 := z4 hn.1
  rw [← en] at hc ⊢
  have hwb : ∀ i j, 0 ≤ i → i < n → 0 ≤ j → j < n → 0 ≤ wk σ i j ∧ wk σ i j ≤ 799999992 := fun i j a1 a2 a3 a4 => hw i j a1 (by omega) a3 (by omega)
  refine ok_aload_n 0 rfl rfl rfl (ok_iload_n 1 rfl rfl rfl (ok_iconst 2 rfl rfl (by decide) (ok_callVV (M' := M_Mo_laysCan) (as := [_, _]) 3 rfl rfl ml_X12_256 (s_Mo_laysCan h hw hl (Or.inr rfl)) rfl rfl (Nat.le_of_ble_eq_true rfl) ⟨Nat.le_of_ble_eq_true rfl, Nat.le_of_ble_eq_true rfl⟩ rfl (Nat.le_of_ble_eq_true rfl) (fun τ hq => ?_))))
  rw [← en] at hq
  obtain ⟨q1, q2, q3⟩ := hq
  rw [if_neg (by decide)] at q2
  have hv0 : 0 ≤ τ 10 0 := (dp_ge (sums := 1) (v := fun k => τ 10 k) hn (fun i j a b c d => (hwb i j a b c d).1) q2 (fun T a b => (q3 T a b).1) n.toNat 0 (by omega) (by omega) (by simp [pc]) hc).1
  refine ok_iconst 4 rfl rfl (by decide) (ok_ist2 5 rfl rfl rfl (ok_iconst 6 rfl rfl (by decide) (ok_ist3 7 rfl rfl rfl ?_)))
  refine lpO2 (fun (i : Int) (ρ : eS) => [some (vr 0), some (vi l), some (vi (cs (fun i => ρ 11 i) i.toNat)), some (vi i), none]) (fun _ ρ => ρ) (fun i ρ => 0 ≤ i ∧ i ≤ n ∧ fr (fun c _ => c = 11) τ ρ ∧ 0 ≤ cs (fun i => ρ 11 i) i.toNat ∧ cs (fun i => ρ 11 i) i.toNat < p2 n ∧ pc (cs (fun i => ρ 11 i) i.toNat) = i ∧ 0 ≤ τ 10 (cs (fun i => ρ 11 i) i.toNat) ∧ ∀ k : Int, 0 ≤ k → k < i → 0 ≤ ρ 11 k ∧ ρ 11 k < n ∧ l ≤ wk σ k (ρ 11 k) ∧ bt (cs (fun i => ρ 11 i) k.toNat) (ρ 11 k) = false) (fun i _ => (n - i).toNat) ?_ 0 τ ⟨by omega, by omega, fr.rf, Int.le_refl _, by show (0 : Int) < p2 n; omega, by show pc 0 = 0; simp [pc], hv0, fun k a b => by omega⟩
  rintro i ρ ⟨k1, k2, k3, k4, k5, k6, k7, k8⟩ ih
  obtain ⟨S, eS⟩ : ∃ x, x = cs (fun i => ρ 11 i) i.toNat := ⟨_, rfl⟩
  rw [← eS] at k4 k5 k6 k7 ⊢
  have f1 : fr (fun c _ => c = 10 ∨ c = 11) σ ρ := fun c k q => by rw [k3 c k (by omega), q1 c k (by omega)]
  have u2 : ρ 0 22 = n := by rw [f1 0 22 (by omega), en]
  have u3 : nW ρ := h.fr' (by rw [u2, en])
  have u1 : wk ρ = wk σ := by funext a b; unfold wk; rw [f1 0 22 (by omega), f1 9 _ (by omega)]
  have u10 : ∀ k, ρ 10 k = τ 10 k := fun k => k3 10 k (by omega)
  refine ok_iload_n 8 rfl rfl rfl (ok_aload_n 9 rfl rfl rfl (ok_getI 10 rfl rfl fl_X12_234 rfl rfl (Or.inl rfl) (ok_icmp_ge 11 115 rfl rfl rfl (fun h15 => ?_) (fun h15 => ?_))))
  · refine ok_aload_n 73 rfl rfl rfl (ok_getR 74 rfl rfl fl_X12_42 rfl rfl (ok_iconst 75 rfl rfl (by decide) (ok_lald 76 rfl rfl rfl (by first | omega | (simp [up_if]; omega) | (simp [up_if] at *; omega)) (ok_lret 77 rfl rfl rfl ?_))))
    refine ⟨_, rfl, f1, rfl, ⟨fun k a b => ?_, fun a b c d e q => ?_⟩, fun k a b => ?_⟩
    · have := k8 k a (by omega); exact ⟨this.1, this.2.1⟩
    · have x1 := (k8 b (by omega) (by omega)).2.2.2
      have x2 : bt (cs (fun i => ρ 11 i) b.toNat) (ρ 11 b) = true := (bt_cs (fun j x y => (k8 j x (by omega)).1) (k8 b (by omega) (by omega)).1).mpr ⟨a, c, by omega, q⟩
      rw [x1] at x2
      cases x2
    · exact (k8 k a (by omega)).2.2.1
  · refine ok_iconst 12 rfl rfl (by decide) (ok_ist4 13 rfl rfl rfl ?_)
    have hin : i < n := by omega
    have hS : S < p2 n - 1 := by
      by_cases q : S = p2 n - 1
      · have := (bitL (s := S) (n := n) (by omega) (by omega)).2.1 q; omega
      · omega
    have hex : ∃ j, 0 ≤ j ∧ j < n ∧ okG n l (wk σ) (fun k => τ 10 k) S j ∧ τ 10 S = wk σ i j + τ 10 (sB S j) := by
      rcases (q3 S k4 hS).1.2 with q | ⟨j, a1, a2, a3, a4⟩
      · have q5 : τ 10 S = -1 := q.1
        omega
      · refine ⟨j, a1, a2, a3, ?_⟩
        unfold cmbG at a4
        rw [if_neg (by decide), k6] at a4
        exact a4
    refine lpO (fun j : Int => [some (vr 0), some (vi l), some (vi S), some (vi i), some (vi j)]) (fun _ => ρ) (fun j => 0 ≤ j ∧ j < n ∧ ∀ j', 0 ≤ j' → j' < j → ¬ (okG n l (wk σ) (fun k => τ 10 k) S j' ∧ τ 10 S = wk σ i j' + τ 10 (sB S j'))) (fun j => (n - j).toNat) ?_ 0 ⟨by omega, by omega, fun j' a b => by omega⟩
    rintro j ⟨j1, j2, j3⟩ ih2
    have e1 := bitG (s := S) (j := j) (by omega) (by omega)
    have e2 := bitP (s := S) (j := j) (by omega) (by omega)
    obtain ⟨l1, l2⟩ := sB_lt (s := S) (j := j) (n := n) ⟨k4, k5⟩ ⟨j1, j2⟩
    have wb := hwb i j k1 hin j1 j2
    have nxt : ¬ (okG n l (wk σ) (fun k => τ 10 k) S j ∧ τ 10 S = wk σ i j + τ 10 (sB S j)) → Ok shB M_Mo_chooseGreatest 88 [some (vr 0), some (vi l), some (vi S), some (vi i), some (vi j)] [] ρ (fun σ' v => ∃ z, v = some (vl z) ∧ fr (fun c _ => c = 10 ∨ c = 11) σ σ' ∧ z = σ' 10 0 ∧ chB σ n l (fun i => σ' 11 i)) := by
      intro hno
      have hj : j + 1 < n := by
        obtain ⟨j', a1, a2, a3, a4⟩ := hex
        by_cases q : j' < j
        · exact absurd ⟨a3, a4⟩ (j3 j' a1 q)
        · by_cases q' : j' = j
          · rw [q'] at a3 a4; exact absurd ⟨a3, a4⟩ hno
          · omega
      clear hex
      refine ok_inc4 58 rfl rfl rfl (by first | omega | (simp [up_if]; omega) | (simp [up_if] at *; omega)) (ok_goto 59 21 rfl rfl rfl ?_)
      exact ih2 (j + 1) ⟨by omega, hj, lt_ext j3 hno⟩ (by omega)
    clear hex
    refine ok_iload_n 14 rfl rfl rfl (ok_iload 15 rfl rfl rfl (ok_ishr 16 rfl rfl (ok_iconst 17 rfl rfl (by decide) (ok_iand 18 rfl rfl ?_))))
    rw [e1]
    refine ok_iconst 19 rfl rfl (by decide) (ok_icmp_eq 20 88 rfl rfl rfl (fun h28 => ?_) (fun h28 => ?_))
    · exact nxt (fun q => by have q1 := q.1.1; rw [b1'.mp h28] at q1; cases q1)
    · have hb : bt S j = false := by
        cases hq : bt S j with
        | false => rfl
        | true => exact absurd (b1'.mpr hq) h28
      have hcp := bitC (s := S) (j := j) (by omega) (by omega) hb
      refine ok_aload_n 21 rfl rfl rfl (ok_iload_n 22 rfl rfl rfl (ok_iload 23 rfl rfl rfl (ok_callVI (M' := M_Mo_worked) (as := [_, _]) 24 rfl rfl ml_X12_244 (s_Mo_worked u3 (by omega) (by omega)) rfl rfl (Nat.le_of_ble_eq_true rfl) ⟨Nat.le_of_ble_eq_true rfl, Nat.le_of_ble_eq_true rfl⟩ rfl (Nat.le_of_ble_eq_true rfl) (fun σ' z hz => ?_))))
      rw [hz.1, hz.2, u1]; clear hz z σ'
      refine ok_iload_n 25 rfl rfl rfl (ok_icmp_lt 26 88 rfl rfl rfl (fun h39 => ?_) (fun h39 => ?_))
      · exact nxt (fun q => by have := q.1.2.1; rw [k6] at this; omega)
      · refine ok_aload_n 27 rfl rfl rfl (ok_getR 28 rfl rfl fl_X12_42 rfl rfl (ok_iload_n 29 rfl rfl rfl (ok_iconst 30 rfl rfl (by decide) (ok_iload 31 rfl rfl rfl (ok_ishl 32 rfl rfl (ok_ior 33 rfl rfl ?_))))))
        rw [e2]
        refine ok_lald 34 rfl rfl rfl (by omega) ?_
        rw [u10]
        refine ok_lconst (w := 0) 35 rfl rfl rfl (by decide) (ok_lcmp_lt 36 37 88 rfl rfl rfl rfl rfl (fun h54 => ?_) (fun h54 => ?_))
        · exact nxt (fun q => by have q9 : 0 ≤ τ 10 (sB S j) := q.1.2.2; omega)
        · have vb : τ 10 (sB S j) ≤ 6399999936 := by
            by_cases q : sB S j = p2 n - 1
            · rw [q, q2]; decide
            · have := (q3 (sB S j) l1 (by omega)).2.2; omega
          refine ok_aload_n 38 rfl rfl rfl (ok_iload_n 39 rfl rfl rfl (ok_iload 40 rfl rfl rfl (ok_callVI (M' := M_Mo_worked) (as := [_, _]) 41 rfl rfl ml_X12_244 (s_Mo_worked u3 (by omega) (by omega)) rfl rfl (Nat.le_of_ble_eq_true rfl) ⟨Nat.le_of_ble_eq_true rfl, Nat.le_of_ble_eq_true rfl⟩ rfl (Nat.le_of_ble_eq_true rfl) (fun σ' z hz => ?_))))
          rw [hz.1, hz.2, u1]; clear hz z σ'
          refine ok_i2l 42 rfl rfl (ok_aload_n 43 rfl rfl rfl (ok_getR 44 rfl rfl fl_X12_42 rfl rfl (ok_iload_n 45 rfl rfl rfl (ok_iconst 46 rfl rfl (by decide) (ok_iload 47 rfl rfl rfl (ok_ishl 48 rfl rfl (ok_ior 49 rfl rfl ?_)))))))
          rw [e2]
          refine ok_lald 50 rfl rfl rfl (by omega) ?_
          rw [u10]
          refine ok_ladd 51 rfl rfl (by first | omega | (simp [up_if]; omega) | (simp [up_if] at *; omega)) (ok_aload_n 52 rfl rfl rfl (ok_getR 53 rfl rfl fl_X12_42 rfl rfl (ok_iload_n 54 rfl rfl rfl (ok_lald 55 rfl rfl rfl (by omega) ?_))))
          rw [u10]
          refine ok_lcmp_eq 56 57 94 rfl rfl rfl rfl rfl (fun h84 => ?_) (fun h84 => ?_)
          · have hok : l ≤ wk σ i j := by omega
            refine ok_aload_n 60 rfl rfl rfl (ok_getR 61 rfl rfl fl_X12_45 rfl rfl (ok_iload_n 62 rfl rfl rfl (ok_iload 63 rfl rfl rfl (ok_iast 64 rfl rfl rfl (by first | omega | (simp [up_if]; omega) | (simp [up_if] at *; omega)) (ok_iload_n 65 rfl rfl rfl (ok_iconst 66 rfl rfl (by decide) (ok_iload 67 rfl rfl rfl (ok_ishl 68 rfl rfl (ok_ior 69 rfl rfl (ok_ist2 70 rfl rfl rfl (ok_inc3 71 rfl rfl rfl (by first | omega | (simp [up_if]; omega) | (simp [up_if] at *; omega)) (ok_goto 72 10 rfl rfl rfl ?_))))))))))))
            rw [e2]
            have ecs : ∀ k : Int, 0 ≤ k → k ≤ i → cs (fun q => up ρ 11 i j 11 q) k.toNat = cs (fun q => ρ 11 q) k.toNat := fun k a b => cs_cg (fun q a' b' => by rw [up_nk _ _ _ _ (by omega)])
            have ec1 : cs (fun q => up ρ 11 i j 11 q) (i + 1).toNat = sB S j := by
              rw [cs_s _ k1, ecs i k1 (Int.le_refl _), ← eS, up_same]
            have hfin := ih (i + 1) (up ρ 11 i j) ⟨by omega, by omega, fr_up k3 rfl, by rw [ec1]; exact l1, by rw [ec1]; exact l2, by rw [ec1]; omega, by rw [ec1]; omega, fun k a b => ?_⟩ (by omega)
            · rw [ec1] at hfin
              exact ok_fg [some (vr 0), some (vi l), some (vi (sB S j)), some (vi (i + 1)), none] ⟨rfl, rfl, rfl, rfl, trivial⟩ hfin
            · rw [ecs k a (by omega)]
              by_cases q : k = i
              · rw [q, up_same, ← eS]
                exact ⟨j1, j2, hok, hb⟩
              · rw [up_nk _ _ _ _ q]
                exact k8 k a (by omega)
          · exact nxt (fun q => h84 q.2.symm)
end
section
theorem Qch_yes {σ σ' : eS} {n l r c z : Int} (hn : 1 ≤ n ∧ n ≤ 8) (h : Qch σ n (opB σ l r c) σ' z) (hc : cpl n (opB σ l r c) n.toNat 0) : fr (fun c _ => c = 10 ∨ c = 11) σ σ' ∧ lexCh n (opB σ l r c) (fun i => σ' 11 i) ∧ chB σ n l (fun i => σ' 11 i) := by
  rcases h with ⟨-, h, -⟩ | ⟨-, -, h1, h2⟩
  · exact absurd hc h
  · obtain ⟨p1, p2⟩ := lexCh_perm h2
    refine ⟨h1, h2, p1, fun i a b => ?_⟩
    have h3 := (lexCh_pc hn.2 h2 i.toNat (by omega)).2.2
    have h4 := (p2 i a b).1
    rw [h3, Int.toNat_of_nonneg a] at h4
    exact h4
theorem cpl_pos {σ : eS} {n m : Int} (hn : 1 ≤ n) (he : EvW n (wk σ) m) (hm : 1 ≤ m) : cpl n (opB σ 1 (-1) (-1)) n.toNat 0 := by
  obtain ⟨f, hf, hp⟩ := birk he (by omega) (by omega)
  exact cpl_of (by omega) hf (fun i a b => ⟨by have := hp i a b; omega, by have := (hf.1 i a b).1; omega⟩)
theorem s_Mo_choose {σ : eS} {r m : Int} (h : nW σ) (hw : wBd σ) (he : EvW (σ 0 22) (wk σ) m) (hm : 1 ≤ m) : MtV shB M_Mo_choose [vr 0, vi r] σ (fun σ' => fr (fun c _ => c = 10 ∨ c = 11) σ σ' ∧ chB σ (σ 0 22) 1 (fun i => σ' 11 i)) := by
  refine Mt.of okM_Mo_choose (Nat.le_of_ble_eq_true rfl) (fun hk hg => ?_)
  obtain ⟨n, en⟩ : ∃ x, x = σ 0 22 := ⟨_, rfl⟩
  have hn : 1 ≤ n ∧ n ≤ 8 := by rw [en]; exact h
  obtain ⟨z1, z2, z3, z4⟩ := bit2 (n := n) (by omega)
  have z4 := z4 hn.1
  obtain ⟨sq1, sq2⟩ := sq8 (n := n) ⟨by omega, by omega⟩
  rw [← en] at he ⊢
  have hwb : ∀ i j, 0 ≤ i → i < n → 0 ≤ j → j < n → 0 ≤ wk σ i j ∧ wk σ i j ≤ 799999992 := fun i j a1 a2 a3 a4 => hw i j a1 (by omega) a3 (by omega)
  have hcp := cpl_pos (σ := σ) hn.1 he hm
  have hc1 : cpl n (fun i j => 1 ≤ wk σ i j) n.toNat 0 := cpl_mono (fun i j _ _ _ _ q => q.1) n.toNat 0 (by omega) hcp
  refine ok_iload_n 0 rfl rfl rfl (ok_if_ne 1 15 rfl rfl rfl (fun h1 => ?_) (fun h1 => ?_))
  · refine ok_iload_n 9 rfl rfl rfl (ok_iconst 10 rfl rfl (by decide) (ok_icmp_ne 11 43 rfl rfl rfl (fun h17 => ?_) (fun h17 => ?_)))
    · refine ok_iload_n 27 rfl rfl rfl (ok_iconst 28 rfl rfl (by decide) (ok_icmp_ne 29 123 rfl rfl rfl (fun h45 => ?_) (fun h45 => ?_)))
      · refine ok_aload_n 75 rfl rfl rfl (ok_iconst 76 rfl rfl (by decide) (ok_callVL (M' := M_Mo_chooseGreatest) (as := [_]) 77 rfl rfl ml_X12_263 (s_Mo_chooseGreatest h hw (by decide) (by rw [← en]; exact hc1)) rfl rfl (Nat.le_of_ble_eq_true rfl) ⟨Nat.le_of_ble_eq_true rfl, Nat.le_of_ble_eq_true rfl⟩ rfl (Nat.le_of_ble_eq_true rfl) (fun τ z hz => ?_)))
        rw [← en] at hz
        refine ok_pop2 78 rfl rfl (ok_vret 79 rfl rfl rfl ?_)
        first | exact ⟨rfl, hy.1, hy.2.2⟩ | exact ⟨rfl, fun c k q => by rw [hy2.1 c k q, q1 c k (by omega)], hy3.1, fun i a b => by have := hy3.2 i a b; have hv3 : 1 ≤ τ 10 0 := hv; omega⟩ | exact ⟨rfl, hz.1, hz.2.2⟩
      · refine ok_iconst 30 rfl rfl (by decide) (ok_ist2 31 rfl rfl rfl (ok_iconst 32 rfl rfl (by decide) (ok_ist3 33 rfl rfl rfl ?_)))
        refine lpO2 (fun b k : Int => [some (vr 0), some (vi r), some (vi b), some (vi k)]) (fun _ _ => σ) (fun b k => 0 ≤ k ∧ k ≤ n * n ∧ -1 ≤ b ∧ b < k ∧ (b = -1 → ∀ q, 0 ≤ q → q < k → σ 9 q ≤ 0) ∧ (0 ≤ b → 0 < σ 9 b)) (fun _ k => (n * n - k).toNat) ?_ (-1) 0 ⟨by omega, by omega, by omega, by omega, fun _ q a b => by omega, fun a => by omega⟩
        rintro b k ⟨i1, i2, i3, i4, i5, i6⟩ ih
        refine ok_iload_n 34 rfl rfl rfl (ok_aload_n 35 rfl rfl rfl (ok_getI 36 rfl rfl fl_X12_234 rfl rfl (Or.inl rfl) (ok_aload_n 37 rfl rfl rfl (ok_getI 38 rfl rfl fl_X12_234 rfl rfl (Or.inl rfl) (ok_imul 39 rfl rfl (by rw [← en]; omega) ?_)))))
        rw [← en]
        refine ok_icmp_ge 40 102 rfl rfl rfl (fun h62 => ?_) (fun h62 => ?_)
        · have hb : 0 ≤ b := by
            rcases (show b = -1 ∨ 0 ≤ b by omega) with y | y
            · exfalso
              obtain ⟨f, hf, hp⟩ := birk he (by omega) (by omega)
              have g1 := hf.1 0 (by omega) (by omega)
              have g2 := hp 0 (by omega) (by omega)
              have g3 := ix8 (n := n) (i := 0) (j := f 0) ⟨by omega, by omega⟩ ⟨by omega, by omega⟩ g1
              unfold wk at g2
              rw [← en] at g2
              have := i5 y (n * 0 + f 0) (by omega) (by omega)
              omega
            · exact y
          have hbp := i6 hb
          have e1 : n * (b / n) + b % n = b := Int.mul_ediv_add_emod b n
          have e2 := Int.emod_nonneg b (by omega : n ≠ 0)
          have e3 := Int.emod_lt_of_pos b (by omega : 0 < n)
          have e4 : b / n < n := Int.ediv_lt_of_lt_mul (by omega) (by omega)
          have e5 : 0 ≤ b / n := Int.ediv_nonneg hb (by omega)
          have hcq : cpl n (opB σ 1 (b / n) (b % n)) n.toNat 0 := by
            obtain ⟨f, hf, hf0, hp⟩ := birk2 (i0 := b / n) (j0 := b % n) he ⟨e5, e4⟩ ⟨e2, e3⟩ (by unfold wk; rw [← en, e1]; exact hbp)
            refine cpl_of (by omega) hf (fun i a c => ⟨by have := hp i a c; omega, fun q => by rw [q]; exact hf0, fun q => ?_⟩)
            rcases (show i < b / n ∨ i = b / n ∨ b / n < i by omega) with y | y | y
            · exact absurd (by rw [q, hf0]) (hf.2 i (b / n) a y e4)
            · exact y
            · exact absurd (by rw [q, hf0]) (hf.2 (b / n) i e5 y c)
          refine ok_aload_n 62 rfl rfl rfl (ok_iconst 63 rfl rfl (by decide) (ok_iload_n 64 rfl rfl rfl (ok_aload_n 65 rfl rfl rfl (ok_getI 66 rfl rfl fl_X12_234 rfl rfl (Or.inl rfl) (ok_idiv 67 rfl rfl (by omega) (by rw [← en]; omega) (ok_iload_n 68 rfl rfl rfl (ok_aload_n 69 rfl rfl rfl (ok_getI 70 rfl rfl fl_X12_234 rfl rfl (Or.inl rfl) (ok_irem 71 rfl rfl (by omega) (by rw [← en]; omega) ?_)))))))))
          rw [← en]
          refine ok_callVI (M' := M_Mo_isChosen) (as := [_, _, _]) 72 rfl rfl ml_X12_260 (s_Mo_isChosen h) rfl rfl (Nat.le_of_ble_eq_true rfl) ⟨Nat.le_of_ble_eq_true rfl, Nat.le_of_ble_eq_true rfl⟩ rfl (Nat.le_of_ble_eq_true rfl) (fun τ z hz => ?_)
          rw [← en] at hz
          have hy := Qch_yes hn hz hcq
          refine ok_pop 73 rfl rfl rfl (ok_goto 74 129 rfl rfl rfl (ok_vret 79 rfl rfl rfl ?_))
          exact ⟨rfl, hy.1, hy.2.2⟩
        · refine ok_aload_n 41 rfl rfl rfl (ok_getR 42 rfl rfl fl_X12_39 rfl rfl (ok_iload_n 43 rfl rfl rfl (ok_iald 44 rfl rfl rfl (by first | omega | (simp [up_if]; omega) | (simp [up_if] at *; omega)) (ok_if_le 45 96 rfl rfl rfl (fun h71 => ?_) (fun h71 => ?_)))))
          · refine ok_inc3 60 rfl rfl rfl (by first | omega | (simp [up_if]; omega) | (simp [up_if] at *; omega)) (ok_goto 61 52 rfl rfl rfl ?_)
            first
              | exact ih k (k + 1) ⟨by omega, by omega, by omega, by omega, fun y => by omega, fun _ => by omega⟩ (by omega)
              | exact ih b (k + 1) ⟨by omega, by omega, by omega, by omega, fun y => lt_ext (i5 y) (by omega), i6⟩ (by omega)
          · refine ok_iload_n 46 rfl rfl rfl (ok_iconst 47 rfl rfl (by decide) (ok_icmp_eq 48 94 rfl rfl rfl (fun h76 => ?_) (fun h76 => ?_)))
            · refine ok_iload_n 58 rfl rfl rfl (ok_ist2 59 rfl rfl rfl (ok_inc3 60 rfl rfl rfl (by first | omega | (simp [up_if]; omega) | (simp [up_if] at *; omega)) (ok_goto 61 52 rfl rfl rfl ?_)))
              first
                | exact ih k (k + 1) ⟨by omega, by omega, by omega, by omega, fun y => by omega, fun _ => by omega⟩ (by omega)
                | exact ih b (k + 1) ⟨by omega, by omega, by omega, by omega, fun y => lt_ext (i5 y) (by omega), i6⟩ (by omega)
            · refine ok_aload_n 49 rfl rfl rfl (ok_getR 50 rfl rfl fl_X12_39 rfl rfl (ok_iload_n 51 rfl rfl rfl (ok_iald 52 rfl rfl rfl (by first | omega | (simp [up_if]; omega) | (simp [up_if] at *; omega)) (ok_aload_n 53 rfl rfl rfl (ok_getR 54 rfl rfl fl_X12_39 rfl rfl (ok_iload_n 55 rfl rfl rfl (ok_iald 56 rfl rfl rfl (by first | omega | (simp [up_if]; omega) | (simp [up_if] at *; omega)) (ok_icmp_ge 57 96 rfl rfl rfl (fun h91 => ?_) (fun h91 => ?_)))))))))
              · refine ok_inc3 60 rfl rfl rfl (by first | omega | (simp [up_if]; omega) | (simp [up_if] at *; omega)) (ok_goto 61 52 rfl rfl rfl ?_)
                first
                  | exact ih k (k + 1) ⟨by omega, by omega, by omega, by omega, fun y => by omega, fun _ => by omega⟩ (by omega)
                  | exact ih b (k + 1) ⟨by omega, by omega, by omega, by omega, fun y => lt_ext (i5 y) (by omega), i6⟩ (by omega)
              · refine ok_iload_n 58 rfl rfl rfl (ok_ist2 59 rfl rfl rfl (ok_inc3 60 rfl rfl rfl (by first | omega | (simp [up_if]; omega) | (simp [up_if] at *; omega)) (ok_goto 61 52 rfl rfl rfl ?_)))
                first
                  | exact ih k (k + 1) ⟨by omega, by omega, by omega, by omega, fun y => by omega, fun _ => by omega⟩ (by omega)
                  | exact ih b (k + 1) ⟨by omega, by omega, by omega, by omega, fun y => lt_ext (i5 y) (by omega), i6⟩ (by omega)
    · refine ok_aload_n 12 rfl rfl rfl (ok_iconst 13 rfl rfl (by decide) (ok_iconst 14 rfl rfl (by decide) (ok_callVV (M' := M_Mo_laysCan) (as := [_, _]) 15 rfl rfl ml_X12_256 (s_Mo_laysCan h hw (by decide) (Or.inl rfl)) rfl rfl (Nat.le_of_ble_eq_true rfl) ⟨Nat.le_of_ble_eq_true rfl, Nat.le_of_ble_eq_true rfl⟩ rfl (Nat.le_of_ble_eq_true rfl) (fun τ hq => ?_))))
      rw [← en] at hq
      obtain ⟨q1, q2, q3⟩ := hq
      rw [if_pos rfl] at q2
      have hv := (dp_ge (sums := 0) (v := fun k => τ 10 k) hn (fun i j a b c d => (hwb i j a b c d).1) (by rw [if_pos rfl]; exact q2) (fun T a b => (q3 T a b).1) n.toNat 0 (by omega) (by omega) (by simp [pc]) hc1).2 rfl (by decide)
      have hv2 : τ 10 0 ≤ 799999992 := by
        rcases (q3 0 (by omega) (by omega)).1.2 with q | ⟨j, a1, a2, a3, a4⟩
        · have q5 : τ 10 0 = -1 := q.1
          omega
        · unfold cmbG at a4
          rw [if_pos rfl] at a4
          have := hwb (pc 0) j (by simp [pc]) (by simp [pc]; omega) a1 a2
          have q5 : τ 10 0 = min (wk σ (pc 0) j) (τ 10 (sB 0 j)) := a4
          clear a4
          omega
      have hcl := dp_le (x := τ 10 0) (v := fun k => τ 10 k) hv hn (fun T a b => (q3 T a b).1) n.toNat 0 (by omega) (by omega) (by simp [pc]) (Int.le_refl _)
      have t22 : τ 0 22 = n := by rw [q1 0 22 (by omega), en]
      have twk : wk τ = wk σ := by funext a b; unfold wk; rw [q1 0 22 (by omega), q1 9 _ (by omega)]
      refine ok_aload_n 16 rfl rfl rfl (ok_aload_n 17 rfl rfl rfl (ok_getR 18 rfl rfl fl_X12_42 rfl rfl (ok_iconst 19 rfl rfl (by decide) (ok_lald 20 rfl rfl rfl (by first | omega | (simp [up_if]; omega) | (simp [up_if] at *; omega)) (ok_l2i 21 rfl rfl (by first | omega | (simp [up_if]; omega) | (simp [up_if] at *; omega)) (ok_iconst 22 rfl rfl (by decide) (ok_iconst 23 rfl rfl (by decide) (ok_callVI (M' := M_Mo_isChosen) (as := [_, _, _]) 24 rfl rfl ml_X12_260 (s_Mo_isChosen (h.fr' (by rw [t22, en]))) rfl rfl (Nat.le_of_ble_eq_true rfl) ⟨Nat.le_of_ble_eq_true rfl, Nat.le_of_ble_eq_true rfl⟩ rfl (Nat.le_of_ble_eq_true rfl) (fun τ2 z hz => ?_)))))))))
      rw [t22] at hz
      have hy2 := Qch_yes hn hz (by unfold opB; rw [twk]; exact cpl_mono (fun i j a _ b _ q => ⟨q, by omega⟩) n.toNat 0 (by omega) hcl)
      have hy3 : chB σ n (τ 10 0) (fun i => τ2 11 i) := by have := hy2.2.2; unfold chB at this; rw [twk] at this; exact this
      refine ok_pop 25 rfl rfl rfl (ok_goto 26 129 rfl rfl rfl (ok_vret 79 rfl rfl rfl ?_))
      first | exact ⟨rfl, hy.1, hy.2.2⟩ | exact ⟨rfl, fun c k q => by rw [hy2.1 c k q, q1 c k (by omega)], hy3.1, fun i a b => by have := hy3.2 i a b; have hv3 : 1 ≤ τ 10 0 := hv; omega⟩ | exact ⟨rfl, hz.1, hz.2.2⟩
  · refine ok_aload_n 2 rfl rfl rfl (ok_iconst 3 rfl rfl (by decide) (ok_iconst 4 rfl rfl (by decide) (ok_iconst 5 rfl rfl (by decide) (ok_callVI (M' := M_Mo_isChosen) (as := [_, _, _]) 6 rfl rfl ml_X12_260 (s_Mo_isChosen h) rfl rfl (Nat.le_of_ble_eq_true rfl) ⟨Nat.le_of_ble_eq_true rfl, Nat.le_of_ble_eq_true rfl⟩ rfl (Nat.le_of_ble_eq_true rfl) (fun τ z hz => ?_)))))
    rw [← en] at hz
    have hy := Qch_yes hn hz hcp
    refine ok_pop 7 rfl rfl rfl (ok_goto 8 129 rfl rfl rfl (ok_vret 79 rfl rfl rfl ?_))
    first | exact ⟨rfl, hy.1, hy.2.2⟩ | exact ⟨rfl, fun c k q => by rw [hy2.1 c k q, q1 c k (by omega)], hy3.1, fun i a b => by have := hy3.2 i a b; have hv3 : 1 ≤ τ 10 0 := hv; omega⟩ | exact ⟨rfl, hz.1, hz.2.2⟩
end
section
theorem ix_inj {n r j r' j' : Int} (hn : 1 ≤ n ∧ n ≤ 8) (hj : 0 ≤ j ∧ j < n) (hj' : 0 ≤ j' ∧ j' < n) (h : n * r + j = n * r' + j') : r = r' ∧ j = j' := by
  have : n = 1 ∨ n = 2 ∨ n = 3 ∨ n = 4 ∨ n = 5 ∨ n = 6 ∨ n = 7 ∨ n = 8 := by omega
  rcases this with rfl | rfl | rfl | rfl | rfl | rfl | rfl | rfl <;> omega
theorem sm_sub (f g : Int → Int) : ∀ n, sm (fun k => f k - g k) n = sm f n - sm g n
  | 0 => rfl
  | n + 1 => by
    have h := sm_sub f g n
    show sm (fun k => f k - g k) n + (f n - g n) = sm f n + f n - (sm g n + g n)
    omega
theorem sm_one {x : Int} (v : Int) : ∀ {n : Nat}, 0 ≤ x → x < n → sm (fun k => if k = x then v else 0) n = v
  | 0, h0, h => by omega
  | n + 1, h0, h => by
    show sm (fun k => if k = x then v else 0) n + (if (n : Int) = x then v else 0) = v
    by_cases q : (n : Int) = x
    · rw [if_pos q]
      have : sm (fun k => if k = x then v else 0) n = sm (fun _ => 0) n := sm_cg (fun k a b => if_neg (by omega))
      have z : ∀ m : Nat, sm (fun _ => 0) m = 0 := fun m => by induction m with
        | zero => rfl
        | succ m ih => show sm (fun _ => 0) m + 0 = 0; omega
      rw [this, z]
      omega
    · rw [if_neg q, sm_one v h0 (by omega)]
      omega
theorem sm_le2 {f g : Int → Int} : ∀ {n : Nat}, (∀ k : Int, 0 ≤ k → k < n → f k ≤ g k) → sm f n ≤ sm g n
  | 0, _ => Int.le_refl _
  | n + 1, h => by
    have h1 := sm_le2 (n := n) (fun k a b => h k a (by omega))
    have h2 := h n (by omega) (by omega)
    show sm f n + f n ≤ sm g n + g n
    omega
theorem sm_less {f g : Int → Int} {x : Int} : ∀ {n : Nat}, (∀ k : Int, 0 ≤ k → k < n → f k ≤ g k) → 0 ≤ x → x < n → f x + 1 ≤ g x → sm f n + 1 ≤ sm g n
  | 0, h, h0, hx, hl => by omega
  | n + 1, h, h0, hx, hl => by
    show sm f n + f n + 1 ≤ sm g n + g n
    have h2 := h n (by omega) (by omega)
    by_cases q : x = n
    · have h1 := sm_le2 (n := n) (fun k a b => h k a (by omega))
      rw [q] at hl
      omega
    · have h1 := sm_less (n := n) (fun k a b => h k a (by omega)) h0 (by omega) hl
      omega
/-- how many numbers of the work are above 0 -/
def np (σ : eS) : Int := sm (fun k => if 0 < σ 9 k then 1 else 0) (σ 0 22 * σ 0 22).toNat
theorem EvW_bd {n m : Int} {w : Int → Int → Int} (h : EvW n w m) {i j : Int} (hi : 0 ≤ i ∧ i < n) (hj : 0 ≤ j ∧ j < n) : w i j ≤ m := by
  have := sm_le (f := fun j => w i j) (n := n.toNat) (fun k a b => h.1 i k hi.1 hi.2 a (by omega)) j hj.1 (by omega)
  rwa [h.2.1 i hi.1 hi.2] at this
/-- the work less a choice -/
def Qpl (σ : eS) (m : Int) (σ' : eS) (z : Int) : Prop := 1 ≤ z ∧ z ≤ m ∧ fr (fun c _ => c = 9 ∨ c = 10 ∨ c = 11) σ σ' ∧ EvW (σ 0 22) (wk σ') (m - z) ∧ np σ' + 1 ≤ np σ ∧ chB σ (σ 0 22) 1 (fun i => σ' 11 i)
theorem s_Mo_peels {σ : eS} {r m : Int} (h : nW σ) (he : EvW (σ 0 22) (wk σ) m) (hm : 1 ≤ m ∧ m ≤ 799999992) : MtI shB M_Mo_peels [vr 0, vi r] σ (Qpl σ m) := by
  refine Mt.of okM_Mo_peels (Nat.le_of_ble_eq_true rfl) (fun hk hg => ?_)
  obtain ⟨n, en⟩ : ∃ x, x = σ 0 22 := ⟨_, rfl⟩
  have hn : 1 ≤ n ∧ n ≤ 8 := by rw [en]; exact h
  obtain ⟨sq1, sq2⟩ := sq8 (n := n) ⟨by omega, by omega⟩
  have hw : wBd σ := fun i j a b c d => ⟨he.1 i j a b c d, Int.le_trans (EvW_bd he ⟨a, b⟩ ⟨c, d⟩) hm.2⟩
  refine ok_aload_n 0 rfl rfl rfl (ok_iload_n 1 rfl rfl rfl (ok_callVV (M' := M_Mo_choose) (as := [_]) 2 rfl rfl ml_X12_267 (s_Mo_choose h hw he hm.1) rfl rfl (Nat.le_of_ble_eq_true rfl) ⟨Nat.le_of_ble_eq_true rfl, Nat.le_of_ble_eq_true rfl⟩ rfl (Nat.le_of_ble_eq_true rfl) (fun τ hq => ?_)))
  rw [← en] at hq he
  obtain ⟨f1, hp, hc⟩ := hq
  have t22 : τ 0 22 = n := by rw [f1 0 22 (by omega), en]
  have tn : nW τ := h.fr' (by rw [t22, en])
  have twk : wk τ = wk σ := by funext a b; unfold wk; rw [f1 0 22 (by omega), f1 9 _ (by omega)]
  have hcb : ∀ i, 0 ≤ i → i < n → 1 ≤ wk σ i (τ 11 i) ∧ wk σ i (τ 11 i) ≤ m := fun i a b => ⟨hc i a b, EvW_bd he ⟨a, b⟩ (hp.1 i a b)⟩
  refine ok_ldcw 3 (799999992) rfl rfl kc_X12_270 (by decide) (ok_ist2 4 rfl rfl rfl (ok_iconst 5 rfl rfl (by decide) (ok_ist3 6 rfl rfl rfl ?_)))
  refine lpO2 (fun w i : Int => [some (vr 0), some (vi r), some (vi w), some (vi i)]) (fun _ _ => τ) (fun w i => 0 ≤ i ∧ i ≤ n ∧ 1 ≤ w ∧ w ≤ 799999992 ∧ (∀ k, 0 ≤ k → k < i → w ≤ wk σ k (τ 11 k)) ∧ (0 < i → ∃ k, 0 ≤ k ∧ k < i ∧ w = wk σ k (τ 11 k)) ∧ (i = 0 → w = 799999992)) (fun _ i => (n - i).toNat) ?_ 799999992 0 ⟨by omega, by omega, by omega, by omega, fun k a b => by omega, fun q => by omega, fun _ => rfl⟩
  rintro w i ⟨i1, i2, i3, i4, i5, i6, i7⟩ ih
  refine ok_iload_n 7 rfl rfl rfl (ok_aload_n 8 rfl rfl rfl (ok_getI 9 rfl rfl fl_X12_234 rfl rfl (Or.inl rfl) (ok_icmp_ge 10 41 rfl rfl rfl (fun h16 => ?_) (fun h16 => ?_))))
  · refine ok_iconst 23 rfl rfl (by decide) (ok_ist3 24 rfl rfl rfl ?_)
    obtain ⟨x, x1, x2, x3⟩ := i6 (by omega)
    have hin : i = n := by omega
    have hwm : w ≤ m := by rw [x3]; exact (hcb x x1 (by omega)).2
    clear i6 ih
    refine lpO2 (fun (i : Int) (_ : eS) => [some (vr 0), some (vi r), some (vi w), some (vi i)]) (fun _ ρ => ρ) (fun i ρ => 0 ≤ i ∧ i ≤ n ∧ fr (fun c _ => c = 9) τ ρ ∧ ∀ a j, 0 ≤ a → a < n → 0 ≤ j → j < n → ρ 9 (n * a + j) = wk σ a j - (if a < i ∧ j = τ 11 a then w else 0)) (fun i _ => (n - i).toNat) ?_ 0 τ ⟨by omega, by omega, fr.rf, fun a j y1 y2 y3 y4 => ?_⟩
    rotate_left
    · rw [if_neg (by omega), ← twk]
      unfold wk
      rw [t22]
      omega
    clear h16
    rintro k ρ ⟨k1, k2, k3, k4⟩ ih
    have e22 : ρ 0 22 = n := by rw [k3 0 22 (by omega), t22]
    have e11 : ∀ q, ρ 11 q = τ 11 q := fun q => k3 11 q (by omega)
    refine ok_iload_n 25 rfl rfl rfl (ok_aload_n 26 rfl rfl rfl (ok_getI 27 rfl rfl fl_X12_234 rfl rfl (Or.inl rfl) (ok_icmp_ge 28 79 rfl rfl rfl (fun h48 => ?_) (fun h48 => ?_))))
    · refine ok_iload_n 47 rfl rfl rfl (ok_iret 48 rfl rfl rfl ?_)
      have hkn : k = n := by omega
      have hval : ∀ a j, 0 ≤ a → a < n → 0 ≤ j → j < n → ρ 9 (n * a + j) = wk σ a j - (if j = τ 11 a then w else 0) := fun a j y1 y2 y3 y4 => by
        rw [k4 a j y1 y2 y3 y4]
        by_cases q : j = τ 11 a
        · rw [if_pos q, if_pos ⟨by omega, q⟩]
        · rw [if_neg q, if_neg (fun y => q y.2)]
      have hwk : ∀ a j, 0 ≤ a → a < n → 0 ≤ j → j < n → wk ρ a j = wk σ a j - (if j = τ 11 a then w else 0) := fun a j y1 y2 y3 y4 => by
        unfold wk at hval ⊢
        rw [e22, ← en] at *
        exact hval a j y1 y2 y3 y4
      refine ⟨_, rfl, i3, hwm, fun c q z => by rw [k3 c q (by omega), f1 c q (by omega)], ?_, ?_, ?_⟩
      · rw [← en]
        refine ⟨fun a j y1 y2 y3 y4 => ?_, fun a y1 y2 => ?_, fun j y1 y2 => ?_⟩
        · rw [hwk a j y1 y2 y3 y4]
          have g1 := he.1 a j y1 y2 y3 y4
          split
          · next q => rw [q]; have := i5 a y1 (by omega); omega
          · omega
        · have e1 : sm (fun j => wk ρ a j) n.toNat = sm (fun j => wk σ a j - (if j = τ 11 a then w else 0)) n.toNat := sm_cg (fun j b c => hwk a j y1 y2 b (by omega))
          have hi : 0 ≤ τ 11 a ∧ τ 11 a < n := hp.1 a y1 y2
          rw [e1, sm_sub, sm_one w hi.1 (by omega), he.2.1 a y1 y2]
        · have e1 : sm (fun a => wk ρ a j) n.toNat = sm (fun a => wk σ a j - (if τ 11 a = j then w else 0)) n.toNat := sm_cg (fun a b c => by
            rw [hwk a j b (by omega) y1 y2]
            by_cases q : j = τ 11 a
            · rw [if_pos q, if_pos q.symm]
            · rw [if_neg q, if_neg (fun y => q y.symm)])
          rw [e1, sm_sub, perm_col (by omega) hp w ⟨y1, y2⟩, he.2.2 j y1 y2]
      · unfold np
        rw [e22, ← en]
        have hx : 0 ≤ τ 11 x ∧ τ 11 x < n := hp.1 x x1 (by omega)
        obtain ⟨y1, y2, y3, y4⟩ := ix8 (n := n) (i := x) (j := τ 11 x) ⟨by omega, by omega⟩ ⟨by omega, by omega⟩ hx
        refine sm_less (x := n * x + τ 11 x) (fun q a b => ?_) (by omega) (by omega) ?_
        · have g1 := Int.mul_ediv_add_emod q n
          have g2 := Int.emod_nonneg q (by omega : n ≠ 0)
          have g3 := Int.emod_lt_of_pos q (by omega : 0 < n)
          have g4 : q / n < n := Int.ediv_lt_of_lt_mul (by omega) (by omega)
          have g5 : 0 ≤ q / n := Int.ediv_nonneg a (by omega)
          have g6 := hval (q / n) (q % n) g5 g4 g2 g3
          unfold wk at g6
          rw [← en, g1] at g6
          have g7 : ρ 9 q ≤ σ 9 q := by rw [g6]; split <;> omega
          by_cases z : 0 < ρ 9 q
          · rw [if_pos z, if_pos (by omega)]; exact Int.le_refl _
          · rw [if_neg z]; split <;> omega
        · have g6 := hval x (τ 11 x) x1 (by omega) hx.1 hx.2
          rw [if_pos rfl] at g6
          have g8 := (hcb x x1 (by omega)).1
          rw [if_neg (by omega), if_pos]
          · omega
          · unfold wk at g8
            rw [← en] at g8
            omega
      · rw [← en]
        unfold chB
        simp only [e11]
        exact ⟨hp, hc⟩
    · have hi : 0 ≤ τ 11 k ∧ τ 11 k < n := hp.1 k k1 (by omega)
      have hv := hcb k k1 (by omega)
      have hle := i5 k k1 (by omega)
      obtain ⟨y1, y2, y3, y4⟩ := ix8 (n := n) (i := k) (j := τ 11 k) ⟨by omega, by omega⟩ ⟨by omega, by omega⟩ hi
      have hval := k4 k (τ 11 k) k1 (by omega) hi.1 hi.2
      rw [if_neg (by omega)] at hval
      refine ok_aload_n 29 rfl rfl rfl (ok_getR 30 rfl rfl fl_X12_39 rfl rfl (ok_aload_n 31 rfl rfl rfl (ok_getI 32 rfl rfl fl_X12_234 rfl rfl (Or.inl rfl) (ok_iload_n 33 rfl rfl rfl (ok_imul 34 rfl rfl (by rw [e22]; omega) (ok_aload_n 35 rfl rfl rfl (ok_getR 36 rfl rfl fl_X12_45 rfl rfl (ok_iload_n 37 rfl rfl rfl (ok_iald 38 rfl rfl rfl (by first | omega | (simp [up_if]; omega) | (simp [up_if] at *; omega)) (ok_iadd 39 rfl rfl (by rw [e22, e11]; omega) (ok_dup2 40 rfl rfl ⟨rfl, rfl⟩ (ok_iald 41 rfl rfl rfl (by rw [e22, e11]; omega) (ok_iload_n 42 rfl rfl rfl (ok_isub 43 rfl rfl (by rw [e22, e11]; omega) (ok_iast 44 rfl rfl rfl (by rw [e22, e11]; omega) (ok_inc3 45 rfl rfl rfl (by first | omega | (simp [up_if]; omega) | (simp [up_if] at *; omega)) (ok_goto 46 43 rfl rfl rfl ?_)))))))))))))))))
      rw [e22, e11]
      refine ih (k + 1) _ ⟨by omega, by omega, fr_up k3 rfl, fun a j y1 y2 y3 y4 => ?_⟩ (by omega)
      rw [up_if]
      by_cases q : n * a + j = n * k + τ 11 k
      · obtain ⟨qa, qj⟩ := ix_inj hn ⟨y3, y4⟩ hi q
        rw [if_pos ⟨rfl, q⟩, hval, if_pos ⟨by omega, by rw [qa]; exact qj⟩, qa, qj]
        omega
      · rw [if_neg (fun y => q y.2), k4 a j y1 y2 y3 y4]
        by_cases q2 : a < k ∧ j = τ 11 a
        · rw [if_pos q2, if_pos ⟨by omega, q2.2⟩]
        · rw [if_neg q2, if_neg]
          rintro ⟨y5, y6⟩
          by_cases q3 : a = k
          · exact q (by rw [y6, q3])
          · exact q2 ⟨by omega, y6⟩
  · have hi : 0 ≤ τ 11 i ∧ τ 11 i < n := hp.1 i i1 (by omega)
    have hv := hcb i i1 (by omega)
    refine ok_iload_n 11 rfl rfl rfl (ok_aload_n 12 rfl rfl rfl (ok_iload_n 13 rfl rfl rfl (ok_aload_n 14 rfl rfl rfl (ok_getR 15 rfl rfl fl_X12_45 rfl rfl (ok_iload_n 16 rfl rfl rfl (ok_iald 17 rfl rfl rfl (by first | omega | (simp [up_if]; omega) | (simp [up_if] at *; omega)) (ok_callVI (M' := M_Mo_worked) (as := [_, _]) 18 rfl rfl ml_X12_244 (s_Mo_worked tn (by omega) (by rw [t22]; exact hi)) rfl rfl (Nat.le_of_ble_eq_true rfl) ⟨Nat.le_of_ble_eq_true rfl, Nat.le_of_ble_eq_true rfl⟩ rfl (Nat.le_of_ble_eq_true rfl) (fun σ' z hz => ?_))))))))
    rw [hz.1, hz.2, twk]; clear hz z σ'
    refine ok_mmin 19 rfl rfl ml_X12_271 ⟨Nat.le_of_ble_eq_true rfl, Nat.le_of_ble_eq_true rfl⟩ (ok_ist2 20 rfl rfl rfl (ok_inc3 21 rfl rfl rfl (by first | omega | (simp [up_if]; omega) | (simp [up_if] at *; omega)) (ok_goto 22 11 rfl rfl rfl ?_)))
    refine ih _ (i + 1) ⟨by omega, by omega, by omega, by omega, fun k a b => ?_, fun _ => ?_, fun q => by omega⟩ (by omega)
    · by_cases q : k = i
      · rw [q]; omega
      · have := i5 k a (by omega); omega
    · by_cases q : w ≤ wk σ i (τ 11 i)
      · by_cases q0 : 0 < i
        · obtain ⟨k, a, b, c⟩ := i6 q0
          exact ⟨k, a, by omega, by omega⟩
        · exact ⟨i, i1, by omega, by omega⟩
      · exact ⟨i, i1, by omega, by omega⟩
end
section
/-- what is kept -/
def wtK (σ : eS) (p m : Int) : Prop := (∀ q, 0 ≤ q → q < p → 1 ≤ σ 12 q) ∧ sm (fun q => σ 12 q) p.toNat = m
def colK (σ : eS) (p n : Int) : Prop := ∀ q i, 0 ≤ q → q < p → 0 ≤ i → i < n → 0 ≤ σ 13 (8 * q + i) ∧ σ 13 (8 * q + i) < n
abbrev rgK : Nat → Int → Prop := fun c k => (c = 0 ∧ 27 ≤ k ∧ k ≤ 30) ∨ c = 9 ∨ c = 10 ∨ c = 11 ∨ c = 12 ∨ c = 13
def QK (σ : eS) (kind m : Int) (σ' : eS) (z : Int) : Prop := fr rgK σ σ' ∧ z = σ' 0 27 ∧ 1 ≤ z ∧ z ≤ 64 ∧ σ' 0 28 = σ 0 22 ∧ σ' 0 29 = m ∧ σ' 0 30 = kind ∧ wtK σ' z m ∧ colK σ' z (σ 0 22)
theorem np_bd (σ : eS) (h : nW σ) : 0 ≤ np σ ∧ np σ ≤ 64 := by
  have hn : 1 ≤ σ 0 22 ∧ σ 0 22 ≤ 8 := h
  obtain ⟨q1, q2⟩ := sq8 (n := σ 0 22) ⟨by omega, by omega⟩
  have := sm_bd (f := fun k => if 0 < σ 9 k then 1 else 0) (B := 1) (by decide) (n := (σ 0 22 * σ 0 22).toNat) (fun k a b => by split <;> omega)
  unfold np
  exact ⟨this.1, by omega⟩
theorem np_pos {σ : eS} {k : Int} (h0 : 0 ≤ k) (h1 : k < σ 0 22 * σ 0 22) (h2 : 0 < σ 9 k) : 1 ≤ np σ := by
  have := sm_le (f := fun k => if 0 < σ 9 k then 1 else 0) (n := (σ 0 22 * σ 0 22).toNat) (fun k a b => by split <;> omega) k h0 (by omega)
  rw [if_pos h2] at this
  exact this
end
section
theorem s_Mo_isRule {σ : eS} {r : Int} : MtI shB M_Mo_isRule [vi r] σ (fun σ' z => σ' = σ ∧ ((z = 1 ∧ 0 ≤ r ∧ r ≤ 3) ∨ (z = 0 ∧ ¬ (0 ≤ r ∧ r ≤ 3)))) := by
  refine Mt.of okM_Mo_isRule (Nat.le_of_ble_eq_true rfl) (fun hk hg => ?_)
  refine ok_iload_n 0 rfl rfl rfl (ok_i2l 1 rfl rfl (ok_lconst (w := 0) 2 rfl rfl rfl (by decide) (ok_ldc2 3 (3) rfl rfl kc_X12_97 (by decide) (ok_callSI (M' := M_Mo_isIn) (as := [_, _, _]) 4 rfl rfl ml_X12_99 (s_Mo_isIn_r) ⟨Nat.le_of_ble_eq_true rfl, Nat.le_of_ble_eq_true rfl⟩ rfl (Nat.le_of_ble_eq_true rfl) (fun σ' z hz => ?_)))))
  obtain ⟨hs_, hz⟩ := hz
  rw [hs_]; clear hs_ σ'
  refine ok_zret 5 rfl rfl rfl (by omega) ?_
  exact ⟨_, rfl, rfl, hz⟩
def iK (σ : eS) : Prop := 0 ≤ σ 0 27 ∧ σ 0 27 ≤ 64 ∧ 0 ≤ σ 0 28 ∧ σ 0 28 ≤ 8 ∧ 0 ≤ σ 0 29 ∧ σ 0 29 ≤ 799999992 ∧ wtK σ (σ 0 27) (σ 0 29) ∧ colK σ (σ 0 27) (σ 0 28) ∧ (σ 0 30 = 2 → 1 ≤ σ 0 27 ∧ 1 ≤ σ 0 31 ∧ σ 0 31 ≤ 4 ∧ σ 0 28 = 2 * σ 0 31)
theorem s_Mo_isPartThere {σ : eS} {k : Int} (h : iK σ) : MtI shB M_Mo_isPartThere [vr 0, vi k] σ (fun σ' z => σ' = σ ∧ ((z = 1 ∧ 0 ≤ k ∧ k < σ 0 27) ∨ (z = 0 ∧ ¬ (0 ≤ k ∧ k < σ 0 27)))) := by
  refine Mt.of okM_Mo_isPartThere (Nat.le_of_ble_eq_true rfl) (fun hk hg => ?_)
  have := h.1
  have := h.2.1
  refine ok_iload_n 0 rfl rfl rfl (ok_i2l 1 rfl rfl (ok_lconst (w := 0) 2 rfl rfl rfl (by decide) (ok_aload_n 3 rfl rfl rfl (ok_getI 4 rfl rfl fl_X12_273 rfl rfl (Or.inl rfl) (ok_iconst 5 rfl rfl (by decide) (ok_isub 6 rfl rfl (by first | omega | (simp [up_if]; omega) | (simp [up_if] at *; omega)) (ok_i2l 7 rfl rfl (ok_callSI (M' := M_Mo_isIn) (as := [_, _, _]) 8 rfl rfl ml_X12_99 (s_Mo_isIn_r) ⟨Nat.le_of_ble_eq_true rfl, Nat.le_of_ble_eq_true rfl⟩ rfl (Nat.le_of_ble_eq_true rfl) (fun σ' z hz => ?_)))))))))
  obtain ⟨hs_, hz⟩ := hz
  rw [hs_]; clear hs_ σ'
  refine ok_zret 9 rfl rfl rfl (by omega) ?_
  exact ⟨_, rfl, rfl, by omega⟩
theorem s_Mo_isKeptRow {σ : eS} {k : Int} (h : iK σ) : MtI shB M_Mo_isKeptRow [vr 0, vi k] σ (fun σ' z => σ' = σ ∧ ((z = 1 ∧ 0 ≤ k ∧ k < σ 0 28) ∨ (z = 0 ∧ ¬ (0 ≤ k ∧ k < σ 0 28)))) := by
  refine Mt.of okM_Mo_isKeptRow (Nat.le_of_ble_eq_true rfl) (fun hk hg => ?_)
  have := h.2.2.1
  have := h.2.2.2.1
  refine ok_iload_n 0 rfl rfl rfl (ok_i2l 1 rfl rfl (ok_lconst (w := 0) 2 rfl rfl rfl (by decide) (ok_aload_n 3 rfl rfl rfl (ok_getI 4 rfl rfl fl_X12_276 rfl rfl (Or.inl rfl) (ok_iconst 5 rfl rfl (by decide) (ok_isub 6 rfl rfl (by first | omega | (simp [up_if]; omega) | (simp [up_if] at *; omega)) (ok_i2l 7 rfl rfl (ok_callSI (M' := M_Mo_isIn) (as := [_, _, _]) 8 rfl rfl ml_X12_99 (s_Mo_isIn_r) ⟨Nat.le_of_ble_eq_true rfl, Nat.le_of_ble_eq_true rfl⟩ rfl (Nat.le_of_ble_eq_true rfl) (fun σ' z hz => ?_)))))))))
  obtain ⟨hs_, hz⟩ := hz
  rw [hs_]; clear hs_ σ'
  refine ok_zret 9 rfl rfl rfl (by omega) ?_
  exact ⟨_, rfl, rfl, by omega⟩
theorem s_Mo_part {σ : eS} {k r : Int} (h : iK σ) : MtI shB M_Mo_part [vr 0, vi k, vi r] σ (fun σ' z => σ' = σ ∧ ((z = σ 13 (8 * k + r) ∧ 0 ≤ k ∧ k < σ 0 27 ∧ 0 ≤ r ∧ r < σ 0 28) ∨ (z = -1 ∧ ¬ (0 ≤ k ∧ k < σ 0 27 ∧ 0 ≤ r ∧ r < σ 0 28)))) := by
  refine Mt.of okM_Mo_part (Nat.le_of_ble_eq_true rfl) (fun hk hg => ?_)
  obtain ⟨h1, h2, h3, h4, -⟩ := id h
  refine ok_aload_n 0 rfl rfl rfl (ok_iload_n 1 rfl rfl rfl (ok_callVI (M' := M_Mo_isPartThere) (as := [_]) 2 rfl rfl ml_X12_300 (s_Mo_isPartThere h) rfl rfl (Nat.le_of_ble_eq_true rfl) ⟨Nat.le_of_ble_eq_true rfl, Nat.le_of_ble_eq_true rfl⟩ rfl (Nat.le_of_ble_eq_true rfl) (fun σ' z1 a1 => ?_)))
  obtain ⟨hs_, a1⟩ := a1
  rw [hs_]; clear hs_ σ'
  refine ok_if_eq 3 30 rfl rfl rfl (fun h5 => ?_) (fun h5 => ?_)
  · refine ok_iconst 17 rfl rfl (by decide) (ok_iret 18 rfl rfl rfl ?_)
    refine ⟨_, rfl, rfl, ?_⟩
    first | exact Or.inl ⟨rfl, by omega, by omega, by omega, by omega⟩ | exact Or.inr ⟨rfl, by omega⟩
  · refine ok_aload_n 4 rfl rfl rfl (ok_iload_n 5 rfl rfl rfl (ok_callVI (M' := M_Mo_isKeptRow) (as := [_]) 6 rfl rfl ml_X12_303 (s_Mo_isKeptRow h) rfl rfl (Nat.le_of_ble_eq_true rfl) ⟨Nat.le_of_ble_eq_true rfl, Nat.le_of_ble_eq_true rfl⟩ rfl (Nat.le_of_ble_eq_true rfl) (fun σ' z2 a2 => ?_)))
    obtain ⟨hs_, a2⟩ := a2
    rw [hs_]; clear hs_ σ'
    refine ok_if_eq 7 30 rfl rfl rfl (fun h13 => ?_) (fun h13 => ?_)
    · refine ok_iconst 17 rfl rfl (by decide) (ok_iret 18 rfl rfl rfl ?_)
      refine ⟨_, rfl, rfl, ?_⟩
      first | exact Or.inl ⟨rfl, by omega, by omega, by omega, by omega⟩ | exact Or.inr ⟨rfl, by omega⟩
    · refine ok_aload_n 8 rfl rfl rfl (ok_getR 9 rfl rfl fl_X12_51 rfl rfl (ok_bipush 10 rfl rfl (by decide) (by decide) (ok_iload_n 11 rfl rfl rfl (ok_imul 12 rfl rfl (by first | omega | (simp [up_if]; omega) | (simp [up_if] at *; omega)) (ok_iload_n 13 rfl rfl rfl (ok_iadd 14 rfl rfl (by first | omega | (simp [up_if]; omega) | (simp [up_if] at *; omega)) (ok_iald 15 rfl rfl rfl (by first | omega | (simp [up_if]; omega) | (simp [up_if] at *; omega)) (ok_goto 16 31 rfl rfl rfl (ok_iret 18 rfl rfl rfl ?_)))))))))
      refine ⟨_, rfl, rfl, ?_⟩
      first | exact Or.inl ⟨rfl, by omega, by omega, by omega, by omega⟩ | exact Or.inr ⟨rfl, by omega⟩
theorem wt_sum {σ : eS} (h : iK σ) {k : Int} (h0 : 0 ≤ k) (h1 : k ≤ σ 0 27) : 0 ≤ sm (fun q => σ 12 q) k.toNat ∧ sm (fun q => σ 12 q) k.toNat ≤ σ 0 29 := by
  obtain ⟨-, -, -, -, -, -, hw, -⟩ := h
  have key : ∀ (d : Nat) (k : Int), 0 ≤ k → k + d ≤ σ 0 27 → sm (fun q => σ 12 q) k.toNat ≤ sm (fun q => σ 12 q) (k + d).toNat := by
    intro d
    induction d with
    | zero => intro k a b; rw [show k + ((0 : Nat) : Int) = k by omega]; exact Int.le_refl _
    | succ d ih =>
      intro k a b
      have e := ih k a (by omega)
      have e2 := sm_s (fun q => σ 12 q) (j := k + d) (by omega)
      have e3 := hw.1 (k + d) (by omega) (by omega)
      rw [show k + ((d + 1 : Nat) : Int) = k + d + 1 by omega, e2]
      omega
  have a := key k.toNat 0 (by omega) (by omega)
  have b := key (σ 0 27 - k).toNat k h0 (by omega)
  rw [show (0 : Int) + (k.toNat : Int) = k by omega] at a
  rw [show k + ((σ 0 27 - k).toNat : Int) = σ 0 27 by omega, hw.2] at b
  exact ⟨a, b⟩
theorem wt_le {σ : eS} (h : iK σ) {k : Int} (h0 : 0 ≤ k) (h1 : k < σ 0 27) : 1 ≤ σ 12 k ∧ σ 12 k ≤ σ 0 29 := by
  have a := (wt_sum h (k := k + 1) (by omega) (by omega)).2
  rw [sm_s _ h0] at a
  have b := (wt_sum h h0 (by omega)).1
  have c := h.2.2.2.2.2.2.1.1 k h0 h1
  exact ⟨c, by omega⟩
theorem s_Mo_ruleOf {σ : eS} {w k : Int} (hk : 0 ≤ k ∧ k ≤ 3) : MtI shB M_Mo_ruleOf [vi w, vi k] σ (fun σ' z => σ' = σ ∧ z = iand (ishr w (6 - 2 * k)) 3) := by
  refine Mt.of okM_Mo_ruleOf (Nat.le_of_ble_eq_true rfl) (fun hk hg => ?_)
  refine ok_iload_n 0 rfl rfl rfl (ok_bipush 1 rfl rfl (by decide) (by decide) (ok_iconst 2 rfl rfl (by decide) (ok_iload_n 3 rfl rfl rfl (ok_imul 4 rfl rfl (by first | omega | (simp [up_if]; omega) | (simp [up_if] at *; omega)) (ok_isub 5 rfl rfl (by first | omega | (simp [up_if]; omega) | (simp [up_if] at *; omega)) (ok_ishr 6 rfl rfl (ok_iconst 7 rfl rfl (by decide) (ok_iand 8 rfl rfl (ok_iret 9 rfl rfl rfl ?_)))))))))
  exact ⟨_, rfl, rfl, rfl⟩
theorem s_Mo_lies {σ : eS} {s a b : Int} (hB : iB1 σ) (hs : 0 ≤ s ∧ s < 4) (h3 : σ 1 s = 3) (ha : 0 ≤ a ∧ a ≤ 2) (hb : 0 ≤ b ∧ b ≤ 2) : MtL shB M_Mo_lies [vr 0, vi s, vi a, vi b] σ (fun σ' z => σ' = σ ∧ 0 ≤ z ∧ z ≤ 99999999) := by
  refine Mt.of okM_Mo_lies (Nat.le_of_ble_eq_true rfl) (fun hk hg => ?_)
  refine ok_iconst 0 rfl rfl (by decide) (ok_ist4 1 rfl rfl rfl ?_)
  refine lpO (fun i : Int => [some (vr 0), some (vi s), some (vi a), some (vi b), some (vi i)]) (fun _ => σ) (fun i => 0 ≤ i ∧ i ≤ 3) (fun i => (3 - i).toNat) ?_ 0 ⟨by omega, by omega⟩
  rintro i ⟨i1, i2⟩ ih
  refine ok_iload 2 rfl rfl rfl (ok_iconst 3 rfl rfl (by decide) (ok_icmp_ge 4 47 rfl rfl rfl (fun h6 => ?_) (fun h6 => ?_)))
  · refine ok_lconst (w := 0) 31 rfl rfl rfl (by decide) (ok_lret 32 rfl rfl rfl ?_)
    exact ⟨_, rfl, rfl, by omega, by omega⟩
  · refine ok_iload 5 rfl rfl rfl (ok_iload_n 6 rfl rfl rfl (ok_iadd 7 rfl rfl (by first | omega | (simp [up_if]; omega) | (simp [up_if] at *; omega)) (ok_iconst 8 rfl rfl (by decide) (ok_irem 9 rfl rfl (by first | omega | (simp [up_if]; omega) | (simp [up_if] at *; omega)) (by first | omega | (simp [up_if]; omega) | (simp [up_if] at *; omega)) (ok_iload_n 10 rfl rfl rfl (ok_iload 11 rfl rfl rfl (ok_isub 12 rfl rfl (by first | omega | (simp [up_if]; omega) | (simp [up_if] at *; omega)) (ok_iconst 13 rfl rfl (by decide) (ok_iadd 14 rfl rfl (by first | omega | (simp [up_if]; omega) | (simp [up_if] at *; omega)) (ok_iconst 15 rfl rfl (by decide) (ok_irem 16 rfl rfl (by first | omega | (simp [up_if]; omega) | (simp [up_if] at *; omega)) (by first | omega | (simp [up_if]; omega) | (simp [up_if] at *; omega)) (ok_icmp_ne 17 41 rfl rfl rfl (fun h23 => ?_) (fun h23 => ?_)))))))))))))
    · refine ok_inc4 29 rfl rfl rfl (by first | omega | (simp [up_if]; omega) | (simp [up_if] at *; omega)) (ok_goto 30 3 rfl rfl rfl ?_)
      exact ih (i + 1) ⟨by omega, by omega⟩ (by omega)
    · refine ok_aload_n 18 rfl rfl rfl (ok_iload_n 19 rfl rfl rfl (ok_iload 20 rfl rfl rfl (ok_iload 21 rfl rfl rfl (ok_iload_n 22 rfl rfl rfl (ok_iadd 23 rfl rfl (by first | omega | (simp [up_if]; omega) | (simp [up_if] at *; omega)) (ok_iconst 24 rfl rfl (by decide) (ok_irem 25 rfl rfl (by first | omega | (simp [up_if]; omega) | (simp [up_if] at *; omega)) (by first | omega | (simp [up_if]; omega) | (simp [up_if] at *; omega)) (ok_callVI (M' := M_Mo_at) (as := [_, _, _]) 26 rfl rfl ml_X12_107 (s_Mo_at hB hs ⟨by omega, by omega⟩ ⟨by omega, by omega⟩) rfl rfl (Nat.le_of_ble_eq_true rfl) ⟨Nat.le_of_ble_eq_true rfl, Nat.le_of_ble_eq_true rfl⟩ rfl (Nat.le_of_ble_eq_true rfl) (fun σ' z hz => ?_)))))))))
      rw [hz.1, hz.2]; clear hz z σ'
      have hc := cB_bd hB hs (i := i) (j := (i + a) % 3) ⟨by omega, by omega⟩ ⟨by omega, by omega⟩
      refine ok_i2l 27 rfl rfl (ok_lret 28 rfl rfl rfl ?_)
      exact ⟨_, rfl, rfl, hc.1, hc.2⟩
end
