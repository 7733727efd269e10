theorem b0 {b : Bool} : ((if b = true then (1 : Int) else 0) = 0 ↔ b = false) := by cases b <;> simp
theorem b1' {b : Bool} : ((if b = true then (1 : Int) else 0) = 1 ↔ b = true) := by cases b <;> simp
theorem s_Mo_bits {σ : eS} {s : Int} (h : 0 ≤ s ∧ s < 256) : MtI shB M_Mo_bits [vi s] σ (fun σ' z => σ' = σ ∧ z = pc s) := by
  refine Mt.of okM_Mo_bits (Nat.le_of_ble_eq_true rfl) (fun hk hg => ?_)
  have hb := bitL (n := 0) h (by omega)
  refine ok_iconst 0 rfl rfl (by decide) (ok_ist1 1 rfl rfl rfl (ok_iload_n 2 rfl rfl rfl (ok_ist2 3 rfl rfl rfl ?_)))
  refine lpO2 (fun a k : Int => [some (vi s), some (vi a), some (vi k)]) (fun _ _ => σ) (fun a k => 0 ≤ k ∧ k < 256 ∧ 0 ≤ a ∧ a + pc k = pc s) (fun _ k => k.toNat) ?_ 0 s ⟨by omega, by omega, by omega, by omega⟩
  rintro a k ⟨k1, k2, k3, k4⟩ ih
  have hk := bitH ⟨k1, k2⟩
  have hq := bitL (s := k / 2) (n := 0) (by omega) (by omega)
  refine ok_iload_n 4 rfl rfl rfl (ok_if_le 5 21 rfl rfl rfl (fun h5 => ?_) (fun h5 => ?_))
  · refine ok_iload_n 17 rfl rfl rfl (ok_iret 18 rfl rfl rfl ?_)
    exact ⟨_, rfl, rfl, by rw [← k4, show k = 0 by omega]; simp [pc]⟩
  · refine ok_iload_n 6 rfl rfl rfl (ok_iload_n 7 rfl rfl rfl (ok_iconst 8 rfl rfl (by decide) (ok_irem 9 rfl rfl (by first | omega | (simp [up_if]; omega) | (simp [up_if] at *; omega)) (by first | omega | (simp [up_if]; omega) | (simp [up_if] at *; omega)) (ok_iadd 10 rfl rfl (by first | omega | (simp [up_if]; omega) | (simp [up_if] at *; omega)) (ok_ist1 11 rfl rfl rfl (ok_iload_n 12 rfl rfl rfl (ok_iconst 13 rfl rfl (by decide) (ok_idiv 14 rfl rfl (by first | omega | (simp [up_if]; omega) | (simp [up_if] at *; omega)) (by first | omega | (simp [up_if]; omega) | (simp [up_if] at *; omega)) (ok_ist2 15 rfl rfl rfl (ok_goto 16 4 rfl rfl rfl ?_))))))))))
    exact ih _ _ ⟨by omega, by omega, by omega, by omega⟩ (by omega)
def wk (σ : eS) (i j : Int) : Int := σ 9 (σ 0 22 * i + j)
def nW (σ : eS) : Prop := 1 ≤ σ 0 22 ∧ σ 0 22 ≤ 8
theorem s_Mo_worked {σ : eS} {i j : Int} (h : nW σ) (hi : 0 ≤ i ∧ i < σ 0 22) (hj : 0 ≤ j ∧ j < σ 0 22) : MtI shB M_Mo_worked [vr 0, vi i, vi j] σ (fun σ' z => σ' = σ ∧ z = wk σ i j) := by
  refine Mt.of okM_Mo_worked (Nat.le_of_ble_eq_true rfl) (fun hk hg => ?_)
  obtain ⟨h3, h4, h5, h6⟩ := ix8 (n := σ 0 22) ⟨by have := h.1; omega, h.2⟩ hi hj
  refine ok_aload_n 0 rfl rfl rfl (ok_getR 1 rfl rfl fl_X12_39 rfl rfl (ok_aload_n 2 rfl rfl rfl (ok_getI 3 rfl rfl fl_X12_234 rfl rfl (Or.inl rfl) (ok_iload_n 4 rfl rfl rfl (ok_imul 5 rfl rfl (by first | omega | (simp [up_if]; omega) | (simp [up_if] at *; omega)) (ok_iload_n 6 rfl rfl rfl (ok_iadd 7 rfl rfl (by first | omega | (simp [up_if]; omega) | (simp [up_if] at *; omega)) (ok_iald 8 rfl rfl rfl (by first | omega | (simp [up_if]; omega) | (simp [up_if] at *; omega)) (ok_iret 9 rfl rfl rfl ?_)))))))))
  exact ⟨_, rfl, rfl, rfl⟩
def opB (σ : eS) (l r c i j : Int) : Prop := l ≤ wk σ i j ∧ (i = r ↔ j = c)
theorem s_Mo_isOpen {σ : eS} {i j l r c : Int} (h : nW σ) (hi : 0 ≤ i ∧ i < σ 0 22) (hj : 0 ≤ j ∧ j < σ 0 22) : MtI shB M_Mo_isOpen [vr 0, vi i, vi j, vi l, vi r, vi c] σ (fun σ' z => σ' = σ ∧ ((z = 1 ∧ opB σ l r c i j) ∨ (z = 0 ∧ ¬ opB σ l r c i j))) := by
  refine Mt.of okM_Mo_isOpen (Nat.le_of_ble_eq_true rfl) (fun hk hg => ?_)
  refine ok_aload_n 0 rfl rfl rfl (ok_iload_n 1 rfl rfl rfl (ok_iload_n 2 rfl rfl rfl (ok_callVI (M' := M_Mo_worked) (as := [_, _]) 3 rfl rfl ml_X12_244 (s_Mo_worked h hi hj) rfl rfl (Nat.le_of_ble_eq_true rfl) ⟨Nat.le_of_ble_eq_true rfl, Nat.le_of_ble_eq_true rfl⟩ rfl (Nat.le_of_ble_eq_true rfl) (fun σ' z hz => ?_))))
  rw [hz.1, hz.2]
  clear hz z σ'
  refine ok_iload_n 4 rfl rfl rfl (ok_icmp_lt 5 39 rfl rfl rfl (fun h7 => ?_) (fun h7 => ?_))
  · refine ok_iconst 21 rfl rfl (by decide) (ok_zret 22 rfl rfl rfl (by first | omega | (simp [up_if]; omega) | (simp [up_if] at *; omega)) ?_)
    exact ⟨_, rfl, rfl, by unfold opB; omega⟩
  · refine ok_iload_n 6 rfl rfl rfl (ok_iload 7 rfl rfl rfl (ok_icmp_ne 8 20 rfl rfl rfl (fun h13 => ?_) (fun h13 => ?_)))
    · refine ok_iconst 11 rfl rfl (by decide) (ok_iload_n 12 rfl rfl rfl (ok_iload 13 rfl rfl rfl (ok_icmp_ne 14 31 rfl rfl rfl (fun h24 => ?_) (fun h24 => ?_))))
      · refine ok_iconst 17 rfl rfl (by decide) (ok_icmp_ne 18 39 rfl rfl rfl (fun h32 => ?_) (fun h32 => ?_))
        · refine ok_iconst 21 rfl rfl (by decide) (ok_zret 22 rfl rfl rfl (by first | omega | (simp [up_if]; omega) | (simp [up_if] at *; omega)) ?_)
          exact ⟨_, rfl, rfl, by unfold opB; omega⟩
        · refine ok_iconst 19 rfl rfl (by decide) (ok_goto 20 40 rfl rfl rfl (ok_zret 22 rfl rfl rfl (by first | omega | (simp [up_if]; omega) | (simp [up_if] at *; omega)) ?_))
          exact ⟨_, rfl, rfl, by unfold opB; omega⟩
      · refine ok_iconst 15 rfl rfl (by decide) (ok_goto 16 32 rfl rfl rfl (ok_icmp_ne 18 39 rfl rfl rfl (fun h32 => ?_) (fun h32 => ?_)))
        · refine ok_iconst 21 rfl rfl (by decide) (ok_zret 22 rfl rfl rfl (by first | omega | (simp [up_if]; omega) | (simp [up_if] at *; omega)) ?_)
          exact ⟨_, rfl, rfl, by unfold opB; omega⟩
        · refine ok_iconst 19 rfl rfl (by decide) (ok_goto 20 40 rfl rfl rfl (ok_zret 22 rfl rfl rfl (by first | omega | (simp [up_if]; omega) | (simp [up_if] at *; omega)) ?_))
          exact ⟨_, rfl, rfl, by unfold opB; omega⟩
    · refine ok_iconst 9 rfl rfl (by decide) (ok_goto 10 21 rfl rfl rfl (ok_iload_n 12 rfl rfl rfl (ok_iload 13 rfl rfl rfl (ok_icmp_ne 14 31 rfl rfl rfl (fun h24 => ?_) (fun h24 => ?_)))))
      · refine ok_iconst 17 rfl rfl (by decide) (ok_icmp_ne 18 39 rfl rfl rfl (fun h32 => ?_) (fun h32 => ?_))
        · refine ok_iconst 21 rfl rfl (by decide) (ok_zret 22 rfl rfl rfl (by first | omega | (simp [up_if]; omega) | (simp [up_if] at *; omega)) ?_)
          exact ⟨_, rfl, rfl, by unfold opB; omega⟩
        · refine ok_iconst 19 rfl rfl (by decide) (ok_goto 20 40 rfl rfl rfl (ok_zret 22 rfl rfl rfl (by first | omega | (simp [up_if]; omega) | (simp [up_if] at *; omega)) ?_))
          exact ⟨_, rfl, rfl, by unfold opB; omega⟩
      · refine ok_iconst 15 rfl rfl (by decide) (ok_goto 16 32 rfl rfl rfl (ok_icmp_ne 18 39 rfl rfl rfl (fun h32 => ?_) (fun h32 => ?_)))
        · refine ok_iconst 21 rfl rfl (by decide) (ok_zret 22 rfl rfl rfl (by first | omega | (simp [up_if]; omega) | (simp [up_if] at *; omega)) ?_)
          exact ⟨_, rfl, rfl, by unfold opB; omega⟩
        · refine ok_iconst 19 rfl rfl (by decide) (ok_goto 20 40 rfl rfl rfl (ok_zret 22 rfl rfl rfl (by first | omega | (simp [up_if]; omega) | (simp [up_if] at *; omega)) ?_))
          exact ⟨_, rfl, rfl, by unfold opB; omega⟩
/-- what is left can be chosen: m rows from a set of used columns on -/
def cpl (n : Int) (op : Int → Int → Prop) : Nat → Int → Prop
  | 0, _ => True
  | m + 1, S => ∃ j, 0 ≤ j ∧ j < n ∧ bt S j = false ∧ op (n - ((m + 1 : Nat) : Int)) j ∧ cpl n op m (sB S j)
def cs (ch : Int → Int) : Nat → Int
  | 0 => 0
  | i + 1 => sB (cs ch i) (ch i)
/-- the j-th column may follow the set T -/
def okJ (n : Int) (op : Int → Int → Prop) (T j : Int) : Prop := bt T j = false ∧ op (pc T) j ∧ cpl n op (n - pc T - 1).toNat (sB T j)
theorem cpl_iff {n : Int} {op : Int → Int → Prop} {T : Int} (h : pc T < n) (h0 : 0 ≤ pc T) : cpl n op (n - pc T).toNat T ↔ ∃ j, 0 ≤ j ∧ j < n ∧ okJ n op T j := by
  have e : (n - pc T).toNat = (n - pc T - 1).toNat + 1 := by omega
  have e2 : n - (((n - pc T - 1).toNat + 1 : Nat) : Int) = pc T := by omega
  rw [e]
  show (∃ j, 0 ≤ j ∧ j < n ∧ bt T j = false ∧ op (n - (((n - pc T - 1).toNat + 1 : Nat) : Int)) j ∧ cpl n op (n - pc T - 1).toNat (sB T j)) ↔ _
  rw [e2]
  rfl
/-- the first choice -/
def lexCh (n : Int) (op : Int → Int → Prop) (ch : Int → Int) : Prop := ∀ i : Int, 0 ≤ i → i < n → 0 ≤ ch i ∧ ch i < n ∧ okJ n op (cs ch i.toNat) (ch i) ∧ ∀ j, 0 ≤ j → j < ch i → ¬ okJ n op (cs ch i.toNat) j
theorem cs_cg {f g : Int → Int} : ∀ {i : Nat}, (∀ k : Int, 0 ≤ k → k < i → f k = g k) → cs f i = cs g i
  | 0, _ => rfl
  | i + 1, h => by
    show sB (cs f i) (f i) = sB (cs g i) (g i)
    rw [cs_cg (fun k a b => h k a (by omega)), h i (by omega) (by omega)]
theorem cs_s (f : Int → Int) {i : Int} (h : 0 ≤ i) : cs f (i + 1).toNat = sB (cs f i.toNat) (f i) := by
  have : (i + 1).toNat = i.toNat + 1 := by omega
  rw [this]
  show sB (cs f i.toNat) (f ((i.toNat : Nat) : Int)) = _
  rw [Int.toNat_of_nonneg h]
def Qch (σ : eS) (n : Int) (op : Int → Int → Prop) (σ' : eS) (z : Int) : Prop := (z = 0 ∧ ¬ cpl n op n.toNat 0 ∧ fr (fun c _ => c = 10) σ σ') ∨ (z = 1 ∧ cpl n op n.toNat 0 ∧ fr (fun c _ => c = 10 ∨ c = 11) σ σ' ∧ lexCh n op (fun i => σ' 11 i))
def dpC (n : Int) (op : Int → Int → Prop) (τ : eS) (T : Int) : Prop := (τ 10 T = 1 ∧ cpl n op (n - pc T).toNat T) ∨ (τ 10 T = -1 ∧ ¬ cpl n op (n - pc T).toNat T)
theorem nW.fr' {σ τ : eS} (h : nW σ) (e : τ 0 22 = σ 0 22) : nW τ := by unfold nW; rw [e]; exact h
theorem s_Mo_isChosen {σ : eS} {l r c : Int} (h : nW σ) : MtI shB M_Mo_isChosen [vr 0, vi l, vi r, vi c] σ (Qch σ (σ 0 22) (opB σ l r c)) := by
  refine Mt.of okM_Mo_isChosen (Nat.le_of_ble_eq_true rfl) (fun hk hg => ?_)
  obtain ⟨n, en⟩ : ∃ x, x = σ 0 22 := ⟨_, rfl⟩
  obtain ⟨op, eop⟩ : ∃ x, x = opB σ l r c := ⟨_, rfl⟩
  have hn : 1 ≤ n ∧ n ≤ 8 := by rw [en]; exact h
  obtain ⟨z1, z2, z3, z4⟩ := bit2 (n := n) (by omega)
  have z4 := z4 hn.1
  rw [← en, ← eop]
  have hop : ∀ τ : eS, fr (fun c _ => c = 10 ∨ c = 11) σ τ → opB τ l r c = op ∧ τ 0 22 = n ∧ nW τ := fun τ f => by
    have e1 : τ 0 22 = n := by rw [f 0 22 (by omega), en]
    refine ⟨?_, e1, h.fr' (by rw [e1, en])⟩
    rw [eop]
    funext i j
    unfold opB wk
    rw [f 0 22 (by omega), f 9 _ (by omega)]
  refine ok_iconst 0 rfl rfl (by decide) (ok_aload_n 1 rfl rfl rfl (ok_getI 2 rfl rfl fl_X12_234 rfl rfl (Or.inl rfl) (ok_ishl 3 rfl rfl ?_)))
  rw [← en, z1]
  refine ok_iconst 4 rfl rfl (by decide) (ok_isub 5 rfl rfl (by first | omega | (simp [up_if]; omega) | (simp [up_if] at *; omega)) (ok_ist4 6 rfl rfl rfl (ok_aload_n 7 rfl rfl rfl (ok_getR 8 rfl rfl fl_X12_42 rfl rfl (ok_iload 9 rfl rfl rfl (ok_lconst (w := 1) 10 rfl rfl rfl (by decide) (ok_last 11 rfl rfl rfl (by first | omega | (simp [up_if]; omega) | (simp [up_if] at *; omega)) (ok_iload 12 rfl rfl rfl (ok_iconst 13 rfl rfl (by decide) (ok_isub 14 rfl rfl (by first | omega | (simp [up_if]; omega) | (simp [up_if] at *; omega)) (ok_ist5 15 rfl rfl rfl ?_)))))))))))
  refine lpO2 (fun (s : Int) (_ : eS) => [some (vr 0), some (vi l), some (vi r), some (vi c), some (vi (p2 n - 1)), some (vi s), none, none]) (fun _ τ => τ) (fun s τ => -1 ≤ s ∧ s < p2 n - 1 ∧ fr (fun c _ => c = 10) σ τ ∧ ∀ T, s < T → T < p2 n → dpC n op τ T) (fun s _ => (s + 1).toNat) ?_ (p2 n - 1 - 1) _ ⟨by omega, by omega, fr_up fr.rf rfl, fun T a b => ?_⟩
  rotate_left
  · have e : T = p2 n - 1 := by omega
    have := (bitL (s := T) (n := n) (by omega) (by omega)).2.1 e
    refine Or.inl ⟨by rw [e, up_same], ?_⟩
    rw [this, show (n - n).toNat = 0 by omega]
    trivial
  rintro s τ ⟨i1, i2, i3, i4⟩ ih
  obtain ⟨o1, o2, o3⟩ := hop τ (i3.mono (fun c k q => by omega))
  refine ok_iload 16 rfl rfl rfl (ok_if_lt 17 119 rfl rfl rfl (fun h26 => ?_) (fun h26 => ?_))
  · rw [show s = -1 by omega] at i4
    refine ok_aload_n 66 rfl rfl rfl (ok_getR 67 rfl rfl fl_X12_42 rfl rfl (ok_iconst 68 rfl rfl (by decide) (ok_lald 69 rfl rfl rfl (by first | omega | (simp [up_if]; omega) | (simp [up_if] at *; omega)) (ok_lconst (w := 0) 70 rfl rfl rfl (by decide) (ok_lcmp_ge 71 72 132 rfl rfl rfl rfl rfl (fun h126 => ?_) (fun h126 => ?_))))))
    · refine ok_iconst 75 rfl rfl (by decide) (ok_ist5 76 rfl rfl rfl (ok_iconst 77 rfl rfl (by decide) (ok_ist6 78 rfl rfl rfl ?_)))
      have hc0 : cpl n op n.toNat 0 := by
        rcases i4 0 (by omega) (by omega) with q | q
        · have := q.2
          rwa [show pc 0 = 0 by simp [pc], Int.sub_zero] at this
        · omega
      refine lpO2 (fun (i : Int) (ρ : eS) => [some (vr 0), some (vi l), some (vi r), some (vi c), some (vi (p2 n - 1)), some (vi (cs (fun i => ρ 11 i) i.toNat)), some (vi i), none]) (fun _ ρ => ρ) (fun i ρ => 0 ≤ i ∧ i ≤ n ∧ fr (fun c _ => c = 11) τ ρ ∧ 0 ≤ cs (fun i => ρ 11 i) i.toNat ∧ cs (fun i => ρ 11 i) i.toNat < p2 n ∧ pc (cs (fun i => ρ 11 i) i.toNat) = i ∧ cpl n op (n - i).toNat (cs (fun i => ρ 11 i) i.toNat) ∧ ∀ k : Int, 0 ≤ k → k < i → 0 ≤ ρ 11 k ∧ ρ 11 k < n ∧ okJ n op (cs (fun i => ρ 11 i) k.toNat) (ρ 11 k) ∧ ∀ j, 0 ≤ j → j < ρ 11 k → ¬ okJ n op (cs (fun i => ρ 11 i) k.toNat) j) (fun i _ => (n - i).toNat) ?_ 0 τ ⟨by omega, by omega, fr.rf, Int.le_refl _, by show (0 : Int) < p2 n; omega, by show pc 0 = 0; simp [pc], by rw [Int.sub_zero]; exact hc0, fun k a b => by omega⟩
      clear ih
      rintro i ρ ⟨k1, k2, k3, k4, k5, k6, k7, k8⟩ ih
      obtain ⟨S, eS⟩ : ∃ x, x = cs (fun i => ρ 11 i) i.toNat := ⟨_, rfl⟩
      rw [← eS] at k4 k5 k6 k7 ⊢
      obtain ⟨u1, u2, u3⟩ := hop ρ (fun c k q => by rw [k3 c k (by omega), i3 c k (by omega)])
      refine ok_iload 79 rfl rfl rfl (ok_aload_n 80 rfl rfl rfl (ok_getI 81 rfl rfl fl_X12_234 rfl rfl (Or.inl rfl) (ok_icmp_ge 82 222 rfl rfl rfl (fun h144 => ?_) (fun h144 => ?_))))
      · refine ok_iconst 126 rfl rfl (by decide) (ok_zret 127 rfl rfl rfl (by first | omega | (simp [up_if]; omega) | (simp [up_if] at *; omega)) ?_)
        refine ⟨_, rfl, Or.inr ⟨rfl, hc0, fun c k q => by rw [k3 c k (by omega), i3 c k (by omega)], fun k a b => ?_⟩⟩
        exact k8 k a (by omega)
      · refine ok_iconst 83 rfl rfl (by decide) (ok_ist7 84 rfl rfl rfl ?_)
        have hin : i < n := by omega
        have hex : ∃ j, 0 ≤ j ∧ j < n ∧ okJ n op S j := (cpl_iff (by omega) (by omega)).mp (by rw [k6]; exact k7)
        refine lpO (fun j : Int => [some (vr 0), some (vi l), some (vi r), some (vi c), some (vi (p2 n - 1)), some (vi S), some (vi i), some (vi j)]) (fun _ => ρ) (fun j => 0 ≤ j ∧ j < n ∧ ∀ j', 0 ≤ j' → j' < j → ¬ okJ n op S j') (fun j => (n - j).toNat) ?_ 0 ⟨by omega, by omega, fun j' a b => by omega⟩
        rintro j ⟨j1, j2, j3⟩ ih2
        have e1 := bitG (s := S) (j := j) (by omega) (by omega)
        have e2 := bitP (s := S) (j := j) (by omega) (by omega)
        obtain ⟨l1, l2⟩ := sB_lt (s := S) (j := j) (n := n) ⟨k4, k5⟩ ⟨j1, j2⟩
        have nxt : ¬ okJ n op S j → Ok shB M_Mo_isChosen 192 [some (vr 0), some (vi l), some (vi r), some (vi c), some (vi (p2 n - 1)), some (vi S), some (vi i), some (vi j)] [] ρ (fun σ' v => ∃ z, v = some (vi z) ∧ Qch σ n op σ' z) := by
          intro hno
          have hj : j + 1 < n := by
            obtain ⟨j', a1, a2, a3⟩ := hex
            by_cases q : j' < j
            · exact absurd a3 (j3 j' a1 q)
            · by_cases q' : j' = j
              · rw [q'] at a3; exact absurd a3 hno
              · omega
          refine ok_inc7 111 rfl rfl rfl (by first | omega | (simp [up_if]; omega) | (simp [up_if] at *; omega)) (ok_goto 112 150 rfl rfl rfl ?_)
          exact ih2 (j + 1) ⟨by omega, hj, lt_ext j3 hno⟩ (by omega)
        refine ok_iload 85 rfl rfl rfl (ok_iload 86 rfl rfl rfl (ok_ishr 87 rfl rfl (ok_iconst 88 rfl rfl (by decide) (ok_iand 89 rfl rfl ?_))))
        rw [e1]
        refine ok_iconst 90 rfl rfl (by decide) (ok_icmp_eq 91 192 rfl rfl rfl (fun h158 => ?_) (fun h158 => ?_))
        · exact nxt (fun q => by have q1 := q.1; rw [b1'.mp h158] at q1; cases q1)
        · have hb : bt S j = false := by
            cases hq : bt S j with
            | false => rfl
            | true => exact absurd (b1'.mpr hq) h158
          refine ok_aload_n 92 rfl rfl rfl (ok_iload 93 rfl rfl rfl (ok_iload 94 rfl rfl rfl (ok_iload_n 95 rfl rfl rfl (ok_iload_n 96 rfl rfl rfl (ok_iload_n 97 rfl rfl rfl (ok_callVI (M' := M_Mo_isOpen) (as := [_, _, _, _, _]) 98 rfl rfl ml_X12_252 (s_Mo_isOpen u3 (by omega) (by omega)) rfl rfl (Nat.le_of_ble_eq_true rfl) ⟨Nat.le_of_ble_eq_true rfl, Nat.le_of_ble_eq_true rfl⟩ rfl (Nat.le_of_ble_eq_true rfl) (fun σ' z hz => ?_)))))))
          obtain ⟨hs_, hz⟩ := hz
          rw [hs_]; clear hs_ σ'
          rw [u1] at hz
          refine ok_if_eq 99 192 rfl rfl rfl (fun h172 => ?_) (fun h172 => ?_)
          · exact nxt (fun q => no1 hz h172 (by have := q.2.1; rwa [k6] at this))
          · refine ok_aload_n 100 rfl rfl rfl (ok_getR 101 rfl rfl fl_X12_42 rfl rfl (ok_iload 102 rfl rfl rfl (ok_iconst 103 rfl rfl (by decide) (ok_iload 104 rfl rfl rfl (ok_ishl 105 rfl rfl (ok_ior 106 rfl rfl ?_))))))
            rw [e2]
            refine ok_lald 107 rfl rfl rfl (by omega) ?_
            have hd := i4 (sB S j) (by omega) l2
            have hcp := (bitC (s := S) (j := j) (by omega) (by omega) hb).1
            have er : ρ 10 (sB S j) = τ 10 (sB S j) := k3 10 _ (by omega)
            refine ok_lconst (w := 0) 108 rfl rfl rfl (by decide) (ok_lcmp_ge 109 110 198 rfl rfl rfl rfl rfl (fun h188 => ?_) (fun h188 => ?_))
            · have hok : okJ n op S j := by
                refine ⟨hb, by rw [k6]; exact yes1 hz h172, ?_⟩
                rcases hd with y | y
                · have := y.2
                  rwa [show n - pc (sB S j) = n - pc S - 1 by omega] at this
                · omega
              refine ok_aload_n 113 rfl rfl rfl (ok_getR 114 rfl rfl fl_X12_45 rfl rfl (ok_iload 115 rfl rfl rfl (ok_iload 116 rfl rfl rfl (ok_iast 117 rfl rfl rfl (by first | omega | (simp [up_if]; omega) | (simp [up_if] at *; omega)) (ok_iload 118 rfl rfl rfl (ok_iconst 119 rfl rfl (by decide) (ok_iload 120 rfl rfl rfl (ok_ishl 121 rfl rfl (ok_ior 122 rfl rfl (ok_ist5 123 rfl rfl rfl (ok_inc6 124 rfl rfl rfl (by first | omega | (simp [up_if]; omega) | (simp [up_if] at *; omega)) (ok_goto 125 138 rfl rfl rfl ?_))))))))))))
              rw [e2]
              have ecs : ∀ k : Int, 0 ≤ k → k ≤ i → cs (fun q => up ρ 11 i j 11 q) k.toNat = cs (fun q => ρ 11 q) k.toNat := fun k a b => cs_cg (fun q a' b' => by rw [up_nk _ _ _ _ (by omega)])
              have ec1 : cs (fun q => up ρ 11 i j 11 q) (i + 1).toNat = sB S j := by
                rw [cs_s _ k1, ecs i k1 (Int.le_refl _), ← eS, up_same]
              have hfin := ih (i + 1) (up ρ 11 i j) ⟨by omega, by omega, fr_up k3 rfl, by rw [ec1]; exact l1, by rw [ec1]; exact l2, by rw [ec1]; omega, by rw [ec1]; have := hok.2.2; rwa [k6, show n - i - 1 = n - (i + 1) by omega] at this, fun k a b => ?_⟩ (by omega)
              · rw [ec1] at hfin
                exact ok_fg [some (vr 0), some (vi l), some (vi r), some (vi c), some (vi (p2 n - 1)), some (vi (sB S j)), some (vi (i + 1)), none] ⟨rfl, rfl, rfl, rfl, rfl, rfl, rfl, trivial⟩ hfin
              · rw [ecs k a (by omega)]
                by_cases q : k = i
                · rw [q, up_same, ← eS]
                  exact ⟨j1, j2, hok, j3⟩
                · rw [up_nk _ _ _ _ q]
                  exact k8 k a (by omega)
            · exact nxt (fun q => by
                rcases hd with y | y
                · omega
                · refine y.2 ?_
                  have := q.2.2
                  rwa [show n - pc (sB S j) = n - pc S - 1 by omega])
    · refine ok_iconst 73 rfl rfl (by decide) (ok_zret 74 rfl rfl rfl (by first | omega | (simp [up_if]; omega) | (simp [up_if] at *; omega)) ?_)
      refine ⟨_, rfl, Or.inl ⟨rfl, ?_, i3⟩⟩
      rcases i4 0 (by omega) (by omega) with q | q
      · omega
      · have := q.2
        rwa [show pc 0 = 0 by simp [pc], Int.sub_zero] at this
  · refine ok_iload 18 rfl rfl rfl (ok_callSI (M' := M_Mo_bits) (as := [_]) 19 rfl rfl ml_X12_241 (s_Mo_bits (by omega)) ⟨Nat.le_of_ble_eq_true rfl, Nat.le_of_ble_eq_true rfl⟩ rfl (Nat.le_of_ble_eq_true rfl) (fun σ' z hz => ?_))
    rw [hz.1, hz.2]
    clear hz z σ'
    refine ok_ist6 20 rfl rfl rfl ?_
    have hp := (bitL (s := s) (n := n) (by omega) (by omega)).1 (by omega)
    have hp0 := (bitL (s := s) (n := n) (by omega) (by omega)).2.2.1
    refine ok_aload_n 21 rfl rfl rfl (ok_getR 22 rfl rfl fl_X12_42 rfl rfl (ok_iload 23 rfl rfl rfl (ok_ldc2 24 (-1) rfl rfl kc_X12_219 (by decide) (ok_last 25 rfl rfl rfl (by omega) (ok_iconst 26 rfl rfl (by decide) (ok_ist7 27 rfl rfl rfl ?_))))))
    refine lpO2 (fun (j : Int) (_ : eS) => [some (vr 0), some (vi l), some (vi r), some (vi c), some (vi (p2 n - 1)), some (vi s), some (vi (pc s)), some (vi j)]) (fun _ ρ => ρ) (fun j ρ => 0 ≤ j ∧ j ≤ n ∧ fr (fun c _ => c = 10) σ ρ ∧ (∀ T, s < T → T < p2 n → dpC n op ρ T) ∧ ((ρ 10 s = 1 ∧ ∃ j', 0 ≤ j' ∧ j' < n ∧ okJ n op s j') ∨ (ρ 10 s = -1 ∧ ∀ j', 0 ≤ j' → j' < j → ¬ okJ n op s j'))) (fun j _ => (n - j).toNat) ?_ 0 _ ⟨by omega, by omega, fr_up i3 rfl, fun T a b => ?_, Or.inr ⟨by rw [up_same], fun j' a b => by omega⟩⟩
    rotate_left
    · unfold dpC
      rw [up_nk _ _ _ _ (by omega)]
      exact i4 T a b
    rintro j ρ ⟨j1, j2, j3, j4, j5⟩ ih2
    obtain ⟨u1, u2, u3⟩ := hop ρ (j3.mono (fun c k q => by omega))
    have nxt : j < n → (¬ okJ n op s j ∨ ρ 10 s = 1) → Ok shB M_Mo_isChosen 107 [some (vr 0), some (vi l), some (vi r), some (vi c), some (vi (p2 n - 1)), some (vi s), some (vi (pc s)), some (vi j)] [] ρ (fun σ' v => ∃ z, v = some (vi z) ∧ Qch σ n op σ' z) := by
      intro hj hno
      refine ok_inc7 62 rfl rfl rfl (by first | omega | (simp [up_if]; omega) | (simp [up_if] at *; omega)) (ok_goto 63 49 rfl rfl rfl ?_)
      refine ih2 (j + 1) ρ ⟨by omega, by omega, j3, j4, ?_⟩ (by omega)
      rcases j5 with q | q
      · exact Or.inl q
      · rcases hno with y | y
        · exact Or.inr ⟨q.1, lt_ext q.2 y⟩
        · omega
    refine ok_iload 28 rfl rfl rfl (ok_aload_n 29 rfl rfl rfl (ok_getI 30 rfl rfl fl_X12_234 rfl rfl (Or.inl rfl) (ok_icmp_ge 31 113 rfl rfl rfl (fun h55 => ?_) (fun h55 => ?_))))
    · refine ok_inc5 64 rfl rfl rfl (by first | omega | (simp [up_if]; omega) | (simp [up_if] at *; omega)) (ok_goto 65 24 rfl rfl rfl ?_)
      refine ok_fg [some (vr 0), some (vi l), some (vi r), some (vi c), some (vi (p2 n - 1)), some (vi (s + -1)), none, none] ⟨rfl, rfl, rfl, rfl, rfl, rfl, trivial⟩ (ih (s + -1) ρ ⟨by omega, by omega, j3, fun T a b => ?_⟩ (by omega))
      by_cases q : T = s
      · rw [q]
        have hiff := cpl_iff (op := op) hp hp0
        rcases j5 with y | y
        · exact Or.inl ⟨y.1, hiff.mpr y.2⟩
        · exact Or.inr ⟨y.1, fun w => by obtain ⟨j', a1, a2, a3⟩ := hiff.mp w; exact y.2 j' a1 (by omega) a3⟩
      · exact j4 T (by omega) b
    · have e1 := bitG (s := s) (j := j) (by omega) (by omega)
      have e2 := bitP (s := s) (j := j) (by omega) (by omega)
      obtain ⟨l1, l2⟩ := sB_lt (s := s) (j := j) (n := n) ⟨by omega, by omega⟩ ⟨by omega, by omega⟩
      refine ok_iload 32 rfl rfl rfl (ok_iload 33 rfl rfl rfl (ok_ishr 34 rfl rfl (ok_iconst 35 rfl rfl (by decide) (ok_iand 36 rfl rfl ?_))))
      rw [e1]
      refine ok_if_ne 37 107 rfl rfl rfl (fun h65 => ?_) (fun h65 => ?_)
      · exact nxt (by omega) (Or.inl (fun q => h65 (b0.mpr q.1)))
      · refine ok_aload_n 38 rfl rfl rfl (ok_iload 39 rfl rfl rfl (ok_iload 40 rfl rfl rfl (ok_iload_n 41 rfl rfl rfl (ok_iload_n 42 rfl rfl rfl (ok_iload_n 43 rfl rfl rfl (ok_callVI (M' := M_Mo_isOpen) (as := [_, _, _, _, _]) 44 rfl rfl ml_X12_252 (s_Mo_isOpen u3 ⟨by omega, by omega⟩ ⟨by omega, by omega⟩) rfl rfl (Nat.le_of_ble_eq_true rfl) ⟨Nat.le_of_ble_eq_true rfl, Nat.le_of_ble_eq_true rfl⟩ rfl (Nat.le_of_ble_eq_true rfl) (fun σ' z hz => ?_)))))))
        obtain ⟨hs_, hz⟩ := hz
        rw [hs_]; clear hs_ σ'
        rw [u1] at hz
        have hb := b0.mp h65
        obtain ⟨hc1, hc2⟩ := bitC (s := s) (j := j) (by omega) (by omega) hb
        have hd := j4 (sB s j) hc2 l2
        refine ok_if_eq 45 107 rfl rfl rfl (fun h79 => ?_) (fun h79 => ?_)
        · exact nxt (by omega) (Or.inl (fun q => no1 hz h79 q.2.1))
        · refine ok_aload_n 46 rfl rfl rfl (ok_getR 47 rfl rfl fl_X12_42 rfl rfl (ok_iload 48 rfl rfl rfl (ok_iconst 49 rfl rfl (by decide) (ok_iload 50 rfl rfl rfl (ok_ishl 51 rfl rfl (ok_ior 52 rfl rfl ?_))))))
          rw [e2]
          refine ok_lald 53 rfl rfl rfl (by omega) (ok_lconst (w := 0) 54 rfl rfl rfl (by decide) (ok_lcmp_le 55 56 107 rfl rfl rfl rfl rfl (fun h95 => ?_) (fun h95 => ?_)))
          · refine nxt (by omega) (Or.inl (fun q => ?_))
            rcases hd with y | y
            · omega
            · exact y.2 (by have := q.2.2; rwa [show n - pc (sB s j) = n - pc s - 1 by omega])
          · refine ok_aload_n 57 rfl rfl rfl (ok_getR 58 rfl rfl fl_X12_42 rfl rfl (ok_iload 59 rfl rfl rfl (ok_lconst (w := 1) 60 rfl rfl rfl (by decide) (ok_last 61 rfl rfl rfl (by first | omega | (simp [up_if]; omega) | (simp [up_if] at *; omega)) ?_))))
            have hok : okJ n op s j := by
              refine ⟨hb, yes1 hz h79, ?_⟩
              rcases hd with y | y
              · have := y.2
                rwa [show n - pc (sB s j) = n - pc s - 1 by omega] at this
              · omega
            refine ok_inc7 62 rfl rfl rfl (by first | omega | (simp [up_if]; omega) | (simp [up_if] at *; omega)) (ok_goto 63 49 rfl rfl rfl ?_)
            refine ih2 (j + 1) _ ⟨by omega, by omega, fr_up j3 rfl, fun T a b => ?_, Or.inl ⟨by rw [up_same], j, j1, by omega, hok⟩⟩ (by omega)
            unfold dpC
            rw [up_nk _ _ _ _ (by omega)]
            exact j4 T a b
