/-! FIRST CHOICES -/
def fstC (n : Int) (good : Int → Int → Prop) (ch : Int → Int) : Prop := ∀ i : Int, 0 ≤ i → i < n → 0 ≤ ch i ∧ ch i < n ∧ good (cs ch i.toNat) (ch i) ∧ ∀ j, 0 ≤ j → j < ch i → ¬ good (cs ch i.toNat) j
theorem cs_n (f : Int → Int) (m : Nat) : cs f (m + 1) = sB (cs f m) (f m) := rfl
theorem cs_in {n : Int} {ch : Int → Int} (hn : 0 ≤ n ∧ n ≤ 8) : ∀ m : Nat, (m : Int) ≤ n → (∀ i : Int, 0 ≤ i → i < m → 0 ≤ ch i ∧ ch i < n ∧ bt (cs ch i.toNat) (ch i) = false) → 0 ≤ cs ch m ∧ cs ch m < p2 n ∧ pc (cs ch m) = m
  | 0, _, _ => by
    have := bit2 hn
    exact ⟨Int.le_refl _, by show (0 : Int) < p2 n; omega, pc_0⟩
  | m + 1, h, hi => by
    have b := bit2 hn
    obtain ⟨a1, a2, a3⟩ := cs_in hn m (by omega) (fun i x y => hi i x (by omega))
    obtain ⟨c1, c2, c3⟩ := hi m (by omega) (by omega)
    rw [Int.toNat_natCast] at c3
    have s := sB_lt (s := cs ch m) (j := ch m) (n := n) ⟨a1, a2⟩ ⟨c1, c2⟩
    have p := (bitC (s := cs ch m) (j := ch m) ⟨a1, by omega⟩ ⟨c1, by omega⟩ c3).1
    rw [cs_n]
    exact ⟨s.1, s.2, by omega⟩
theorem fst_un {n : Int} {good good' : Int → Int → Prop} {ch ch' : Int → Int} (hn : 0 ≤ n ∧ n ≤ 8) (hb : ∀ T j, good T j → bt T j = false) (e : ∀ T j, 0 ≤ T → T < p2 n → 0 ≤ pc T → pc T < n → 0 ≤ j → j < n → (good T j ↔ good' T j)) (h : fstC n good ch) (h' : fstC n good' ch') : ∀ i, 0 ≤ i → i < n → ch i = ch' i := by
  have key : ∀ m : Nat, (m : Int) ≤ n → ∀ k : Int, 0 ≤ k → k < m → ch k = ch' k := by
    intro m
    induction m with
    | zero => intro _ k a b; omega
    | succ m ih =>
      intro hm k a b
      have ihm := ih (by omega)
      rcases (by omega : k < m ∨ k = m) with q | q
      · exact ihm k a q
      · rw [q]
        have ec : cs ch m = cs ch' m := cs_cg ihm
        obtain ⟨t1, t2, t3⟩ := cs_in (ch := ch) hn m (by omega) (fun i x y => by have := h i x (by omega); exact ⟨this.1, this.2.1, hb _ _ this.2.2.1⟩)
        obtain ⟨a1, a2, a3, a4⟩ := h m (by omega) (by omega)
        obtain ⟨b1, b2, b3, b4⟩ := h' m (by omega) (by omega)
        rw [Int.toNat_natCast] at a3 a4 b3 b4
        rw [← ec] at b3 b4
        rcases (by omega : ch m < ch' m ∨ ch m = ch' m ∨ ch' m < ch m) with w | w | w
        · exact absurd ((e _ _ t1 t2 (by omega) (by omega) a1 a2).mp a3) (b4 _ a1 w)
        · exact w
        · exact absurd ((e _ _ t1 t2 (by omega) (by omega) b1 b2).mpr b3) (a4 _ b1 w)
  exact fun i a b => key n.toNat (by omega) i a (by omega)
theorem bit_sx : ∀ s : Fin 256, ∀ j : Fin 8, bt (s.val : Int) (j.val : Int) = false → ixor (sB (s.val : Int) (j.val : Int)) (ishl 1 (j.val : Int)) = (s.val : Int) := by decide +kernel
theorem bitSx {s j : Int} (h1 : 0 ≤ s ∧ s < 256) (h2 : 0 ≤ j ∧ j < 8) (h : bt s j = false) : ixor (sB s j) (ishl 1 j) = s := fin2 (P := fun s j => bt s j = false → ixor (sB s j) (ishl 1 j) = s) bit_sx h1.1 h1.2 h2.1 h2.2 h
def dd (ρ : eS) (q : Int) : Int → Int := fun T => if ρ 19 T = q then 1 else 0
/-- behind the whole search: the prefix of rows that have columns -/
def pre (n : Int) (op : Int → Int → Prop) (ch : Int → Int) (r : Int) : Prop := ∀ i : Int, 0 ≤ i → i < r → 0 ≤ ch i ∧ ch i < n ∧ bt (cs ch i.toNat) (ch i) = false ∧ op i (ch i) ∧ ∀ j, 0 ≤ j → j < ch i → ¬ okJ n op (cs ch i.toNat) j
