section
/-! LACK: the same walk over all sets of rows, on both sides -/
def cOp (n : Int) (op : Int → Int → Prop) (s z : Int) : Prop := (0 ≤ z ∧ z < 256) ∧ ∀ c : Int, 0 ≤ c → c < 8 → (bt z c = true ↔ (c < n ∧ ∃ r, 0 ≤ r ∧ r < n ∧ bt s r = true ∧ op r c))
theorem cOp_un {n s z z' : Int} {op : Int → Int → Prop} (h : cOp n op s z) (h' : cOp n op s z') : z = z' := bt_ext h.1 h'.1 (fun c a b => by
  have e := (h.2 c a b).trans (h'.2 c a b).symm
  cases q : bt z c <;> cases q' : bt z' c <;> simp_all)
theorem cOp_cg {n s z : Int} {op op' : Int → Int → Prop} (h : cOp n op s z) (e : ∀ i j, 0 ≤ i → i < n → 0 ≤ j → j < n → (op i j ↔ op' i j)) : cOp n op' s z := ⟨h.1, fun c a b => by
  rw [h.2 c a b]
  constructor
  · rintro ⟨q, r, r1, r2, r3, r4⟩; exact ⟨q, r, r1, r2, r3, (e r c r1 r2 a q).mp r4⟩
  · rintro ⟨q, r, r1, r2, r3, r4⟩; exact ⟨q, r, r1, r2, r3, (e r c r1 r2 a q).mpr r4⟩⟩
theorem cOf_op {J n s z : Int} {op : Int → Int → Prop} (hn : n ≤ 8) (hJ : jOf J n op) (h : cOf J n s z) : cOp n op s z := ⟨h.1, fun c a b => by
  rw [h.2 c a b]
  constructor
  · rintro ⟨r, r1, r2, r3, r4⟩
    obtain ⟨q1, q2, q3⟩ := (hJ.2 r c r1 (by omega) a b).mp r4
    exact ⟨q2, r, r1, r2, r3, q3⟩
  · rintro ⟨q, r, r1, r2, r3, r4⟩
    exact ⟨r, r1, r2, r3, (hJ.2 r c r1 (by omega) a b).mpr ⟨r2, q, r4⟩⟩⟩
noncomputable def cP (n : Int) (op : Int → Int → Prop) (s : Int) : Int := Classical.epsilon (fun z => cOp n op s z)
theorem cP_eq {n s z : Int} {op : Int → Int → Prop} (h : cOp n op s z) : cP n op s = z := cOp_un (Classical.epsilon_spec (p := fun z => cOp n op s z) ⟨z, h⟩) h
noncomputable def lkF (n : Int) (op : Int → Int → Prop) (s : Int) : Int := pc s - pc (cP n op s)
def lkB (f : Int → Int) : Nat → Int × Int
  | 0 => (0, 0)
  | k + 1 => if (lkB f k).2 < f ((k + 1 : Nat) : Int) then (((k + 1 : Nat) : Int), f ((k + 1 : Nat) : Int)) else lkB f k
theorem lkB_s {f : Int → Int} {k : Int} (h : 1 ≤ k) : lkB f k.toNat = if (lkB f (k - 1).toNat).2 < f k then (k, f k) else lkB f (k - 1).toNat := by
  obtain ⟨m, hm⟩ : ∃ m : Nat, k = ((m + 1 : Nat) : Int) := ⟨(k - 1).toNat, by omega⟩
  subst hm
  rw [show (((m + 1 : Nat) : Int)).toNat = m + 1 by omega, show (((m + 1 : Nat) : Int) - 1).toNat = m by omega]
  rfl
theorem lkB_bd {f : Int → Int} : ∀ k : Nat, 0 ≤ (lkB f k).1 ∧ (lkB f k).1 ≤ (k : Int)
  | 0 => ⟨Int.le_refl _, Int.le_refl _⟩
  | k + 1 => by
    have := lkB_bd (f := f) k
    rw [lkB]
    split
    · dsimp only; omega
    · omega
theorem lkB_f {f : Int → Int} (h0 : f 0 = 0) : ∀ k : Nat, (lkB f k).2 = f (lkB f k).1
  | 0 => h0.symm
  | k + 1 => by
    have := lkB_f h0 k
    rw [lkB]
    split
    · rfl
    · exact this
theorem pc_0 : pc 0 = 0 := by decide
theorem cOp_0 (n : Int) (op : Int → Int → Prop) : cOp n op 0 0 := ⟨⟨by omega, by omega⟩, fun c a b => by
  rw [bt_0]
  constructor
  · intro q; cases q
  · rintro ⟨q, r, r1, r2, r3, r4⟩; rw [bt_0] at r3; cases r3⟩
theorem lkF_0 (n : Int) (op : Int → Int → Prop) : lkF n op 0 = 0 := by unfold lkF; rw [cP_eq (cOp_0 n op), pc_0]; rfl
theorem t_Jo_rowsMostLacking {σ : eS} {J n : Int} {op : Int → Int → Prop} (hn : 0 ≤ n ∧ n ≤ 8) (hJ : jOf J n op) : MtI shA M_Jo_rowsMostLacking [vl J, vi n] σ (fun σ' z => σ' = σ ∧ z = (lkB (lkF n op) (p2 n - 1).toNat).1) := by
  refine Mt.of okM_Jo_rowsMostLacking (Nat.le_of_ble_eq_true rfl) (fun hk hg => ?_)
  have b2 := bit2 hn
  refine ok_iconst 0 rfl rfl (by decide) (ok_ist3 1 rfl rfl rfl (ok_iconst 2 rfl rfl (by decide) (ok_ist4 3 rfl rfl rfl (ok_iconst 4 rfl rfl (by decide) (ok_ist5 5 rfl rfl rfl ?_)))))
  refine lpO3 (fun g v j : Int => [some (vl J), none, some (vi n), some (vi g), some (vi v), some (vi j), none]) (fun _ _ _ => σ) (fun g v j => 1 ≤ j ∧ j ≤ p2 n ∧ (g, v) = lkB (lkF n op) (j - 1).toNat) (fun _ _ j => (256 - j).toNat) ?_ 0 0 1 ⟨by omega, by omega, rfl⟩
  rintro g v j ⟨j1, j2, e⟩ ih
  refine ok_iload 6 rfl rfl rfl (ok_iconst 7 rfl rfl (by decide) (ok_iload_n 8 rfl rfl rfl (ok_ishl 9 rfl rfl ?_)))
  rw [b2.1]
  refine ok_icmp_ge 10 54 rfl rfl rfl (fun h13 => ?_) (fun h13 => ?_)
  · refine ok_iload_n 29 rfl rfl rfl (ok_iret 30 rfl rfl rfl ?_)
    exact ⟨_, rfl, rfl, by rw [show p2 n - 1 = j - 1 by omega, ← e]⟩
  · have pj := (bitL (s := j) (n := 8) (by omega) (by omega)).2.2
    refine ok_iload 11 rfl rfl rfl (ok_callSI (M' := M_Ji_bitCount) (as := [_]) 12 rfl rfl ml_X1_28 (s_Ji_bitCount) ⟨Nat.le_of_ble_eq_true rfl, Nat.le_of_ble_eq_true rfl⟩ rfl (Nat.le_of_ble_eq_true rfl) (fun σ' z hz => ?_))
    rw [hz.1, hz.2]
    clear hz z σ'
    refine ok_lload_n 13 rfl rfl rfl (ok_iload 14 rfl rfl rfl (ok_iload_n 15 rfl rfl rfl (ok_callSI (M' := M_Jo_columnsOf) (as := [_, _, _]) 16 rfl rfl ml_X1_25 (t_Jo_columnsOf hn ⟨by omega, by omega⟩) ⟨Nat.le_of_ble_eq_true rfl, Nat.le_of_ble_eq_true rfl⟩ rfl (Nat.le_of_ble_eq_true rfl) (fun σ' z2 x2 => ?_))))
    obtain ⟨hs_, x2⟩ := x2
    rw [hs_]; clear hs_ σ'
    have cz := cP_eq (cOf_op hn.2 hJ x2)
    have pz := (bitL (s := z2) (n := 8) x2.1 (by omega)).2.2
    rw [bcP (s := j) ⟨by omega, by omega⟩]
    refine ok_callSI (M' := M_Ji_bitCount) (as := [_]) 17 rfl rfl ml_X1_28 (s_Ji_bitCount) ⟨Nat.le_of_ble_eq_true rfl, Nat.le_of_ble_eq_true rfl⟩ rfl (Nat.le_of_ble_eq_true rfl) (fun σ' z hz => ?_)
    rw [hz.1, hz.2]
    clear hz z σ'
    rw [bcP (s := z2) x2.1]
    refine ok_isub 18 rfl rfl (by first | omega | (simp [up_if]; omega) | (simp [up_if] at *; omega)) (ok_ist6 19 rfl rfl rfl (ok_iload 20 rfl rfl rfl (ok_iload 21 rfl rfl rfl (ok_icmp_le 22 48 rfl rfl rfl (fun h38 => ?_) (fun h38 => ?_)))))
    · refine ok_inc5 27 rfl rfl rfl (by first | omega | (simp [up_if]; omega) | (simp [up_if] at *; omega)) (ok_goto 28 8 rfl rfl rfl ?_)
      have es := lkB_s (f := lkF n op) (k := j) (by omega)
      rw [← e] at es
      have fj : lkF n op j = pc j - pc z2 := by unfold lkF; rw [cz]
      rw [fj] at es
      dsimp only at es
      refine ok_fg [some (vl J), none, some (vi n), some (vi _), some (vi _), some (vi (j + 1)), none] ⟨rfl, rfl, rfl, rfl, rfl, trivial⟩ (ih _ _ (j + 1) ⟨by omega, by omega, ?_⟩ (by omega))
      rw [show j + 1 - 1 = j by omega, es]
      first | rw [if_pos (by omega)] | rw [if_neg (by omega)]
    · refine ok_iload 23 rfl rfl rfl (ok_ist4 24 rfl rfl rfl (ok_iload 25 rfl rfl rfl (ok_ist3 26 rfl rfl rfl (ok_inc5 27 rfl rfl rfl (by first | omega | (simp [up_if]; omega) | (simp [up_if] at *; omega)) (ok_goto 28 8 rfl rfl rfl ?_)))))
      have es := lkB_s (f := lkF n op) (k := j) (by omega)
      rw [← e] at es
      have fj : lkF n op j = pc j - pc z2 := by unfold lkF; rw [cz]
      rw [fj] at es
      dsimp only at es
      refine ok_fg [some (vl J), none, some (vi n), some (vi _), some (vi _), some (vi (j + 1)), none] ⟨rfl, rfl, rfl, rfl, rfl, trivial⟩ (ih _ _ (j + 1) ⟨by omega, by omega, ?_⟩ (by omega))
      rw [show j + 1 - 1 = j by omega, es]
      first | rw [if_pos (by omega)] | rw [if_neg (by omega)]
def isL (l : Int) : Prop := 0 ≤ l ∧ l ≤ 99999999
noncomputable def lackV (n : Int) (op : Int → Int → Prop) (w : Int) : Int := if w = 0 then (lkB (lkF n op) (p2 n - 1).toNat).2 else if w = 1 then (lkB (lkF n op) (p2 n - 1).toNat).1 else cP n op (lkB (lkF n op) (p2 n - 1).toNat).1
def okL (T : Prop) (l w : Int) : Prop := T ∧ isL l ∧ 0 ≤ w ∧ w ≤ 2
theorem t_Ev_lack {σ : eS} {s m w : Int} (h : IA σ) : MtI shA M_Ev_lack [vr 0, vi s, vi m, vi w] σ (fun σ' z => σ' = σ ∧ ((¬ okL (tabA σ s) m w ∧ z = -1) ∨ (okL (tabA σ s) m w ∧ z = lackV (σ (s.toNat + 2) 1) (fun i j => m ≤ cT σ (s.toNat + 2) i j) w))) := by
  refine Mt.of okM_Ev_lack (Nat.le_of_ble_eq_true rfl) (fun hk hg => ?_)
  refine ok_aload_n 0 rfl rfl rfl (ok_iload_n 1 rfl rfl rfl (ok_callVR (M' := M_Ev_filledSlot) (as := [_]) 2 rfl rfl ml_X11_137 (s_Ev_filledSlot) rfl rfl (Nat.le_of_ble_eq_true rfl) ⟨Nat.le_of_ble_eq_true rfl, Nat.le_of_ble_eq_true rfl⟩ rfl (Nat.le_of_ble_eq_true rfl) (fun σ' z hz => ?_)))
  obtain ⟨hs_, hz⟩ := hz
  rw [hs_]; clear hs_ σ'
  rcases hz with ⟨q, q0⟩ | ⟨q1, q2, q, q3⟩
  · subst q
    refine ok_ast4 3 rfl rfl rfl (ok_aload 4 rfl rfl rfl (ok_ifnullN 5 28 rfl rfl rfl (ok_iconst 14 rfl rfl (by decide) (ok_iret 15 rfl rfl rfl ?_))))
    exact ⟨_, rfl, rfl, Or.inl ⟨fun c => q0 c.1, rfl⟩⟩
  · subst q
    have ht := sl_tA ⟨q1, q2⟩
    have hT := (h.2.1 _ ht).1
    have hn : 0 ≤ σ (s.toNat + 2) 1 ∧ σ (s.toNat + 2) 1 ≤ 8 := ⟨hT.1, hT.2.1⟩
    obtain ⟨op, eop⟩ : ∃ op : Int → Int → Prop, op = fun i j => m ≤ cT σ (s.toNat + 2) i j := ⟨_, rfl⟩
    have b2 := bit2 hn
    have lb := lkB_bd (f := lkF (σ (s.toNat + 2) 1) op) (p2 (σ (s.toNat + 2) 1) - 1).toNat
    have lf := lkB_f (lkF_0 (σ (s.toNat + 2) 1) op) (p2 (σ (s.toNat + 2) 1) - 1).toNat
    refine ok_ast4 3 rfl rfl rfl (ok_aload 4 rfl rfl rfl (ok_ifnull 5 rfl rfl (ok_iload_n 6 rfl rfl rfl (ok_callSI (M' := M_Ev_isCell) (as := [_]) 7 rfl rfl ml_X11_208 (s_Ev_isCell) ⟨Nat.le_of_ble_eq_true rfl, Nat.le_of_ble_eq_true rfl⟩ rfl (Nat.le_of_ble_eq_true rfl) (fun σ' z0 x0 => ?_)))))
    obtain ⟨hs_, x0⟩ := x0
    rw [hs_]; clear hs_ σ'
    refine ok_if_eq 8 28 rfl rfl rfl (fun h16 => ?_) (fun h16 => ?_)
    · refine ok_iconst 14 rfl rfl (by decide) (ok_iret 15 rfl rfl rfl ?_)
      refine ⟨_, rfl, rfl, Or.inl ⟨fun c => ?_, rfl⟩⟩
      obtain ⟨c1, c2, c3, c4⟩ := c
      unfold isL at c2
      omega
    · refine ok_iload_n 9 rfl rfl rfl (ok_if_lt 10 28 rfl rfl rfl (fun h20 => ?_) (fun h20 => ?_))
      · refine ok_iconst 14 rfl rfl (by decide) (ok_iret 15 rfl rfl rfl ?_)
        refine ⟨_, rfl, rfl, Or.inl ⟨fun c => ?_, rfl⟩⟩
        obtain ⟨c1, c2, c3, c4⟩ := c
        unfold isL at c2
        omega
      · refine ok_iload_n 11 rfl rfl rfl (ok_iconst 12 rfl rfl (by decide) (ok_icmp_le 13 30 rfl rfl rfl (fun h25 => ?_) (fun h25 => ?_)))
        · refine ok_aload 16 rfl rfl rfl (ok_iload_n 17 rfl rfl rfl (ok_callVL (M' := M_Ta_joinedBy) (as := [_]) 18 rfl rfl ml_X11_119 (t_Ta_joinedBy ht hT) (sT ht) rfl (Nat.le_of_ble_eq_true rfl) ⟨Nat.le_of_ble_eq_true rfl, Nat.le_of_ble_eq_true rfl⟩ rfl (Nat.le_of_ble_eq_true rfl) (fun σ' z1 x1 => ?_)))
          obtain ⟨hs_, x1⟩ := x1
          rw [hs_]; clear hs_ σ'
          rw [← eop] at x1
          refine ok_lst5 19 rfl rfl rfl (ok_lload 20 rfl rfl rfl (ok_aload 21 rfl rfl rfl (ok_getI 22 rfl rfl fl_X11_103 (sT ht) rfl (Or.inl rfl) (ok_callSI (M' := M_Jo_rowsMostLacking) (as := [_, _]) 23 rfl rfl ml_X11_211 (t_Jo_rowsMostLacking hn x1) ⟨Nat.le_of_ble_eq_true rfl, Nat.le_of_ble_eq_true rfl⟩ rfl (Nat.le_of_ble_eq_true rfl) (fun σ' z2 x2 => ?_)))))
          obtain ⟨hs_, x2⟩ := x2
          rw [hs_]; clear hs_ σ'
          have z2b : 0 ≤ z2 ∧ z2 < 256 := by rw [x2]; omega
          have p2b := (bitL (s := z2) (n := 8) z2b (by omega)).2.2
          refine ok_ist7 24 rfl rfl rfl (ok_lload 25 rfl rfl rfl (ok_iload 26 rfl rfl rfl (ok_aload 27 rfl rfl rfl (ok_getI 28 rfl rfl fl_X11_103 (sT ht) rfl (Or.inl rfl) (ok_callSI (M' := M_Jo_columnsOf) (as := [_, _, _]) 29 rfl rfl ml_X11_214 (t_Jo_columnsOf hn z2b) ⟨Nat.le_of_ble_eq_true rfl, Nat.le_of_ble_eq_true rfl⟩ rfl (Nat.le_of_ble_eq_true rfl) (fun σ' z3 x3 => ?_))))))
          obtain ⟨hs_, x3⟩ := x3
          rw [hs_]; clear hs_ σ'
          have cz := cP_eq (cOf_op hn.2 x1 x3)
          have p3b := (bitL (s := z3) (n := 8) x3.1 (by omega)).2.2
          refine ok_ist8 30 rfl rfl rfl (ok_iload_n 31 rfl rfl rfl (ok_if_ne 32 80 rfl rfl rfl (fun h65 => ?_) (fun h65 => ?_)))
          · refine ok_iload_n 39 rfl rfl rfl (ok_iconst 40 rfl rfl (by decide) (ok_icmp_ne 41 90 rfl rfl rfl (fun h82 => ?_) (fun h82 => ?_)))
            · refine ok_iload 44 rfl rfl rfl (ok_iret 45 rfl rfl rfl ?_)
              refine ⟨_, rfl, rfl, Or.inr ⟨⟨⟨q1, q2, q3⟩, by unfold isL; omega, by omega, by omega⟩, ?_⟩⟩
              unfold lackV
              rw [if_neg (by omega)]
              first | (rw [if_pos (by omega), ← eop]; exact x2) | (rw [if_neg (by omega), ← eop, ← x2]; exact cz.symm)
            · refine ok_iload 42 rfl rfl rfl (ok_goto 43 92 rfl rfl rfl (ok_iret 45 rfl rfl rfl ?_))
              refine ⟨_, rfl, rfl, Or.inr ⟨⟨⟨q1, q2, q3⟩, by unfold isL; omega, by omega, by omega⟩, ?_⟩⟩
              unfold lackV
              rw [if_neg (by omega)]
              first | (rw [if_pos (by omega), ← eop]; exact x2) | (rw [if_neg (by omega), ← eop, ← x2]; exact cz.symm)
          · refine ok_iload 33 rfl rfl rfl (ok_callSI (M' := M_Ji_bitCount) (as := [_]) 34 rfl rfl ml_X11_218 (s_Ji_bitCount) ⟨Nat.le_of_ble_eq_true rfl, Nat.le_of_ble_eq_true rfl⟩ rfl (Nat.le_of_ble_eq_true rfl) (fun σ' z hz => ?_))
            rw [hz.1, hz.2]
            clear hz z σ'
            rw [bcP (s := z2) z2b]
            refine ok_iload 35 rfl rfl rfl (ok_callSI (M' := M_Ji_bitCount) (as := [_]) 36 rfl rfl ml_X11_218 (s_Ji_bitCount) ⟨Nat.le_of_ble_eq_true rfl, Nat.le_of_ble_eq_true rfl⟩ rfl (Nat.le_of_ble_eq_true rfl) (fun σ' z hz => ?_))
            rw [hz.1, hz.2]
            clear hz z σ'
            rw [bcP (s := z3) x3.1]
            refine ok_isub 37 rfl rfl (by first | omega | (simp [up_if]; omega) | (simp [up_if] at *; omega)) (ok_iret 38 rfl rfl rfl ?_)
            refine ⟨_, rfl, rfl, Or.inr ⟨⟨⟨q1, q2, q3⟩, by unfold isL; omega, by omega, by omega⟩, ?_⟩⟩
            unfold lackV
            rw [if_pos (by omega), ← eop, lf, ← x2]
            unfold lkF
            rw [cz]
        · refine ok_iconst 14 rfl rfl (by decide) (ok_iret 15 rfl rfl rfl ?_)
          refine ⟨_, rfl, rfl, Or.inl ⟨fun c => ?_, rfl⟩⟩
          obtain ⟨c1, c2, c3, c4⟩ := c
          unfold isL at c2
          omega
theorem bt_sB' {s j k : Int} (hj : 0 ≤ j) (hk : 0 ≤ k) : bt (sB s j) k = true ↔ (bt s k = true ∨ k = j) := by rw [bt_sB hj hk]; simp
theorem t_Mo_joined {σ : eS} {s T l : Int} (hB : iB1 σ) (ht : tabB σ s) (hT : 0 ≤ T ∧ T < 256) : MtI shB M_Mo_joined [vr 0, vi s, vi T, vi l] σ (fun σ' z => σ' = σ ∧ cOp (σ 1 s) (fun i j => l ≤ cB σ s i j) T z) := by
  refine Mt.of okM_Mo_joined (Nat.le_of_ble_eq_true rfl) (fun hk hg => ?_)
  obtain ⟨u1, u2, u3⟩ := ht
  have tn := hB.1 s u1 u2
  obtain ⟨z1, z2, z3, -⟩ := bit2 (n := σ 1 s) ⟨by omega, by omega⟩
  refine ok_iconst 0 rfl rfl (by decide) (ok_ist4 1 rfl rfl rfl (ok_iconst 2 rfl rfl (by decide) (ok_ist5 3 rfl rfl rfl ?_)))
  refine lpO2 (fun v i : Int => [some (vr 0), some (vi s), some (vi T), some (vi l), some (vi v), some (vi i), none]) (fun _ _ => σ) (fun v i => 0 ≤ i ∧ i ≤ σ 1 s ∧ 0 ≤ v ∧ v < p2 (σ 1 s) ∧ ∀ c, 0 ≤ c → c < 8 → (bt v c = true ↔ (c < σ 1 s ∧ ∃ r, 0 ≤ r ∧ r < i ∧ bt T r = true ∧ l ≤ cB σ s r c))) (fun _ i => (σ 1 s - i).toNat) ?_ 0 0 ⟨by omega, by omega, by omega, by omega, fun c a b => by rw [bt_0]; constructor; intro q; cases q; rintro ⟨-, r, q1, q2, -⟩; omega⟩
  rintro v i ⟨i1, i2, v1, v2, v3⟩ ih
  refine ok_iload 4 rfl rfl rfl (ok_aload_n 5 rfl rfl rfl (ok_getR 6 rfl rfl fl_X12_7 rfl rfl (ok_iload_n 7 rfl rfl rfl (ok_iald 8 rfl rfl rfl (by first | omega | (simp [up_if]; omega) | (simp [up_if] at *; omega)) (ok_icmp_ge 9 75 rfl rfl rfl (fun h14 => ?_) (fun h14 => ?_))))))
  · refine ok_iload 42 rfl rfl rfl (ok_iret 43 rfl rfl rfl ?_)
    exact ⟨_, rfl, rfl, ⟨v1, by omega⟩, fun c a b => by rw [v3 c a b, show i = σ 1 s by omega]⟩
  · refine ok_iconst 10 rfl rfl (by decide) (ok_ist6 11 rfl rfl rfl ?_)
    have il : i < σ 1 s := by omega
    refine lpO2 (fun v j : Int => [some (vr 0), some (vi s), some (vi T), some (vi l), some (vi v), some (vi i), some (vi j)]) (fun _ _ => σ) (fun v j => 0 ≤ j ∧ j ≤ σ 1 s ∧ 0 ≤ v ∧ v < p2 (σ 1 s) ∧ ∀ c, 0 ≤ c → c < 8 → (bt v c = true ↔ (c < σ 1 s ∧ ∃ r, 0 ≤ r ∧ (r < i ∨ (r = i ∧ c < j)) ∧ bt T r = true ∧ l ≤ cB σ s r c))) (fun _ j => (σ 1 s - j).toNat) ?_ v 0 ⟨by omega, by omega, by omega, by omega, fun c a b => by rw [v3 c a b]; exact ⟨fun ⟨q, r, r1, r2, r3⟩ => ⟨q, r, r1, Or.inl r2, r3⟩, fun ⟨q, r, r1, r2, r3⟩ => ⟨q, r, r1, by omega, r3⟩⟩⟩
    clear v1 v2 v3 v
    rintro v j ⟨j1, j2, v1, v2, v3⟩ ih2
    refine ok_iload 12 rfl rfl rfl (ok_aload_n 13 rfl rfl rfl (ok_getR 14 rfl rfl fl_X12_7 rfl rfl (ok_iload_n 15 rfl rfl rfl (ok_iald 16 rfl rfl rfl (by first | omega | (simp [up_if]; omega) | (simp [up_if] at *; omega)) (ok_icmp_ge 17 69 rfl rfl rfl (fun h28 => ?_) (fun h28 => ?_))))))
    · refine ok_inc5 40 rfl rfl rfl (by first | omega | (simp [up_if]; omega) | (simp [up_if] at *; omega)) (ok_goto 41 6 rfl rfl rfl ?_)
      exact ok_fg [some (vr 0), some (vi s), some (vi T), some (vi l), some (vi _), some (vi (i + 1)), none] ⟨rfl, rfl, rfl, rfl, rfl, rfl, trivial⟩ (ih _ (i + 1) ⟨by omega, by omega, by omega, by omega, fun c a b => by rw [v3 c a b]; exact ⟨fun ⟨q, r, r1, r2, r3⟩ => ⟨q, r, r1, by omega, r3⟩, fun ⟨q, r, r1, r2, r3⟩ => ⟨q, r, r1, by omega, r3⟩⟩⟩ (by omega))
    · have e2 := bitP (s := v) (j := j) (by omega) (by omega)
      have bz := bitG (s := T) (j := i) hT ⟨by omega, by omega⟩
      obtain ⟨l1, l2⟩ := sB_lt (s := v) (j := j) (n := σ 1 s) ⟨v1, v2⟩ ⟨j1, by omega⟩
      have stay : ¬ (bt T i = true ∧ l ≤ cB σ s i j) → ∀ c, 0 ≤ c → c < 8 → (bt v c = true ↔ (c < σ 1 s ∧ ∃ r, 0 ≤ r ∧ (r < i ∨ (r = i ∧ c < j + 1)) ∧ bt T r = true ∧ l ≤ cB σ s r c)) := fun hno c a b => by
        rw [v3 c a b]
        constructor
        · rintro ⟨q, r, r1, r2, r3⟩; exact ⟨q, r, r1, by omega, r3⟩
        · rintro ⟨q, r, r1, r2, r3, r4⟩
          by_cases w : r = i ∧ c = j
          · rw [w.1] at r3; rw [w.1, w.2] at r4; exact absurd ⟨r3, r4⟩ hno
          · exact ⟨q, r, r1, by omega, r3, r4⟩
      refine ok_iload_n 18 rfl rfl rfl (ok_iload 19 rfl rfl rfl (ok_ishr 20 rfl rfl (ok_iconst 21 rfl rfl (by decide) (ok_iand 22 rfl rfl (ok_iconst 23 rfl rfl (by decide) ?_)))))
      rw [bz]
      refine ok_icmp_ne 24 63 rfl rfl rfl (fun h38 => ?_) (fun h38 => ?_)
      · refine ok_inc6 38 rfl rfl rfl (by first | omega | (simp [up_if]; omega) | (simp [up_if] at *; omega)) (ok_goto 39 20 rfl rfl rfl ?_)
        refine ih2 _ (j + 1) ⟨by omega, by omega, by omega, by omega, stay (fun q => ?_)⟩ (by omega)
        rw [if_pos q.1] at h38; exact h38 rfl
      · refine ok_aload_n 25 rfl rfl rfl (ok_iload_n 26 rfl rfl rfl (ok_iload 27 rfl rfl rfl (ok_iload 28 rfl rfl rfl (ok_callVI (M' := M_Mo_at) (as := [_, _, _]) 29 rfl rfl ml_X12_107 (s_Mo_at hB ⟨u1, u2⟩ ⟨by omega, by omega⟩ ⟨by omega, by omega⟩) rfl rfl (Nat.le_of_ble_eq_true rfl) ⟨Nat.le_of_ble_eq_true rfl, Nat.le_of_ble_eq_true rfl⟩ rfl (Nat.le_of_ble_eq_true rfl) (fun σ' z hz => ?_)))))
        rw [hz.1, hz.2]
        clear hz z σ'
        refine ok_iload_n 30 rfl rfl rfl (ok_icmp_lt 31 63 rfl rfl rfl (fun h51 => ?_) (fun h51 => ?_))
        · refine ok_inc6 38 rfl rfl rfl (by first | omega | (simp [up_if]; omega) | (simp [up_if] at *; omega)) (ok_goto 39 20 rfl rfl rfl ?_)
          exact ih2 _ (j + 1) ⟨by omega, by omega, by omega, by omega, stay (fun q => by have := q.2; omega)⟩ (by omega)
        · refine ok_iload 32 rfl rfl rfl (ok_iconst 33 rfl rfl (by decide) (ok_iload 34 rfl rfl rfl (ok_ishl 35 rfl rfl (ok_ior 36 rfl rfl ?_))))
          rw [e2]
          refine ok_ist4 37 rfl rfl rfl (ok_inc6 38 rfl rfl rfl (by first | omega | (simp [up_if]; omega) | (simp [up_if] at *; omega)) (ok_goto 39 20 rfl rfl rfl ?_))
          have hb : bt T i = true := by
            by_cases q : bt T i = true
            · exact q
            · rw [if_neg q] at h38; omega
          refine ih2 _ (j + 1) ⟨by omega, by omega, by omega, by omega, fun c a b => ?_⟩ (by omega)
          rw [bt_sB' j1 a, v3 c a b]
          constructor
          · rintro (⟨q, r, r1, r2, r3⟩ | q)
            · exact ⟨q, r, r1, by omega, r3⟩
            · rw [q]; exact ⟨by omega, i, i1, by omega, hb, by omega⟩
          · rintro ⟨q, r, r1, r2, r3, r4⟩
            by_cases w : c = j
            · exact Or.inr w
            · exact Or.inl ⟨q, r, r1, by omega, r3, r4⟩
theorem t_Mo_lack {σ : eS} {s l w : Int} (hB : iB1 σ) : MtI shB M_Mo_lack [vr 0, vi s, vi l, vi w] σ (fun σ' z => σ' = σ ∧ ((¬ okL (tabB σ s) l w ∧ z = -1) ∨ (okL (tabB σ s) l w ∧ z = lackV (σ 1 s) (fun i j => l ≤ cB σ s i j) w))) := by
  refine Mt.of okM_Mo_lack (Nat.le_of_ble_eq_true rfl) (fun hk hg => ?_)
  refine ok_aload_n 0 rfl rfl rfl (ok_iload_n 1 rfl rfl rfl (ok_callVI (M' := M_Mo_isTable) (as := [_]) 2 rfl rfl ml_X12_111 (s_Mo_isTable_r) rfl rfl (Nat.le_of_ble_eq_true rfl) ⟨Nat.le_of_ble_eq_true rfl, Nat.le_of_ble_eq_true rfl⟩ rfl (Nat.le_of_ble_eq_true rfl) (fun σ' z1 a1 => ?_)))
  obtain ⟨hs_, a1⟩ := a1
  rw [hs_]; clear hs_ σ'
  refine ok_if_eq 3 27 rfl rfl rfl (fun h5 => ?_) (fun h5 => ?_)
  · refine ok_iconst 13 rfl rfl (by decide) (ok_iret 14 rfl rfl rfl ?_)
    exact ⟨_, rfl, rfl, Or.inl ⟨fun q => no1 a1 h5 q.1, rfl⟩⟩
  · refine ok_iload_n 4 rfl rfl rfl (ok_callSI (M' := M_Mo_isLeast) (as := [_]) 5 rfl rfl ml_X12_343 (s_Mo_isLeast) ⟨Nat.le_of_ble_eq_true rfl, Nat.le_of_ble_eq_true rfl⟩ rfl (Nat.le_of_ble_eq_true rfl) (fun σ' z2 a2 => ?_))
    obtain ⟨hs_, a2⟩ := a2
    rw [hs_]; clear hs_ σ'
    refine ok_if_eq 6 27 rfl rfl rfl (fun h12 => ?_) (fun h12 => ?_)
    · refine ok_iconst 13 rfl rfl (by decide) (ok_iret 14 rfl rfl rfl ?_)
      exact ⟨_, rfl, rfl, Or.inl ⟨fun q => no1 a2 h12 q.2.1, rfl⟩⟩
    · refine ok_iload_n 7 rfl rfl rfl (ok_i2l 8 rfl rfl (ok_lconst (w := 0) 9 rfl rfl rfl (by decide) (ok_ldc2 10 (2) rfl rfl kc_X12_306 (by decide) (ok_callSI (M' := M_Mo_isIn) (as := [_, _, _]) 11 rfl rfl ml_X12_99 (s_Mo_isIn_r) ⟨Nat.le_of_ble_eq_true rfl, Nat.le_of_ble_eq_true rfl⟩ rfl (Nat.le_of_ble_eq_true rfl) (fun σ' z3 a3 => ?_)))))
      obtain ⟨hs_, a3⟩ := a3
      rw [hs_]; clear hs_ σ'
      refine ok_if_ne 12 29 rfl rfl rfl (fun h24 => ?_) (fun h24 => ?_)
      · refine ok_iconst 15 rfl rfl (by decide) (ok_ist4 16 rfl rfl rfl (ok_iconst 17 rfl rfl (by decide) (ok_ist5 18 rfl rfl rfl (ok_iconst 19 rfl rfl (by decide) (ok_ist6 20 rfl rfl rfl ?_)))))
        have ht := yes1 a1 h5
        have hw := yes1 a3 h24
        have hl : isL l := yes1 a2 h12
        obtain ⟨u1, u2, u3⟩ := id ht
        have tn := hB.1 s u1 u2
        obtain ⟨z1, z2, z3, -⟩ := bit2 (n := σ 1 s) ⟨by omega, by omega⟩
        obtain ⟨op, eop⟩ : ∃ op : Int → Int → Prop, op = fun i j => l ≤ cB σ s i j := ⟨_, rfl⟩
        obtain ⟨n, en⟩ : ∃ n, n = σ 1 s := ⟨_, rfl⟩
        rw [← eop, ← en]
        rw [← en] at z1 z2 z3
        refine lpO3 (fun T b k : Int => [some (vr 0), some (vi s), some (vi l), some (vi w), some (vi T), some (vi b), some (vi k), none]) (fun _ _ _ => σ) (fun T b k => 1 ≤ k ∧ k ≤ p2 n ∧ (T, b) = lkB (lkF n op) (k - 1).toNat) (fun _ _ k => (256 - k).toNat) ?_ 0 0 1 ⟨by omega, by omega, rfl⟩
        rintro T b k ⟨k1, k2, e⟩ ih
        have tb := lkB_bd (f := lkF n op) (k - 1).toNat
        rw [← e] at tb
        dsimp only at tb
        refine ok_iload 21 rfl rfl rfl (ok_iconst 22 rfl rfl (by decide) (ok_aload_n 23 rfl rfl rfl (ok_getR 24 rfl rfl fl_X12_7 rfl rfl (ok_iload_n 25 rfl rfl rfl (ok_iald 26 rfl rfl rfl (by first | omega | (simp [up_if]; omega) | (simp [up_if] at *; omega)) (ok_ishl 27 rfl rfl ?_))))))
        rw [← en, z1]
        refine ok_icmp_ge 28 94 rfl rfl rfl (fun h48 => ?_) (fun h48 => ?_)
        · have ek : k - 1 = p2 n - 1 := by omega
          rw [ek] at e
          refine ok_iload_n 49 rfl rfl rfl (ok_if_ne 50 103 rfl rfl rfl (fun h95 => ?_) (fun h95 => ?_))
          · refine ok_iload_n 53 rfl rfl rfl (ok_iconst 54 rfl rfl (by decide) (ok_icmp_ne 55 113 rfl rfl rfl (fun h105 => ?_) (fun h105 => ?_)))
            · refine ok_aload_n 58 rfl rfl rfl (ok_iload_n 59 rfl rfl rfl (ok_iload 60 rfl rfl rfl (ok_iload_n 61 rfl rfl rfl (ok_callVI (M' := M_Mo_joined) (as := [_, _, _]) 62 rfl rfl ml_X12_346 (t_Mo_joined hB ht ⟨by omega, by omega⟩) rfl rfl (Nat.le_of_ble_eq_true rfl) ⟨Nat.le_of_ble_eq_true rfl, Nat.le_of_ble_eq_true rfl⟩ rfl (Nat.le_of_ble_eq_true rfl) (fun σ' y hy => ?_)))))
              obtain ⟨hs_, hy⟩ := hy
              rw [hs_]; clear hs_ σ'
              rw [← eop, ← en] at hy
              have cz := cP_eq hy
              refine ok_iret 63 rfl rfl rfl ?_
              refine ⟨_, rfl, rfl, Or.inr ⟨⟨ht, hl, hw⟩, ?_⟩⟩
              unfold lackV
              rw [← e]
              dsimp only
              first | rw [if_pos (by omega)] | rw [if_neg (by omega), if_pos (by omega)] | (rw [if_neg (by omega), if_neg (by omega)]; exact cz.symm)
            · refine ok_iload 56 rfl rfl rfl (ok_goto 57 121 rfl rfl rfl (ok_iret 63 rfl rfl rfl ?_))
              refine ⟨_, rfl, rfl, Or.inr ⟨⟨ht, hl, hw⟩, ?_⟩⟩
              unfold lackV
              rw [← e]
              dsimp only
              first | rw [if_pos (by omega)] | rw [if_neg (by omega), if_pos (by omega)] | (rw [if_neg (by omega), if_neg (by omega)]; exact cz.symm)
          · refine ok_iload 51 rfl rfl rfl (ok_goto 52 121 rfl rfl rfl (ok_iret 63 rfl rfl rfl ?_))
            refine ⟨_, rfl, rfl, Or.inr ⟨⟨ht, hl, hw⟩, ?_⟩⟩
            unfold lackV
            rw [← e]
            dsimp only
            first | rw [if_pos (by omega)] | rw [if_neg (by omega), if_pos (by omega)] | (rw [if_neg (by omega), if_neg (by omega)]; exact cz.symm)
        · have b1 := (bitL (s := k) (n := 8) (by omega) (by omega)).2.2
          refine ok_iload 29 rfl rfl rfl (ok_callSI (M' := M_Mo_bits) (as := [_]) 30 rfl rfl ml_X12_241 (s_Mo_bits ⟨by omega, by omega⟩) ⟨Nat.le_of_ble_eq_true rfl, Nat.le_of_ble_eq_true rfl⟩ rfl (Nat.le_of_ble_eq_true rfl) (fun σ' z hz => ?_))
          rw [hz.1, hz.2]
          clear hz z σ'
          refine ok_aload_n 31 rfl rfl rfl (ok_iload_n 32 rfl rfl rfl (ok_iload 33 rfl rfl rfl (ok_iload_n 34 rfl rfl rfl (ok_callVI (M' := M_Mo_joined) (as := [_, _, _]) 35 rfl rfl ml_X12_346 (t_Mo_joined hB ht ⟨by omega, by omega⟩) rfl rfl (Nat.le_of_ble_eq_true rfl) ⟨Nat.le_of_ble_eq_true rfl, Nat.le_of_ble_eq_true rfl⟩ rfl (Nat.le_of_ble_eq_true rfl) (fun σ' y hy => ?_)))))
          obtain ⟨hs_, hy⟩ := hy
          rw [hs_]; clear hs_ σ'
          rw [← eop, ← en] at hy
          have cz := cP_eq hy
          have b2 := (bitL (s := y) (n := 8) hy.1 (by omega)).2.2
          refine ok_callSI (M' := M_Mo_bits) (as := [_]) 36 rfl rfl ml_X12_241 (s_Mo_bits hy.1) ⟨Nat.le_of_ble_eq_true rfl, Nat.le_of_ble_eq_true rfl⟩ rfl (Nat.le_of_ble_eq_true rfl) (fun σ' z hz => ?_)
          rw [hz.1, hz.2]
          clear hz z σ'
          refine ok_isub 37 rfl rfl (by first | omega | (simp [up_if]; omega) | (simp [up_if] at *; omega)) (ok_ist7 38 rfl rfl rfl (ok_iload 39 rfl rfl rfl (ok_iload 40 rfl rfl rfl (ok_icmp_gt 41 80 rfl rfl rfl (fun h74 => ?_) (fun h74 => ?_)))))
          · refine ok_iload 43 rfl rfl rfl (ok_ist4 44 rfl rfl rfl (ok_iload 45 rfl rfl rfl (ok_ist5 46 rfl rfl rfl (ok_inc6 47 rfl rfl rfl (by first | omega | (simp [up_if]; omega) | (simp [up_if] at *; omega)) (ok_goto 48 38 rfl rfl rfl ?_)))))
            have es := lkB_s (f := lkF n op) (k := k) (by omega)
            rw [← e] at es
            have fj : lkF n op k = pc k - pc y := by unfold lkF; rw [cz]
            rw [fj] at es
            dsimp only at es
            refine ok_fg [some (vr 0), some (vi s), some (vi l), some (vi w), some (vi _), some (vi _), some (vi (k + 1)), none] ⟨rfl, rfl, rfl, rfl, rfl, rfl, rfl, trivial⟩ (ih _ _ (k + 1) ⟨by omega, by omega, ?_⟩ (by omega))
            rw [show k + 1 - 1 = k by omega, es]
            first | rw [if_pos (by omega)] | rw [if_neg (by omega)]
          · refine ok_goto 42 88 rfl rfl rfl (ok_inc6 47 rfl rfl rfl (by first | omega | (simp [up_if]; omega) | (simp [up_if] at *; omega)) (ok_goto 48 38 rfl rfl rfl ?_))
            have es := lkB_s (f := lkF n op) (k := k) (by omega)
            rw [← e] at es
            have fj : lkF n op k = pc k - pc y := by unfold lkF; rw [cz]
            rw [fj] at es
            dsimp only at es
            refine ok_fg [some (vr 0), some (vi s), some (vi l), some (vi w), some (vi _), some (vi _), some (vi (k + 1)), none] ⟨rfl, rfl, rfl, rfl, rfl, rfl, rfl, trivial⟩ (ih _ _ (k + 1) ⟨by omega, by omega, ?_⟩ (by omega))
            rw [show k + 1 - 1 = k by omega, es]
            first | rw [if_pos (by omega)] | rw [if_neg (by omega)]
      · refine ok_iconst 13 rfl rfl (by decide) (ok_iret 14 rfl rfl rfl ?_)
        exact ⟨_, rfl, rfl, Or.inl ⟨fun q => no1 a3 h24 q.2.2, rfl⟩⟩
end
section
/-! PERMANENTS: sums over sets of columns, exactly -/
theorem bit_xp : ∀ s : Fin 256, ∀ j : Fin 8, bt (s.val : Int) (j.val : Int) = true → pc (ixor (s.val : Int) (ishl 1 (j.val : Int))) = pc (s.val : Int) - 1 ∧ sB (ixor (s.val : Int) (ishl 1 (j.val : Int))) (j.val : Int) = (s.val : Int) ∧ bt (ixor (s.val : Int) (ishl 1 (j.val : Int))) (j.val : Int) = false := by decide +kernel
theorem bitXp {s j : Int} (h1 : 0 ≤ s ∧ s < 256) (h2 : 0 ≤ j ∧ j < 8) (h : bt s j = true) : pc (ixor s (ishl 1 j)) = pc s - 1 ∧ sB (ixor s (ishl 1 j)) j = s ∧ bt (ixor s (ishl 1 j)) j = false := fin2 (P := fun s j => bt s j = true → pc (ixor s (ishl 1 j)) = pc s - 1 ∧ sB (ixor s (ishl 1 j)) j = s ∧ bt (ixor s (ishl 1 j)) j = false) bit_xp h1.1 h1.2 h2.1 h2.2 h
theorem pc_bd {s n : Int} (hn : 0 ≤ n ∧ n ≤ 8) (h : 0 ≤ s ∧ s < p2 n) : 0 ≤ pc s ∧ pc s ≤ n := by
  have b := bit2 hn
  have c := bitL (s := s) (n := n) ⟨h.1, by omega⟩ hn
  rcases (by omega : s < p2 n - 1 ∨ s = p2 n - 1) with q | q
  · have := c.1 q; omega
  · have := c.2.1 q; omega
theorem sm_mo {f : Int → Int} : ∀ {n m : Nat}, n ≤ m → (∀ k : Int, 0 ≤ k → k < m → 0 ≤ f k) → sm f n ≤ sm f m
  | n, 0, h, _ => by rw [show n = 0 by omega]; exact Int.le_refl _
  | n, m + 1, h, hf => by
    rcases (by omega : n = m + 1 ∨ n ≤ m) with q | q
    · rw [q]; exact Int.le_refl _
    · have a := sm_mo q (fun k x y => hf k x (by omega))
      have b := hf m (by omega) (by omega)
      show sm f n ≤ sm f m + f m
      omega
theorem sm_nx {f : Int → Int} {n : Nat} (h : ∀ k : Int, 0 ≤ k → k < n → 0 ≤ f k) : 0 ≤ sm f n := sm_mo (n := 0) (Nat.zero_le _) h
def PMk (n : Nat) (w : Int → Int → Int) : Nat → Int → Int
  | 0, _ => 1
  | k + 1, s => sm (fun j => if bt s j = true then w (k : Int) j * PMk n w k (ixor s (ishl 1 j)) else 0) n
def PMv (n : Int) (w : Int → Int → Int) (s : Int) : Int := PMk n.toNat w (pc s).toNat s
def PMt (n : Int) (w : Int → Int → Int) (s j : Int) : Int := if bt s j = true then w (pc s - 1) j * PMv n w (ixor s (ishl 1 j)) else 0
theorem PMv_0 (n : Int) (w : Int → Int → Int) : PMv n w 0 = 1 := by unfold PMv; rw [pc_0]; rfl
theorem PMv_eq {n : Int} {w : Int → Int → Int} {s : Int} (hn : 0 ≤ n ∧ n ≤ 8) (h : 1 ≤ s ∧ s < 256) : PMv n w s = sm (PMt n w s) n.toNat := by
  have p := pc1 (s := s) ⟨by omega, h.2⟩ (by omega)
  obtain ⟨m, hm⟩ : ∃ m : Nat, (pc s).toNat = m + 1 := ⟨(pc s).toNat - 1, by omega⟩
  unfold PMv
  rw [hm, PMk]
  refine sm_cg (fun j j0 jn => ?_)
  unfold PMt
  by_cases q : bt s j = true
  · rw [if_pos q, if_pos q]
    have x := bitXp (s := s) (j := j) ⟨by omega, h.2⟩ ⟨j0, by omega⟩ q
    unfold PMv
    rw [x.1, show (pc s - 1).toNat = m by omega, show pc s - 1 = (m : Int) by omega]
  · rw [if_neg q, if_neg q]
theorem PMk_nn {n : Nat} {w : Int → Int → Int} (hw : ∀ i j : Int, 0 ≤ i → i < n → 0 ≤ j → j < n → 0 ≤ w i j) : ∀ k : Nat, k ≤ n → ∀ s : Int, 0 ≤ PMk n w k s
  | 0, _, s => by show (0 : Int) ≤ 1; decide
  | k + 1, h, s => by
    rw [PMk]
    refine sm_nx (fun j j0 jn => ?_)
    split
    · exact Int.mul_nonneg (hw k j (by omega) (by omega) j0 jn) (PMk_nn hw k (by omega) _)
    · exact Int.le_refl _
theorem PMv_nn {n : Int} {w : Int → Int → Int} (hn : 0 ≤ n ∧ n ≤ 8) (hw : ∀ i j, 0 ≤ i → i < n → 0 ≤ j → j < n → 0 ≤ w i j) {s : Int} (h : 0 ≤ s ∧ s < p2 n) : 0 ≤ PMv n w s := by
  have p := pc_bd hn h
  exact PMk_nn (fun i j a b c d => hw i j a (by omega) c (by omega)) _ (by omega) s
theorem xb_lt {n s j : Int} (hn : 0 ≤ n ∧ n ≤ 8) (h : 0 ≤ s ∧ s < p2 n) (hj : 0 ≤ j ∧ j < 8) (hb : bt s j = true) : 0 ≤ ixor s (ishl 1 j) ∧ ixor s (ishl 1 j) < s := by
  have b := bit2 hn
  exact bitX ⟨h.1, by omega⟩ hj hb
theorem PMt_nn {n : Int} {w : Int → Int → Int} (hn : 0 ≤ n ∧ n ≤ 8) (hw : ∀ i j, 0 ≤ i → i < n → 0 ≤ j → j < n → 0 ≤ w i j) {s : Int} (h : 1 ≤ s ∧ s < p2 n) {j : Int} (j0 : 0 ≤ j) (jn : j < n) : 0 ≤ PMt n w s j := by
  have b := bit2 hn
  have p := pc_bd hn ⟨by omega, h.2⟩
  have p1 := pc1 (s := s) ⟨by omega, by omega⟩ (by omega)
  unfold PMt
  split
  · next q =>
    have x := xb_lt hn ⟨by omega, h.2⟩ ⟨j0, by omega⟩ q
    exact Int.mul_nonneg (hw _ j (by omega) (by omega) j0 jn) (PMv_nn hn hw ⟨x.1, by omega⟩)
  · exact Int.le_refl _
theorem PMk_cg {n : Nat} {w w' : Int → Int → Int} (e : ∀ i j : Int, 0 ≤ i → i < n → 0 ≤ j → j < n → w i j = w' i j) : ∀ k : Nat, k ≤ n → ∀ s : Int, PMk n w k s = PMk n w' k s
  | 0, _, s => rfl
  | k + 1, h, s => by
    rw [PMk, PMk]
    refine sm_cg (fun j j0 jn => ?_)
    rw [e k j (by omega) (by omega) j0 jn, PMk_cg e k (by omega)]
theorem PMv_cg {n : Int} {w w' : Int → Int → Int} (hn : 0 ≤ n ∧ n ≤ 8) (e : ∀ i j, 0 ≤ i → i < n → 0 ≤ j → j < n → w i j = w' i j) {s : Int} (h : 0 ≤ s ∧ s < p2 n) : PMv n w s = PMv n w' s := by
  have p := pc_bd hn h
  exact PMk_cg (fun i j a b c d => e i j a (by omega) c (by omega)) _ (by omega) s
/-- what the sums of all sets answer: beyond, or the whole -/
def pmA (n : Int) (w : Int → Int → Int) (z : Int) : Prop := (z = -2 ∧ ∃ s, 1 ≤ s ∧ s < p2 n ∧ 9223372036854775807 < PMv n w s) ∨ (z = PMv n w (p2 n - 1) ∧ ∀ s, 0 ≤ s → s < p2 n → PMv n w s ≤ 9223372036854775807)
theorem pmA_un {n : Int} {w w' : Int → Int → Int} {z z' : Int} (hn : 1 ≤ n ∧ n ≤ 8) (e : ∀ i j, 0 ≤ i → i < n → 0 ≤ j → j < n → w i j = w' i j) (h : pmA n w z) (h' : pmA n w' z') : z = z' := by
  have b := bit2 (n := n) ⟨by omega, hn.2⟩
  have c := fun s a1 a2 => PMv_cg (s := s) (n := n) ⟨by omega, hn.2⟩ e ⟨a1, a2⟩
  rcases h with ⟨a1, s, a2, a3, a4⟩ | ⟨a1, a2⟩ <;> rcases h' with ⟨b1, s', b2, b3, b4⟩ | ⟨b1, b2⟩
  · omega
  · have := b2 s (by omega) a3
    rw [c s (by omega) a3] at a4
    omega
  · have := a2 s' (by omega) b3
    rw [c s' (by omega) b3] at this
    omega
  · rw [a1, b1, c _ (by omega) (by omega)]
theorem t_Ch_multiplySet {σ : eS} {c : Nat} {s n : Int} (hs : nth shA c = some (1, 64, [])) (hn : 0 ≤ n ∧ n ≤ 8) (h1 : 1 ≤ s ∧ s < p2 n) (hc : ∀ k : Int, 0 ≤ k → k < 64 → 0 ≤ σ c k ∧ σ c k ≤ 799999992) (hv : ∀ k, 0 ≤ k → k < s → σ 18 k = PMv n (fun i j => σ c (i * 8 + j)) k) : MtL shA M_Ch_multiplySet [vr 16, vr c, vi s, vi n] σ (fun σ' z => σ' = σ ∧ ((z = -2 ∧ 9223372036854775807 < PMv n (fun i j => σ c (i * 8 + j)) s) ∨ (z = PMv n (fun i j => σ c (i * 8 + j)) s ∧ 0 ≤ z ∧ z ≤ 9223372036854775807))) := by
  refine Mt.of okM_Ch_multiplySet (Nat.le_of_ble_eq_true rfl) (fun hk hg => ?_)
  have b2 := bit2 hn
  have h2 : 1 ≤ s ∧ s < 256 := ⟨h1.1, by omega⟩
  obtain ⟨w, ew⟩ : ∃ w : Int → Int → Int, w = fun i j => σ c (i * 8 + j) := ⟨_, rfl⟩
  rw [← ew] at hv ⊢
  have hw : ∀ i j, 0 ≤ i → i < n → 0 ≤ j → j < n → 0 ≤ w i j := fun i j a b d e => by rw [ew]; exact (hc _ (by omega) (by omega)).1
  have p1 := pc_bd hn (s := s) ⟨by omega, h1.2⟩
  have p3 := pc1 (s := s) ⟨by omega, by omega⟩ (by omega)
  have tn : ∀ k : Int, 0 ≤ k → k < (n.toNat : Int) → 0 ≤ PMt n w s k := fun k a b => PMt_nn hn hw h1 a (by omega)
  rw [PMv_eq hn h2]
  refine ok_iload_n 0 rfl rfl rfl (ok_callSI (M' := M_Ji_bitCount) (as := [_]) 1 rfl rfl ml_X0_38 (s_Ji_bitCount) ⟨Nat.le_of_ble_eq_true rfl, Nat.le_of_ble_eq_true rfl⟩ rfl (Nat.le_of_ble_eq_true rfl) (fun σ' z hz => ?_))
  rw [hz.1, hz.2]
  clear hz z σ'
  rw [bcP (s := s) ⟨by omega, by omega⟩]
  refine ok_iconst 2 rfl rfl (by decide) (ok_isub 3 rfl rfl (by first | omega | (simp [up_if]; omega) | (simp [up_if] at *; omega)) (ok_ist4 4 rfl rfl rfl (ok_lconst (w := 0) 5 rfl rfl rfl (by decide) (ok_lst5 6 rfl rfl rfl (ok_iconst 7 rfl rfl (by decide) (ok_ist7 8 rfl rfl rfl ?_))))))
  refine lpO2 (fun (v j : Int) => [some (vr 16), some (vr c), some (vi s), some (vi n), some (vi (pc s - 1)), some (vl v), none, some (vi j), none, none, none]) (fun _ _ => σ) (fun v j => 0 ≤ j ∧ j ≤ n ∧ 0 ≤ v ∧ v ≤ 9223372036854775807 ∧ v = sm (PMt n w s) j.toNat) (fun _ j => (8 - j).toNat) ?_ 0 0 ⟨by omega, by omega, by omega, by omega, rfl⟩
  rintro v j ⟨j1, j2, v1, v2, v3⟩ ih
  have es := sm_s (PMt n w s) j1
  rw [← v3] at es
  refine ok_iload 9 rfl rfl rfl (ok_iload_n 10 rfl rfl rfl (ok_icmp_ge 11 96 rfl rfl rfl (fun h17 => ?_) (fun h17 => ?_)))
  · refine ok_lload 57 rfl rfl rfl (ok_lret 58 rfl rfl rfl ?_)
    exact ⟨_, rfl, rfl, Or.inr ⟨by rw [v3, show j = n by omega], v1, v2⟩⟩
  · have bz := b_nz (s := s) (j := j) ⟨by omega, by omega⟩ ⟨by omega, by omega⟩
    have cb := hc ((pc s - 1) * 8 + j) (by omega) (by omega)
    have wj : w (pc s - 1) j = σ c ((pc s - 1) * 8 + j) := by rw [ew]
    refine ok_aload_n 12 rfl rfl rfl (ok_iload 13 rfl rfl rfl (ok_bipush 14 rfl rfl (by decide) (by decide) (ok_imul 15 rfl rfl (by first | omega | (simp [up_if]; omega) | (simp [up_if] at *; omega)) (ok_iload 16 rfl rfl rfl (ok_iadd 17 rfl rfl (by first | omega | (simp [up_if]; omega) | (simp [up_if] at *; omega)) (ok_iald 18 rfl rfl hs (by first | omega | (simp [up_if]; omega) | (simp [up_if] at *; omega)) (ok_ist8 19 rfl rfl rfl (ok_iload_n 20 rfl rfl rfl (ok_iload 21 rfl rfl rfl (ok_ishr 22 rfl rfl (ok_iconst 23 rfl rfl (by decide) (ok_iand 24 rfl rfl (ok_if_eq 25 90 rfl rfl rfl (fun h38 => ?_) (fun h38 => ?_))))))))))))))
    · refine ok_inc7 55 rfl rfl rfl (by first | omega | (simp [up_if]; omega) | (simp [up_if] at *; omega)) (ok_goto 56 14 rfl rfl rfl ?_)
      have t0 : PMt n w s j = 0 := by
        unfold PMt
        by_cases q : bt s j = true
        · rw [if_pos q, wj]
          have : σ c ((pc s - 1) * 8 + j) = 0 := by
            have := bz.1.mpr q
            omega
          rw [this, Int.zero_mul]
        · rw [if_neg q]
      exact ok_fg [some (vr 16), some (vr c), some (vi s), some (vi n), some (vi (pc s - 1)), some (vl v), none, some (vi (j + 1)), none, none, none] ⟨rfl, rfl, rfl, rfl, rfl, rfl, rfl, trivial⟩ (ih v (j + 1) ⟨by omega, by omega, by omega, by omega, by rw [es, t0]; omega⟩ (by omega))
    · refine ok_iload 26 rfl rfl rfl (ok_if_le 27 90 rfl rfl rfl (fun h43 => ?_) (fun h43 => ?_))
      · refine ok_inc7 55 rfl rfl rfl (by first | omega | (simp [up_if]; omega) | (simp [up_if] at *; omega)) (ok_goto 56 14 rfl rfl rfl ?_)
        have t0 : PMt n w s j = 0 := by
          unfold PMt
          by_cases q : bt s j = true
          · rw [if_pos q, wj]
            have : σ c ((pc s - 1) * 8 + j) = 0 := by
              have := bz.1.mpr q
              omega
            rw [this, Int.zero_mul]
          · rw [if_neg q]
        exact ok_fg [some (vr 16), some (vr c), some (vi s), some (vi n), some (vi (pc s - 1)), some (vl v), none, some (vi (j + 1)), none, none, none] ⟨rfl, rfl, rfl, rfl, rfl, rfl, rfl, trivial⟩ (ih v (j + 1) ⟨by omega, by omega, by omega, by omega, by rw [es, t0]; omega⟩ (by omega))
      · have bb : bt s j = true := bz.1.mp (by omega)
        have x := bitX (s := s) (j := j) ⟨by omega, by omega⟩ ⟨by omega, by omega⟩ bb
        have w1 := hv _ x.1 x.2
        have w2 := PMv_nn hn hw (s := ixor s (ishl 1 j)) ⟨x.1, by omega⟩
        have tj : PMt n w s j = σ c ((pc s - 1) * 8 + j) * σ 18 (ixor s (ishl 1 j)) := by unfold PMt; rw [if_pos bb, wj, w1]
        rw [← w1] at w2
        refine ok_aload_n 28 rfl rfl rfl (ok_getR 29 rfl rfl fl_X0_15 rfl rfl (ok_iload_n 30 rfl rfl rfl (ok_iconst 31 rfl rfl (by decide) (ok_iload 32 rfl rfl rfl (ok_ishl 33 rfl rfl (ok_ixor 34 rfl rfl (ok_lald 35 rfl rfl rfl (by first | omega | (simp [up_if]; omega) | (simp [up_if] at *; omega)) (ok_lst9 36 rfl rfl rfl (ok_lload 37 rfl rfl rfl (ok_ldc2 38 (9223372036854775807) rfl rfl kc_X0_36 (by decide) (ok_lload 39 rfl rfl rfl (ok_lsub 40 rfl rfl (by first | omega | (simp [up_if]; omega) | (simp [up_if] at *; omega)) (ok_iload 41 rfl rfl rfl (ok_i2l 42 rfl rfl (ok_ldiv 43 rfl rfl (by first | omega | (simp [up_if]; omega) | (simp [up_if] at *; omega)) (by first | omega | (simp [up_if]; omega) | (simp [up_if] at *; omega)) (ok_lcmp_le 44 45 79 rfl rfl rfl rfl rfl (fun h71 => ?_) (fun h71 => ?_)))))))))))))))))
        · have m : σ c ((pc s - 1) * 8 + j) * σ 18 (ixor s (ishl 1 j)) ≤ 9223372036854775807 - v := mul_le_div (by omega) h71
          have m0 : 0 ≤ σ c ((pc s - 1) * 8 + j) * σ 18 (ixor s (ishl 1 j)) := Int.mul_nonneg (by omega) w2
          refine ok_lload 48 rfl rfl rfl (ok_iload 49 rfl rfl rfl (ok_i2l 50 rfl rfl (ok_lload 51 rfl rfl rfl (ok_lmul 52 rfl rfl (by first | omega | (simp [up_if]; omega) | (simp [up_if] at *; omega)) (ok_ladd 53 rfl rfl (by first | omega | (simp [up_if]; omega) | (simp [up_if] at *; omega)) (ok_lst5 54 rfl rfl rfl (ok_inc7 55 rfl rfl rfl (by first | omega | (simp [up_if]; omega) | (simp [up_if] at *; omega)) (ok_goto 56 14 rfl rfl rfl ?_))))))))
          exact ok_fg [some (vr 16), some (vr c), some (vi s), some (vi n), some (vi (pc s - 1)), some (vl _), none, some (vi (j + 1)), none, none, none] ⟨rfl, rfl, rfl, rfl, rfl, rfl, rfl, trivial⟩ (ih _ (j + 1) ⟨by omega, by omega, by omega, by omega, by rw [es, tj]⟩ (by omega))
        · refine ok_ldc2 46 (-2) rfl rfl kc_X0_67 (by decide) (ok_lret 47 rfl rfl rfl ?_)
          refine ⟨_, rfl, rfl, Or.inl ⟨rfl, ?_⟩⟩
          have mo := sm_mo (f := PMt n w s) (n := (j + 1).toNat) (m := n.toNat) (by omega) tn
          have hh : 9223372036854775807 - v < σ c ((pc s - 1) * 8 + j) * σ 18 (ixor s (ishl 1 j)) := by
            rcases (by omega : 9223372036854775807 - v < σ c ((pc s - 1) * 8 + j) * σ 18 (ixor s (ishl 1 j)) ∨ σ c ((pc s - 1) * 8 + j) * σ 18 (ixor s (ishl 1 j)) ≤ 9223372036854775807 - v) with q | q
            · exact q
            · rw [Int.mul_comm] at q
              have := Int.le_ediv_of_mul_le (by omega : 0 < σ c ((pc s - 1) * 8 + j)) q
              omega
          rw [es, tj] at mo
          omega
theorem t_Ch_multiplyAll {σ : eS} {c : Nat} {n : Int} (hs : nth shA c = some (1, 64, [])) (hn : 0 ≤ n ∧ n ≤ 8) (hc18 : c ≠ 18) (hc : ∀ k : Int, 0 ≤ k → k < 64 → 0 ≤ σ c k ∧ σ c k ≤ 799999992) : MtL shA M_Ch_multiplyAll [vr 16, vr c, vi n] σ (fun σ' z => fr (fun c _ => c = 18) σ σ' ∧ pmA n (fun i j => σ c (i * 8 + j)) z) := by
  refine Mt.of okM_Ch_multiplyAll (Nat.le_of_ble_eq_true rfl) (fun hk hg => ?_)
  have b2 := bit2 hn
  refine ok_aload_n 0 rfl rfl rfl (ok_getR 1 rfl rfl fl_X0_15 rfl rfl (ok_iconst 2 rfl rfl (by decide) (ok_lconst (w := 1) 3 rfl rfl rfl (by decide) (ok_last 4 rfl rfl rfl (by first | omega | (simp [up_if]; omega) | (simp [up_if] at *; omega)) (ok_iconst 5 rfl rfl (by decide) (ok_ist3 6 rfl rfl rfl ?_))))))
  refine lpO2 (fun (s : Int) (_ : eS) => [some (vr 16), some (vr c), some (vi n), some (vi s)]) (fun _ ρ => ρ) (fun s ρ => 1 ≤ s ∧ s ≤ p2 n ∧ fr (fun c _ => c = 18) σ ρ ∧ ∀ k, 0 ≤ k → k < s → ρ 18 k = PMv n (fun i j => σ c (i * 8 + j)) k ∧ PMv n (fun i j => σ c (i * 8 + j)) k ≤ 9223372036854775807) (fun s _ => (256 - s).toNat) ?_ 1 _ ⟨by omega, by omega, fr_up fr.rf rfl, fun k a b => by rw [show k = 0 by omega, up_same, PMv_0]; decide⟩
  rintro s ρ ⟨s1, s2, f, hv⟩ ih
  have ec : ∀ k, ρ c k = σ c k := fun k => f c k hc18
  have ew : (fun i j => ρ c (i * 8 + j)) = (fun i j => σ c (i * 8 + j)) := by funext i j; exact ec _
  refine ok_iload_n 7 rfl rfl rfl (ok_iconst 8 rfl rfl (by decide) (ok_iload_n 9 rfl rfl rfl (ok_ishl 10 rfl rfl ?_)))
  rw [b2.1]
  refine ok_icmp_ge 11 52 rfl rfl rfl (fun h13 => ?_) (fun h13 => ?_)
  · refine ok_aload_n 32 rfl rfl rfl (ok_getR 33 rfl rfl fl_X0_15 rfl rfl (ok_iconst 34 rfl rfl (by decide) (ok_iload_n 35 rfl rfl rfl (ok_ishl 36 rfl rfl (ok_iconst 37 rfl rfl (by decide) (ok_isub 38 rfl rfl (by first | omega | (simp [up_if]; omega) | (simp [up_if] at *; omega)) ?_))))))
    rw [b2.1]
    refine ok_lald 39 rfl rfl rfl (by first | omega | (simp [up_if]; omega) | (simp [up_if] at *; omega)) (ok_lret 40 rfl rfl rfl ?_)
    exact ⟨_, rfl, f, Or.inr ⟨(hv (p2 n - 1) (by omega) (by omega)).1, fun k a b => (hv k a (by omega)).2⟩⟩
  · refine ok_aload_n 12 rfl rfl rfl (ok_getR 13 rfl rfl fl_X0_15 rfl rfl (ok_iload_n 14 rfl rfl rfl (ok_aload_n 15 rfl rfl rfl (ok_aload_n 16 rfl rfl rfl (ok_iload_n 17 rfl rfl rfl (ok_iload_n 18 rfl rfl rfl (ok_callVL (M' := M_Ch_multiplySet) (as := [_, _, _]) 19 rfl rfl ml_X0_63 (t_Ch_multiplySet hs hn ⟨s1, by omega⟩ (fun k a b => by rw [ec]; exact hc k a b) (fun k a b => by rw [ew]; exact (hv k a b).1)) rfl rfl (Nat.le_of_ble_eq_true rfl) ⟨Nat.le_of_ble_eq_true rfl, Nat.le_of_ble_eq_true rfl⟩ rfl (Nat.le_of_ble_eq_true rfl) (fun σ' z hz => ?_))))))))
    obtain ⟨hs_, hz⟩ := hz
    rw [hs_]; clear hs_ σ'
    rw [ew] at hz
    refine ok_last 20 rfl rfl rfl (by first | omega | (simp [up_if]; omega) | (simp [up_if] at *; omega)) (ok_aload_n 21 rfl rfl rfl (ok_getR 22 rfl rfl fl_X0_15 rfl rfl (ok_iload_n 23 rfl rfl rfl (ok_lald 24 rfl rfl rfl (by first | omega | (simp [up_if]; omega) | (simp [up_if] at *; omega)) (ok_ldc2 25 (-2) rfl rfl kc_X0_67 (by decide) (ok_lcmp_ne 26 27 46 rfl rfl rfl rfl rfl (fun h38 => ?_) (fun h38 => ?_)))))))
    · refine ok_inc3 30 rfl rfl rfl (by first | omega | (simp [up_if]; omega) | (simp [up_if] at *; omega)) (ok_goto 31 9 rfl rfl rfl ?_)
      rw [up_same] at h38
      refine ih (s + 1) _ ⟨by omega, by omega, fr_up f rfl, up_to (fun k a b => ?_) ?_⟩ (by omega)
      · rw [up_nk _ _ _ _ (by omega)]; exact hv k a b
      · rw [up_same]
        rcases hz with q | q
        · exact absurd q.1 h38
        · exact ⟨q.1, by omega⟩
    · refine ok_ldc2 28 (-2) rfl rfl kc_X0_67 (by decide) (ok_lret 29 rfl rfl rfl ?_)
      rw [up_same] at h38
      refine ⟨_, rfl, fr_up f rfl, Or.inl ⟨rfl, s, s1, by omega, ?_⟩⟩
      rcases hz with q | q
      · exact q.2
      · omega
/-- the numbers that the reference's sums are made of -/
def smW (σ : eS) (s l b : Int) : Int → Int → Int := fun i j => if b = 0 then cB σ s i j else if l ≤ cB σ s i j then 1 else 0
theorem t_Mo_isSummed {σ : eS} {s l b : Int} (hB : iB1 σ) (ht : tabB σ s) : MtI shB M_Mo_isSummed [vr 0, vi s, vi l, vi b] σ (fun σ' z => fr rgU σ σ' ∧ ((z = 0 ∧ ∃ T, 1 ≤ T ∧ T < p2 (σ 1 s) ∧ 9223372036854775807 < PMv (σ 1 s) (smW σ s l b) T) ∨ (z = 1 ∧ ∀ T, 0 ≤ T → T < p2 (σ 1 s) → σ' 20 T = PMv (σ 1 s) (smW σ s l b) T ∧ PMv (σ 1 s) (smW σ s l b) T ≤ 9223372036854775807))) := by
  refine Mt.of okM_Mo_isSummed (Nat.le_of_ble_eq_true rfl) (fun hk hg => ?_)
  obtain ⟨u1, u2, u3⟩ := ht
  have tn := hB.1 s u1 u2
  have hn : 0 ≤ σ 1 s ∧ σ 1 s ≤ 8 := ⟨by omega, by omega⟩
  obtain ⟨z1, z2, z3, -⟩ := bit2 (n := σ 1 s) hn
  obtain ⟨w, ew⟩ : ∃ w, w = smW σ s l b := ⟨_, rfl⟩
  have hw0 : ∀ i j, 0 ≤ i → i < σ 1 s → 0 ≤ j → j < σ 1 s → 0 ≤ w i j ∧ w i j ≤ 99999999 := fun i j a1 a2 a3 a4 => by
    have := cB_bd hB ⟨u1, u2⟩ ⟨a1, a2⟩ ⟨a3, a4⟩
    rw [ew]; unfold smW
    split
    · exact this
    · split <;> omega
  have hw : ∀ i j, 0 ≤ i → i < σ 1 s → 0 ≤ j → j < σ 1 s → 0 ≤ w i j := fun i j a1 a2 a3 a4 => (hw0 i j a1 a2 a3 a4).1
  rw [← ew]
  refine ok_aload_n 0 rfl rfl rfl (ok_getR 1 rfl rfl fl_X12_72 rfl rfl (ok_iconst 2 rfl rfl (by decide) (ok_lconst (w := 1) 3 rfl rfl rfl (by decide) (ok_last 4 rfl rfl rfl (by first | omega | (simp [up_if]; omega) | (simp [up_if] at *; omega)) (ok_iconst 5 rfl rfl (by decide) (ok_ist4 6 rfl rfl rfl ?_))))))
  refine lpO2 (fun (T : Int) (_ : eS) => [some (vr 0), some (vi s), some (vi l), some (vi b), some (vi T), none, none, none, none, none, none]) (fun _ ρ => ρ) (fun T ρ => 1 ≤ T ∧ T ≤ p2 (σ 1 s) ∧ fr rgU σ ρ ∧ ∀ k, 0 ≤ k → k < T → ρ 20 k = PMv (σ 1 s) w k ∧ PMv (σ 1 s) w k ≤ 9223372036854775807) (fun T _ => (256 - T).toNat) ?_ 1 _ ⟨by omega, by omega, fr_up fr.rf (by simp [rgU]), fun k a c => by rw [show k = 0 by omega, up_same, PMv_0]; decide⟩
  rintro T ρ ⟨t1, t2, f, hs⟩ ih
  have e1 : ∀ k, ρ 1 k = σ 1 k := fun k => f 1 k (by simp [rgU])
  refine ok_iload 7 rfl rfl rfl (ok_iconst 8 rfl rfl (by decide) (ok_aload_n 9 rfl rfl rfl (ok_getR 10 rfl rfl fl_X12_7 rfl rfl (ok_iload_n 11 rfl rfl rfl (ok_iald 12 rfl rfl rfl (by first | omega | (simp [up_if]; omega) | (simp [up_if] at *; omega)) (ok_ishl 13 rfl rfl ?_))))))
  rw [e1, z1]
  refine ok_icmp_ge 14 178 rfl rfl rfl (fun h20 => ?_) (fun h20 => ?_)
  · refine ok_iconst 102 rfl rfl (by decide) (ok_zret 103 rfl rfl rfl (by first | omega | (simp [up_if]; omega) | (simp [up_if] at *; omega)) ?_)
    exact ⟨_, rfl, f, Or.inr ⟨rfl, fun k a c => hs k a (by omega)⟩⟩
  · refine ok_iload 15 rfl rfl rfl (ok_callSI (M' := M_Mo_bits) (as := [_]) 16 rfl rfl ml_X12_241 (s_Mo_bits ⟨by omega, by omega⟩) ⟨Nat.le_of_ble_eq_true rfl, Nat.le_of_ble_eq_true rfl⟩ rfl (Nat.le_of_ble_eq_true rfl) (fun σ' z hz => ?_))
    rw [hz.1, hz.2]
    clear hz z σ'
    have tl : T < p2 (σ 1 s) := by omega
    have b2 := pc_bd hn (s := T) ⟨by omega, tl⟩
    have b3 := pc1 (s := T) ⟨by omega, by omega⟩ (by omega)
    refine ok_iconst 17 rfl rfl (by decide) (ok_isub 18 rfl rfl (by first | omega | (simp [up_if]; omega) | (simp [up_if] at *; omega)) (ok_ist5 19 rfl rfl rfl (ok_aload_n 20 rfl rfl rfl (ok_getR 21 rfl rfl fl_X12_72 rfl rfl (ok_iload 22 rfl rfl rfl (ok_lconst (w := 0) 23 rfl rfl rfl (by decide) (ok_last 24 rfl rfl rfl (by first | omega | (simp [up_if]; omega) | (simp [up_if] at *; omega)) (ok_iconst 25 rfl rfl (by decide) (ok_ist6 26 rfl rfl rfl ?_)))))))))
    have pe := PMv_eq (w := w) hn (s := T) ⟨t1, by omega⟩
    have tnn : ∀ k : Int, 0 ≤ k → k < ((σ 1 s).toNat : Int) → 0 ≤ PMt (σ 1 s) w T k := fun k a c => PMt_nn hn hw ⟨t1, tl⟩ a (by omega)
    refine lpO2 (fun (j : Int) (_ : eS) => [some (vr 0), some (vi s), some (vi l), some (vi b), some (vi T), some (vi (pc T - 1)), some (vi j), none, none, none, none]) (fun _ ρ => ρ) (fun j ρ => 0 ≤ j ∧ j ≤ σ 1 s ∧ fr rgU σ ρ ∧ (∀ k, 0 ≤ k → k < T → ρ 20 k = PMv (σ 1 s) w k ∧ PMv (σ 1 s) w k ≤ 9223372036854775807) ∧ ρ 20 T = sm (PMt (σ 1 s) w T) j.toNat ∧ ρ 20 T ≤ 9223372036854775807) (fun j _ => (8 - j).toNat) ?_ 0 _ ⟨by omega, by omega, fr_up f (by simp [rgU]), fun k a c => ?_, by rw [up_same]; rfl, by rw [up_same]; decide⟩
    rotate_left
    · rw [up_nk _ _ _ _ (by omega)]; exact hs k a c
    clear hs f e1
    rintro j ρ ⟨j1, j2, f, hs, h20, hmx⟩ ih2
    have e1 : ∀ k, ρ 1 k = σ 1 k := fun k => f 1 k (by simp [rgU])
    have e1s := e1 s
    have hB' : iB1 ρ := iB1_frS hB f (fun c k q => by simp only [rgU]; omega)
    have tk : tbK σ ρ := tbK.of f (fun k => by simp [rgU])
    have es := sm_s (PMt (σ 1 s) w T) j1
    rw [← h20] at es
    have h0 : 0 ≤ ρ 20 T := by rw [h20]; exact sm_nx (fun k a c => tnn k a (by omega))
    have t166 : ∀ (τ : eS) (x y : Option eV), j < σ 1 s → fr rgU σ τ → (∀ k, 0 ≤ k → k < T → τ 20 k = ρ 20 k) → τ 20 T = sm (PMt (σ 1 s) w T) (j + 1).toNat → τ 20 T ≤ 9223372036854775807 → Ok shB M_Mo_isSummed 166 [some (vr 0), some (vi s), some (vi l), some (vi b), some (vi T), some (vi (pc T - 1)), some (vi j), x, none, y, none] [] τ (fun σ' v => ∃ z, v = some (vi z) ∧ fr rgU σ σ' ∧ ((z = 0 ∧ ∃ T, 1 ≤ T ∧ T < p2 (σ 1 s) ∧ 9223372036854775807 < PMv (σ 1 s) w T) ∨ (z = 1 ∧ ∀ T, 0 ≤ T → T < p2 (σ 1 s) → σ' 20 T = PMv (σ 1 s) w T ∧ PMv (σ 1 s) w T ≤ 9223372036854775807))) := by
      intro τ x y jl g hg hg2 hg3
      refine ok_inc6 98 rfl rfl rfl (by first | omega | (simp [up_if]; omega) | (simp [up_if] at *; omega)) (ok_goto 99 43 rfl rfl rfl ?_)
      exact ok_fg [some (vr 0), some (vi s), some (vi l), some (vi b), some (vi T), some (vi (pc T - 1)), some (vi (j + 1)), none, none, none, none] ⟨rfl, rfl, rfl, rfl, rfl, rfl, rfl, trivial⟩ (ih2 (j + 1) τ ⟨by omega, by omega, g, fun k a c => by rw [hg k a c]; exact hs k a c, hg2, hg3⟩ (by omega))
    have t106 : ∀ v : Int, j < σ 1 s → bt T j = true → v = w (pc T - 1) j → Ok shB M_Mo_isSummed 106 [some (vr 0), some (vi s), some (vi l), some (vi b), some (vi T), some (vi (pc T - 1)), some (vi j), none, none, none, none] [vl v] ρ (fun σ' v => ∃ z, v = some (vi z) ∧ fr rgU σ σ' ∧ ((z = 0 ∧ ∃ T, 1 ≤ T ∧ T < p2 (σ 1 s) ∧ 9223372036854775807 < PMv (σ 1 s) w T) ∨ (z = 1 ∧ ∀ T, 0 ≤ T → T < p2 (σ 1 s) → σ' 20 T = PMv (σ 1 s) w T ∧ PMv (σ 1 s) w T ≤ 9223372036854775807))) := by
      intro v jl hbt ev
      have vb := hw0 (pc T - 1) j (by omega) (by omega) j1 jl
      rw [← ev] at vb
      have hx := bitX (s := T) (j := j) (by omega) (by omega) hbt
      have hx1 := (hs _ hx.1 hx.2).1
      have hx2 := PMv_nn hn hw (s := ixor T (ishl 1 j)) ⟨hx.1, by omega⟩
      have hx3 := (hs _ hx.1 hx.2).2
      have tj : PMt (σ 1 s) w T j = v * ρ 20 (ixor T (ishl 1 j)) := by unfold PMt; rw [if_pos hbt, ← ev, hx1]
      rw [← hx1] at hx2 hx3
      rw [tj] at es
      have t151 : v * ρ 20 (ixor T (ishl 1 j)) ≤ 9223372036854775807 - ρ 20 T → Ok shB M_Mo_isSummed 151 [some (vr 0), some (vi s), some (vi l), some (vi b), some (vi T), some (vi (pc T - 1)), some (vi j), some (vl v), none, some (vl (ρ 20 (ixor T (ishl 1 j)))), none] [] ρ (fun σ' v => ∃ z, v = some (vi z) ∧ fr rgU σ σ' ∧ ((z = 0 ∧ ∃ T, 1 ≤ T ∧ T < p2 (σ 1 s) ∧ 9223372036854775807 < PMv (σ 1 s) w T) ∨ (z = 1 ∧ ∀ T, 0 ≤ T → T < p2 (σ 1 s) → σ' 20 T = PMv (σ 1 s) w T ∧ PMv (σ 1 s) w T ≤ 9223372036854775807))) := by
        intro hm
        have hm0 : 0 ≤ v * ρ 20 (ixor T (ishl 1 j)) := Int.mul_nonneg vb.1 hx2
        refine ok_aload_n 88 rfl rfl rfl (ok_getR 89 rfl rfl fl_X12_72 rfl rfl (ok_iload 90 rfl rfl rfl (ok_dup2 91 rfl rfl ⟨rfl, rfl⟩ (ok_lald 92 rfl rfl rfl (by first | omega | (simp [up_if]; omega) | (simp [up_if] at *; omega)) (ok_lload 93 rfl rfl rfl (ok_lload 94 rfl rfl rfl (ok_lmul 95 rfl rfl (by first | omega | (simp [up_if]; omega) | (simp [up_if] at *; omega)) (ok_ladd 96 rfl rfl (by first | omega | (simp [up_if]; omega) | (simp [up_if] at *; omega)) (ok_last 97 rfl rfl rfl (by first | omega | (simp [up_if]; omega) | (simp [up_if] at *; omega)) ?_)))))))))
        exact t166 _ _ _ jl (fr_up f (by simp [rgU])) (fun k a c => up_nk _ _ _ _ (by omega)) (by rw [up_same, es]) (by rw [up_same]; omega)
      refine ok_lst7 61 rfl rfl rfl (ok_aload_n 62 rfl rfl rfl (ok_getR 63 rfl rfl fl_X12_72 rfl rfl (ok_iload 64 rfl rfl rfl (ok_iconst 65 rfl rfl (by decide) (ok_iload 66 rfl rfl rfl (ok_ishl 67 rfl rfl (ok_ixor 68 rfl rfl (ok_lald 69 rfl rfl rfl (by first | omega | (simp [up_if]; omega) | (simp [up_if] at *; omega)) (ok_lst9 70 rfl rfl rfl (ok_lload 71 rfl rfl rfl (ok_lconst (w := 0) 72 rfl rfl rfl (by decide) (ok_lcmp_le 73 74 151 rfl rfl rfl rfl rfl (fun h125 => ?_) (fun h125 => ?_)))))))))))))
      · refine t151 ?_
        first
          | (rw [show v = 0 by omega, Int.zero_mul]; omega)
          | exact mul_le_div (by omega) (by omega)
      · refine ok_lload 75 rfl rfl rfl (ok_ldc2 76 (9223372036854775807) rfl rfl kc_X12_239 (by decide) (ok_aload_n 77 rfl rfl rfl (ok_getR 78 rfl rfl fl_X12_72 rfl rfl (ok_iload 79 rfl rfl rfl (ok_lald 80 rfl rfl rfl (by first | omega | (simp [up_if]; omega) | (simp [up_if] at *; omega)) (ok_lsub 81 rfl rfl (by first | omega | (simp [up_if]; omega) | (simp [up_if] at *; omega)) (ok_lload 82 rfl rfl rfl (ok_ldiv 83 rfl rfl (by first | omega | (simp [up_if]; omega) | (simp [up_if] at *; omega)) (by first | omega | (simp [up_if]; omega) | (simp [up_if] at *; omega)) (ok_lcmp_le 84 85 151 rfl rfl rfl rfl rfl (fun h145 => ?_) (fun h145 => ?_))))))))))
        · refine t151 ?_
          first
            | (rw [show v = 0 by omega, Int.zero_mul]; omega)
            | exact mul_le_div (by omega) (by omega)
        · refine ok_iconst 86 rfl rfl (by decide) (ok_zret 87 rfl rfl rfl (by first | omega | (simp [up_if]; omega) | (simp [up_if] at *; omega)) ?_)
          refine ⟨_, rfl, f, Or.inl ⟨rfl, T, t1, tl, ?_⟩⟩
          have mo := sm_mo (f := PMt (σ 1 s) w T) (n := (j + 1).toNat) (m := (σ 1 s).toNat) (by omega) tnn
          have hh : 9223372036854775807 - ρ 20 T < v * ρ 20 (ixor T (ishl 1 j)) := by
            rcases (by omega : 9223372036854775807 - ρ 20 T < v * ρ 20 (ixor T (ishl 1 j)) ∨ v * ρ 20 (ixor T (ishl 1 j)) ≤ 9223372036854775807 - ρ 20 T) with q | q
            · exact q
            · rw [Int.mul_comm] at q
              have := Int.le_ediv_of_mul_le (by omega : 0 < v) q
              omega
          rw [es] at mo
          rw [pe]
          omega
    refine ok_iload 27 rfl rfl rfl (ok_aload_n 28 rfl rfl rfl (ok_getR 29 rfl rfl fl_X12_7 rfl rfl (ok_iload_n 30 rfl rfl rfl (ok_iald 31 rfl rfl rfl (by first | omega | (simp [up_if]; omega) | (simp [up_if] at *; omega)) (ok_icmp_ge 32 172 rfl rfl rfl (fun h51 => ?_) (fun h51 => ?_))))))
    · refine ok_inc4 100 rfl rfl rfl (by first | omega | (simp [up_if]; omega) | (simp [up_if] at *; omega)) (ok_goto 101 10 rfl rfl rfl ?_)
      exact ok_fg [some (vr 0), some (vi s), some (vi l), some (vi b), some (vi (T + 1)), none, none, none, none, none, none] ⟨rfl, rfl, rfl, rfl, rfl, trivial⟩ (ih (T + 1) ρ ⟨by omega, by omega, f, up_to hs ⟨by rw [h20, show j = σ 1 s by omega, pe], by rw [pe, show (σ 1 s).toNat = j.toNat by omega, ← h20]; exact hmx⟩⟩ (by omega))
    · refine ok_iload 33 rfl rfl rfl (ok_iload 34 rfl rfl rfl (ok_ishr 35 rfl rfl (ok_iconst 36 rfl rfl (by decide) (ok_iand 37 rfl rfl ?_))))
      have hbg := b_nz (s := T) (j := j) ⟨by omega, by omega⟩ ⟨by omega, by omega⟩
      refine ok_if_ne 38 67 rfl rfl rfl (fun h61 => ?_) (fun h61 => ?_)
      · have hbt : bt T j = true := hbg.1.mp h61
        have jl : j < σ 1 s := by have := e1 s; omega
        refine ok_iload_n 40 rfl rfl rfl (ok_if_eq 41 96 rfl rfl rfl (fun h68 => ?_) (fun h68 => ?_))
        · refine ok_aload_n 55 rfl rfl rfl (ok_iload_n 56 rfl rfl rfl (ok_iload 57 rfl rfl rfl (ok_iload 58 rfl rfl rfl (ok_callVI (M' := M_Mo_at) (as := [_, _, _]) 59 rfl rfl ml_X12_107 (s_Mo_at hB' ⟨u1, u2⟩ ⟨by omega, by rw [e1]; omega⟩ ⟨by omega, by rw [e1]; omega⟩) rfl rfl (Nat.le_of_ble_eq_true rfl) ⟨Nat.le_of_ble_eq_true rfl, Nat.le_of_ble_eq_true rfl⟩ rfl (Nat.le_of_ble_eq_true rfl) (fun σ' z hz => ?_)))))
          rw [hz.1, hz.2, cB_cg tk]; clear hz z σ'
          refine ok_i2l 60 rfl rfl ?_
          refine t106 _ jl hbt ?_
          rw [ew]; unfold smW
          first
            | rw [if_pos (by omega)]
            | (rw [if_neg (by omega), if_pos (by omega), hz]; rfl)
            | (rw [if_neg (by omega), if_neg (by omega), hz]; rfl)
        · refine ok_aload_n 42 rfl rfl rfl (ok_iload_n 43 rfl rfl rfl (ok_iload 44 rfl rfl rfl (ok_iload 45 rfl rfl rfl (ok_callVI (M' := M_Mo_at) (as := [_, _, _]) 46 rfl rfl ml_X12_107 (s_Mo_at hB' ⟨u1, u2⟩ ⟨by omega, by rw [e1]; omega⟩ ⟨by omega, by rw [e1]; omega⟩) rfl rfl (Nat.le_of_ble_eq_true rfl) ⟨Nat.le_of_ble_eq_true rfl, Nat.le_of_ble_eq_true rfl⟩ rfl (Nat.le_of_ble_eq_true rfl) (fun σ' z hz => ?_)))))
          rw [hz.1, hz.2, cB_cg tk]; clear hz z σ'
          refine ok_iload_n 47 rfl rfl rfl (ok_icmp_lt 48 88 rfl rfl rfl (fun h81 => ?_) (fun h81 => ?_))
          · refine ok_iconst 51 rfl rfl (by decide) (ok_callSI (M' := M_Mo_one) (as := [_]) 52 rfl rfl ml_X12_192 (s_Mo_one) ⟨Nat.le_of_ble_eq_true rfl, Nat.le_of_ble_eq_true rfl⟩ rfl (Nat.le_of_ble_eq_true rfl) (fun σ' z hz => ?_))
            obtain ⟨hs_, hz⟩ := hz
            rw [hs_]; clear hs_ σ'
            refine ok_i2l 53 rfl rfl (ok_goto 54 106 rfl rfl rfl ?_)
            refine t106 _ jl hbt ?_
            rw [ew]; unfold smW
            first
              | rw [if_pos (by omega)]
              | (rw [if_neg (by omega), if_pos (by omega), hz]; rfl)
              | (rw [if_neg (by omega), if_neg (by omega), hz]; rfl)
          · refine ok_iconst 49 rfl rfl (by decide) (ok_goto 50 89 rfl rfl rfl (ok_callSI (M' := M_Mo_one) (as := [_]) 52 rfl rfl ml_X12_192 (s_Mo_one) ⟨Nat.le_of_ble_eq_true rfl, Nat.le_of_ble_eq_true rfl⟩ rfl (Nat.le_of_ble_eq_true rfl) (fun σ' z hz => ?_)))
            obtain ⟨hs_, hz⟩ := hz
            rw [hs_]; clear hs_ σ'
            refine ok_i2l 53 rfl rfl (ok_goto 54 106 rfl rfl rfl ?_)
            refine t106 _ jl hbt ?_
            rw [ew]; unfold smW
            first
              | rw [if_pos (by omega)]
              | (rw [if_neg (by omega), if_pos (by omega), hz]; rfl)
              | (rw [if_neg (by omega), if_neg (by omega), hz]; rfl)
      · refine ok_goto 39 166 rfl rfl rfl ?_
        have t0 : PMt (σ 1 s) w T j = 0 := by unfold PMt; rw [hbg.2.mp h61]; rfl
        exact t166 ρ none none (by have := e1 s; omega) f (fun k a c => rfl) (by rw [es, t0]; omega) hmx
end
section
/-! THE GREATEST over what is open: what the sets' numbers must be, and that they are unique -/
def okO (op : Int → Int → Prop) (v : Int → Int) (T j : Int) : Prop := bt T j = false ∧ op (pc T) j ∧ 0 ≤ v (sB T j)
def dpO (n sums : Int) (op : Int → Int → Prop) (w : Int → Int → Int) (v : Int → Int) (T : Int) : Prop := (∀ j, 0 ≤ j → j < n → okO op v T j → cmbG sums (w (pc T) j) (v (sB T j)) ≤ v T) ∧ ((v T = -1 ∧ ∀ j, 0 ≤ j → j < n → ¬ okO op v T j) ∨ ∃ j, 0 ≤ j ∧ j < n ∧ okO op v T j ∧ v T = cmbG sums (w (pc T) j) (v (sB T j)))
theorem dpO_of {n l sums : Int} {w : Int → Int → Int} {v : Int → Int} {T : Int} (h : dpG n l sums w v T) : dpO n sums (fun i j => l ≤ w i j) w v T := h
theorem okO_cg {op : Int → Int → Prop} {v v' : Int → Int} {T j : Int} (e : v' (sB T j) = v (sB T j)) : okO op v' T j ↔ okO op v T j := by unfold okO; rw [e]
theorem dpO_cg {n sums : Int} {op : Int → Int → Prop} {w : Int → Int → Int} {v v' : Int → Int} {T : Int} (hn : n ≤ 8) (hT : 0 ≤ T ∧ T < 256) (e : ∀ k, T ≤ k → v' k = v k) (h : dpO n sums op w v T) : dpO n sums op w v' T := by
  have es : ∀ j, 0 ≤ j → j < n → bt T j = false → v' (sB T j) = v (sB T j) := fun j a b c => e _ (by have := (bitC hT ⟨a, by omega⟩ c).2; omega)
  refine ⟨fun j a b c => ?_, ?_⟩
  · rw [e T (Int.le_refl _), es j a b c.1]
    exact h.1 j a b ((okO_cg (es j a b c.1)).mp c)
  · rw [e T (Int.le_refl _)]
    rcases h.2 with q | ⟨j, a, b, c, d⟩
    · exact Or.inl ⟨q.1, fun j a b c => q.2 j a b ((okO_cg (es j a b c.1)).mp c)⟩
    · exact Or.inr ⟨j, a, b, (okO_cg (es j a b c.1)).mpr c, by rw [es j a b c.1]; exact d⟩
theorem dpO_un {n sums : Int} {op op' : Int → Int → Prop} {w w' : Int → Int → Int} {v v' : Int → Int} (hn : 0 ≤ n ∧ n ≤ 8) (he : ∀ i j, 0 ≤ i → i < n → 0 ≤ j → j < n → (op i j ↔ op' i j)) (hw : ∀ i j, 0 ≤ i → i < n → 0 ≤ j → j < n → w i j = w' i j) (hf : v (p2 n - 1) = v' (p2 n - 1)) (h : ∀ T, 0 ≤ T → T < p2 n - 1 → dpO n sums op w v T) (h' : ∀ T, 0 ≤ T → T < p2 n - 1 → dpO n sums op' w' v' T) : ∀ T, 0 ≤ T → T < p2 n → v T = v' T := by
  have b2 := bit2 hn
  have key : ∀ (m : Nat) (T : Int), 0 ≤ T → T < p2 n → p2 n - T ≤ (m : Int) → v T = v' T := by
    intro m
    induction m with
    | zero => intro T a b c; omega
    | succ m ih =>
      intro T a b c
      by_cases q : T = p2 n - 1
      · rw [q]; exact hf
      · have hp := bitL (s := T) (n := n) ⟨a, by omega⟩ hn
        have hp1 := hp.1 (by omega)
        have hp0 := hp.2.2.1
        have es : ∀ j, 0 ≤ j → j < n → bt T j = false → v (sB T j) = v' (sB T j) := fun j j0 jn jb => by
          have x := (bitC (s := T) (j := j) ⟨a, by omega⟩ ⟨j0, by omega⟩ jb).2
          have y := sB_lt (s := T) (j := j) (n := n) ⟨a, b⟩ ⟨j0, jn⟩
          exact ih _ y.1 y.2 (by omega)
        have eo : ∀ j, 0 ≤ j → j < n → (okO op v T j ↔ okO op' v' T j) := fun j j0 jn => by
          unfold okO
          constructor
          · rintro ⟨x, y, z⟩; exact ⟨x, (he _ j hp0 hp1 j0 jn).mp y, by rw [← es j j0 jn x]; exact z⟩
          · rintro ⟨x, y, z⟩; exact ⟨x, (he _ j hp0 hp1 j0 jn).mpr y, by rw [es j j0 jn x]; exact z⟩
        obtain ⟨a1, a2⟩ := h T a (by omega)
        obtain ⟨b1, b3⟩ := h' T a (by omega)
        have ec : ∀ j, 0 ≤ j → j < n → bt T j = false → cmbG sums (w (pc T) j) (v (sB T j)) = cmbG sums (w' (pc T) j) (v' (sB T j)) := fun j j0 jn jb => by rw [hw _ j hp0 hp1 j0 jn, es j j0 jn jb]
        rcases a2 with a2 | ⟨j, j0, jn, jo, je⟩ <;> rcases b3 with b3 | ⟨i, i0, i1, io, ie⟩
        · rw [a2.1, b3.1]
        · exact absurd ((eo i i0 i1).mpr io) (a2.2 i i0 i1)
        · exact absurd ((eo j j0 jn).mp jo) (b3.2 j j0 jn)
        · have x := b1 j j0 jn ((eo j j0 jn).mp jo)
          have y := a1 i i0 i1 ((eo i i0 i1).mpr io)
          rw [← ec j j0 jn jo.1, ← je] at x
          rw [ec i i0 i1 io.1, ← ie] at y
          omega
  exact fun T a b => key (p2 n - T).toNat T a b (by omega)
/-- the walk over the columns of one set -/
def dpQ (sums : Int) (op : Int → Int → Prop) (w : Int → Int → Int) (v : Int → Int) (T j x : Int) : Prop := -1 ≤ x ∧ (∀ j', 0 ≤ j' → j' < j → okO op v T j' → cmbG sums (w (pc T) j') (v (sB T j')) ≤ x) ∧ ((x = -1 ∧ ∀ j', 0 ≤ j' → j' < j → ¬ okO op v T j') ∨ ∃ j', 0 ≤ j' ∧ j' < j ∧ okO op v T j' ∧ x = cmbG sums (w (pc T) j') (v (sB T j')))
theorem dpQ_0 {sums T : Int} {op : Int → Int → Prop} {w : Int → Int → Int} {v : Int → Int} : dpQ sums op w v T 0 (-1) := ⟨by omega, fun j' a b => by omega, Or.inl ⟨rfl, fun j' a b => by omega⟩⟩
theorem dpQ_no {sums T j x : Int} {op : Int → Int → Prop} {w : Int → Int → Int} {v : Int → Int} (h : dpQ sums op w v T j x) (hno : ¬ okO op v T j) : dpQ sums op w v T (j + 1) x := by
  refine ⟨h.1, fun j' a b c => ?_, ?_⟩
  · rcases (by omega : j' < j ∨ j' = j) with q | q
    · exact h.2.1 j' a q c
    · rw [q] at c; exact absurd c hno
  · rcases h.2.2 with q | ⟨j', a, b, c, d⟩
    · refine Or.inl ⟨q.1, fun j' a b => ?_⟩
      rcases (by omega : j' < j ∨ j' = j) with y | y
      · exact q.2 j' a y
      · rw [y]; exact hno
    · exact Or.inr ⟨j', a, by omega, c, d⟩
theorem dpQ_yes {sums T j x y : Int} {op : Int → Int → Prop} {w : Int → Int → Int} {v : Int → Int} (h : dpQ sums op w v T j x) (hj : 0 ≤ j) (ho : okO op v T j) (hy : y = cmbG sums (w (pc T) j) (v (sB T j))) (hy0 : 0 ≤ y) : dpQ sums op w v T (j + 1) (max x y) := by
  refine ⟨by omega, fun j' a b c => ?_, ?_⟩
  · rcases (by omega : j' < j ∨ j' = j) with q | q
    · have := h.2.1 j' a q c; omega
    · rw [q, ← hy]; omega
  · by_cases m : x < y
    · exact Or.inr ⟨j, hj, by omega, ho, by rw [← hy]; omega⟩
    · rcases h.2.2 with q | ⟨j', a, b, c, d⟩
      · omega
      · exact Or.inr ⟨j', a, by omega, c, by omega⟩
theorem dpQ_O {n sums T x : Int} {op : Int → Int → Prop} {w : Int → Int → Int} {v v' : Int → Int} (hn : n ≤ 8) (hT : 0 ≤ T ∧ T < 256) (h : dpQ sums op w v T n x) (e0 : v' T = x) (e : ∀ k, T < k → v' k = v k) : dpO n sums op w v' T := by
  have es : ∀ j, 0 ≤ j → j < n → bt T j = false → v' (sB T j) = v (sB T j) := fun j a b c => e _ (by have := (bitC hT ⟨a, by omega⟩ c).2; omega)
  refine ⟨fun j a b c => ?_, ?_⟩
  · rw [e0, es j a b c.1]
    exact h.2.1 j a b ((okO_cg (es j a b c.1)).mp c)
  · rw [e0]
    rcases h.2.2 with q | ⟨j, a, b, c, d⟩
    · exact Or.inl ⟨q.1, fun j a b c => q.2 j a b ((okO_cg (es j a b c.1)).mp c)⟩
    · exact Or.inr ⟨j, a, b, (okO_cg (es j a b c.1)).mpr c, by rw [es j a b c.1]; exact d⟩
/-- what is open at a set: the row's joins without the used columns -/
theorem open_sp {J n T : Int} {op : Int → Int → Prop} (hn : 0 ≤ n ∧ n ≤ 8) (hJ : jOf J n op) (hT : 0 ≤ T ∧ T < 256) (hp : 0 ≤ pc T ∧ pc T < n) {j : Int} (hj : 0 ≤ j ∧ j < n) : (iand (ishr (iand (rowJ J (pc T)) (ixor T (-1))) j) 1 ≠ 0 ↔ (bt T j = false ∧ op (pc T) j)) ∧ (iand (ishr (iand (rowJ J (pc T)) (ixor T (-1))) j) 1 = 0 ↔ ¬ (bt T j = false ∧ op (pc T) j)) := by
  have rj := rowJ_sp (J := J) (r := pc T) ⟨by omega, by omega⟩
  have os := opn_sp rj.1 hT
  have bz := b_nz (j := j) os.1 ⟨by omega, by omega⟩
  have e : bt (iand (rowJ J (pc T)) (ixor T (-1))) j = true ↔ (bt T j = false ∧ op (pc T) j) := by
    rw [os.2 j hj.1 (by omega), rj.2 j hj.1 (by omega)]
    have := hJ.2 (pc T) j hp.1 (by omega) hj.1 (by omega)
    constructor
    · intro q
      rw [Bool.and_eq_true, Bool.not_eq_true'] at q
      exact ⟨q.2, (this.mp q.1).2.2⟩
    · rintro ⟨q1, q2⟩
      rw [Bool.and_eq_true, Bool.not_eq_true']
      exact ⟨this.mpr ⟨hp.2, hj.2, q2⟩, q1⟩
  exact ⟨bz.1.trans e, ⟨fun q w => by have := bz.1.mpr (e.mpr w); exact this q, fun q => by
    by_cases w : iand (ishr (iand (rowJ J (pc T)) (ixor T (-1))) j) 1 = 0
    · exact w
    · exact absurd (e.mp (bz.1.mp w)) q⟩⟩
theorem t_Ch_greatestLeast {σ : eS} {c : Nat} {J n : Int} {op : Int → Int → Prop} (hs : nth shA c = some (1, 64, [])) (hn : 0 ≤ n ∧ n ≤ 8) (hJ : jOf J n op) (hc18 : c ≠ 18) (hc : ∀ k : Int, 0 ≤ k → k < 64 → 0 ≤ σ c k ∧ σ c k ≤ 799999992) : MtL shA M_Ch_greatestLeast [vr 16, vr c, vl J, vi n] σ (fun σ' z => fr (fun c _ => c = 18) σ σ' ∧ z = σ' 18 0 ∧ σ' 18 (p2 n - 1) = 9223372036854775807 ∧ ∀ T, 0 ≤ T → T < p2 n - 1 → dpO n 0 op (fun i j => σ c (i * 8 + j)) (fun k => σ' 18 k) T ∧ -1 ≤ σ' 18 T ∧ σ' 18 T ≤ 799999992) := by
  refine Mt.of okM_Ch_greatestLeast (Nat.le_of_ble_eq_true rfl) (fun hk hg => ?_)
  have b2 := bit2 hn
  obtain ⟨w, ew⟩ : ∃ w : Int → Int → Int, w = fun i j => σ c (i * 8 + j) := ⟨_, rfl⟩
  rw [← ew]
  refine ok_iconst 0 rfl rfl (by decide) (ok_iload 1 rfl rfl rfl (ok_ishl 2 rfl rfl ?_))
  rw [b2.1]
  refine ok_iconst 3 rfl rfl (by decide) (ok_isub 4 rfl rfl (by first | omega | (simp [up_if]; omega) | (simp [up_if] at *; omega)) (ok_ist5 5 rfl rfl rfl (ok_aload_n 6 rfl rfl rfl (ok_getR 7 rfl rfl fl_X0_15 rfl rfl (ok_iload 8 rfl rfl rfl (ok_ldc2 9 (9223372036854775807) rfl rfl kc_X0_36 (by decide) (ok_last 10 rfl rfl rfl (by first | omega | (simp [up_if]; omega) | (simp [up_if] at *; omega)) (ok_iload 11 rfl rfl rfl (ok_iconst 12 rfl rfl (by decide) (ok_isub 13 rfl rfl (by first | omega | (simp [up_if]; omega) | (simp [up_if] at *; omega)) (ok_ist6 14 rfl rfl rfl ?_)))))))))))
  refine lpO2 (fun (s : Int) (_ : eS) => [some (vr 16), some (vr c), some (vl J), none, some (vi n), some (vi (p2 n - 1)), some (vi s), none, none, none, none, none]) (fun _ ρ => ρ) (fun s ρ => -1 ≤ s ∧ s < p2 n - 1 ∧ fr (fun c _ => c = 18) σ ρ ∧ ρ 18 (p2 n - 1) = 9223372036854775807 ∧ ∀ T, s < T → T < p2 n - 1 → dpO n 0 op w (fun k => ρ 18 k) T ∧ -1 ≤ ρ 18 T ∧ ρ 18 T ≤ 799999992) (fun s _ => (s + 1).toNat) ?_ (p2 n - 1 - 1) _ ⟨by omega, by omega, fr_up fr.rf rfl, up_same _ _ _ _, fun T a b => by omega⟩
  rintro s ρ ⟨s1, s2, f, hm, hT⟩ ih
  refine ok_iload 15 rfl rfl rfl (ok_if_lt 16 128 rfl rfl rfl (fun h26 => ?_) (fun h26 => ?_))
  · refine ok_aload_n 70 rfl rfl rfl (ok_getR 71 rfl rfl fl_X0_15 rfl rfl (ok_iconst 72 rfl rfl (by decide) (ok_lald 73 rfl rfl rfl (by first | omega | (simp [up_if]; omega) | (simp [up_if] at *; omega)) (ok_lret 74 rfl rfl rfl ?_))))
    exact ⟨_, rfl, f, rfl, hm, fun T a b => hT T (by omega) b⟩
  · refine ok_iload 17 rfl rfl rfl (ok_callSI (M' := M_Ji_bitCount) (as := [_]) 18 rfl rfl ml_X0_38 (s_Ji_bitCount) ⟨Nat.le_of_ble_eq_true rfl, Nat.le_of_ble_eq_true rfl⟩ rfl (Nat.le_of_ble_eq_true rfl) (fun σ' z hz => ?_))
    rw [hz.1, hz.2]
    clear hz z σ'
    have p1 := (bitL (s := s) ⟨by omega, by omega⟩ hn)
    have p3 := p1.1 s2
    have p4 := p1.2.2.1
    clear p1
    rw [bcP (s := s) ⟨by omega, by omega⟩]
    refine ok_ist7 19 rfl rfl rfl (ok_lload_n 20 rfl rfl rfl (ok_iload 21 rfl rfl rfl (ok_callSI (M' := M_Jo_rowOf) (as := [_, _]) 22 rfl rfl ml_X0_26 (s_Jo_rowOf) ⟨Nat.le_of_ble_eq_true rfl, Nat.le_of_ble_eq_true rfl⟩ rfl (Nat.le_of_ble_eq_true rfl) (fun σ' z hz => ?_))))
    rw [hz.1, hz.2]
    clear hz z σ'
    refine ok_iload 23 rfl rfl rfl (ok_iconst 24 rfl rfl (by decide) (ok_ixor 25 rfl rfl (ok_iand 26 rfl rfl (ok_ist8 27 rfl rfl rfl (ok_ldc2 28 (-1) rfl rfl kc_X0_44 (by decide) (ok_lst9 29 rfl rfl rfl (ok_iconst 30 rfl rfl (by decide) (ok_ist11 31 rfl rfl rfl ?_))))))))
    obtain ⟨o, eo⟩ : ∃ o : Int, o = iand (rowJ J (pc s)) (ixor s (-1)) := ⟨_, rfl⟩
    rw [← eo]
    refine lpO2 (fun (v j : Int) => [some (vr 16), some (vr c), some (vl J), none, some (vi n), some (vi (p2 n - 1)), some (vi s), some (vi (pc s)), some (vi o), some (vl v), none, some (vi j)]) (fun _ _ => ρ) (fun v j => 0 ≤ j ∧ j ≤ n ∧ v ≤ 799999992 ∧ dpQ 0 op w (fun k => ρ 18 k) s j v) (fun _ j => (8 - j).toNat) ?_ (-1) 0 ⟨by omega, by omega, by omega, dpQ_0⟩
    rintro v j ⟨j1, j2, v0, v1⟩ ih2
    refine ok_iload 32 rfl rfl rfl (ok_iload 33 rfl rfl rfl (ok_icmp_ge 34 113 rfl rfl rfl (fun h61 => ?_) (fun h61 => ?_)))
    · refine ok_aload_n 63 rfl rfl rfl (ok_getR 64 rfl rfl fl_X0_15 rfl rfl (ok_iload 65 rfl rfl rfl (ok_lload 66 rfl rfl rfl (ok_last 67 rfl rfl rfl (by first | omega | (simp [up_if]; omega) | (simp [up_if] at *; omega)) (ok_inc6 68 rfl rfl rfl (by first | omega | (simp [up_if]; omega) | (simp [up_if] at *; omega)) (ok_goto 69 24 rfl rfl rfl ?_))))))
      have ej : j = n := by omega
      rw [ej] at v1
      refine ok_fg [some (vr 16), some (vr c), some (vl J), none, some (vi n), some (vi (p2 n - 1)), some (vi (s + -1)), none, none, none, none, none] ⟨rfl, rfl, rfl, rfl, rfl, rfl, trivial⟩ (ih (s + -1) _ ⟨by omega, by omega, fr_up f rfl, by rw [up_nk _ _ _ _ (by omega)]; exact hm, fun T a b => ?_⟩ (by omega))
      by_cases q : T = s
      · rw [q]
        refine ⟨dpQ_O hn.2 ⟨by omega, by omega⟩ v1 (up_same _ _ _ _) (fun k hk => up_nk _ _ _ _ (by omega)), ?_, ?_⟩
        · rw [up_same]; exact v1.1
        · rw [up_same]; exact v0
      · obtain ⟨x1, x2, x3⟩ := hT T (by omega) b
        refine ⟨dpO_cg hn.2 ⟨by omega, by omega⟩ (fun k hk => up_nk _ _ _ _ (by omega)) x1, ?_, ?_⟩
        · rw [up_nk _ _ _ _ (by omega)]; exact x2
        · rw [up_nk _ _ _ _ (by omega)]; exact x3
    · have hop := open_sp hn hJ (T := s) ⟨by omega, by omega⟩ ⟨p4, p3⟩ (j := j) ⟨j1, by omega⟩
      rw [← eo] at hop
      have e2 := bitP (s := s) (j := j) (by omega) (by omega)
      have sl := sB_lt (s := s) (j := j) (n := n) ⟨by omega, by omega⟩ ⟨by omega, by omega⟩
      have vq := v1.1
      refine ok_iload 35 rfl rfl rfl (ok_iload 36 rfl rfl rfl (ok_ishr 37 rfl rfl (ok_iconst 38 rfl rfl (by decide) (ok_iand 39 rfl rfl (ok_if_eq 40 107 rfl rfl rfl (fun h71 => ?_) (fun h71 => ?_))))))
      · refine ok_inc11 61 rfl rfl rfl (by first | omega | (simp [up_if]; omega) | (simp [up_if] at *; omega)) (ok_goto 62 57 rfl rfl rfl ?_)
        exact ih2 _ (j + 1) ⟨by omega, by omega, v0, dpQ_no v1 (fun q => hop.2.mp h71 ⟨q.1, q.2.1⟩)⟩ (by omega)
      · refine ok_lload 41 rfl rfl rfl (ok_aload_n 42 rfl rfl rfl (ok_iload 43 rfl rfl rfl (ok_bipush 44 rfl rfl (by decide) (by decide) (ok_imul 45 rfl rfl (by first | omega | (simp [up_if]; omega) | (simp [up_if] at *; omega)) (ok_iload 46 rfl rfl rfl (ok_iadd 47 rfl rfl (by first | omega | (simp [up_if]; omega) | (simp [up_if] at *; omega)) (ok_iald 48 rfl rfl hs (by first | omega | (simp [up_if]; omega) | (simp [up_if] at *; omega)) (ok_i2l 49 rfl rfl (ok_aload_n 50 rfl rfl rfl (ok_getR 51 rfl rfl fl_X0_15 rfl rfl (ok_iload 52 rfl rfl rfl (ok_iconst 53 rfl rfl (by decide) (ok_iload 54 rfl rfl rfl (ok_ishl 55 rfl rfl (ok_ior 56 rfl rfl ?_)))))))))))))))
        rw [e2]
        refine ok_lald 57 rfl rfl rfl (by omega) (ok_mminL 58 rfl rfl ml_X0_46 ⟨Nat.le_of_ble_eq_true rfl, Nat.le_of_ble_eq_true rfl⟩ (ok_mmaxL 59 rfl rfl ml_X0_52 ⟨Nat.le_of_ble_eq_true rfl, Nat.le_of_ble_eq_true rfl⟩ (ok_lst9 60 rfl rfl rfl (ok_inc11 61 rfl rfl rfl (by first | omega | (simp [up_if]; omega) | (simp [up_if] at *; omega)) (ok_goto 62 57 rfl rfl rfl ?_)))))
        obtain ⟨ob, oo⟩ := hop.1.mp h71
        have cb := hc (pc s * 8 + j) (by omega) (by omega)
        have wj : w (pc s) j = ρ c (pc s * 8 + j) := by rw [ew, f c _ hc18]
        rw [← f c (pc s * 8 + j) hc18] at cb
        have ss := (bitC (s := s) (j := j) ⟨by omega, by omega⟩ ⟨by omega, by omega⟩ ob).2
        have vs : -1 ≤ ρ 18 (sB s j) := by
          by_cases q : sB s j = p2 n - 1
          · rw [q, hm]; decide
          · exact (hT _ ss (by omega)).2.1
        refine ih2 _ (j + 1) ⟨by omega, by omega, by omega, ?_⟩ (by omega)
        by_cases q : 0 ≤ ρ 18 (sB s j)
        · exact dpQ_yes v1 j1 ⟨ob, oo, q⟩ (by unfold cmbG; rw [if_pos rfl, wj]) (by omega)
        · have e : max v (min (ρ c (pc s * 8 + j)) (ρ 18 (sB s j))) = v := by omega
          rw [e]
          exact dpQ_no v1 (fun y => q y.2.2)
theorem t_Ch_sumUp {σ : eS} {c : Nat} {J n : Int} {op : Int → Int → Prop} (hs : nth shA c = some (1, 64, [])) (hn : 0 ≤ n ∧ n ≤ 8) (hJ : jOf J n op) (hc18 : c ≠ 18) (hc : ∀ k : Int, 0 ≤ k → k < 64 → 0 ≤ σ c k ∧ σ c k ≤ 799999992) : MtV shA M_Ch_sumUp [vr 16, vr c, vl J, vi n] σ (fun σ' => fr (fun c _ => c = 18) σ σ' ∧ σ' 18 (p2 n - 1) = 0 ∧ ∀ T, 0 ≤ T → T < p2 n - 1 → dpO n 1 op (fun i j => σ c (i * 8 + j)) (fun k => σ' 18 k) T ∧ -1 ≤ σ' 18 T ∧ σ' 18 T ≤ 799999992 * 8) := by
  refine Mt.of okM_Ch_sumUp (Nat.le_of_ble_eq_true rfl) (fun hk hg => ?_)
  have b2 := bit2 hn
  obtain ⟨w, ew⟩ : ∃ w : Int → Int → Int, w = fun i j => σ c (i * 8 + j) := ⟨_, rfl⟩
  rw [← ew]
  refine ok_iconst 0 rfl rfl (by decide) (ok_iload 1 rfl rfl rfl (ok_ishl 2 rfl rfl ?_))
  rw [b2.1]
  refine ok_iconst 3 rfl rfl (by decide) (ok_isub 4 rfl rfl (by first | omega | (simp [up_if]; omega) | (simp [up_if] at *; omega)) (ok_ist5 5 rfl rfl rfl (ok_aload_n 6 rfl rfl rfl (ok_getR 7 rfl rfl fl_X0_15 rfl rfl (ok_iload 8 rfl rfl rfl (ok_lconst (w := 0) 9 rfl rfl rfl (by decide) (ok_last 10 rfl rfl rfl (by first | omega | (simp [up_if]; omega) | (simp [up_if] at *; omega)) (ok_iload 11 rfl rfl rfl (ok_iconst 12 rfl rfl (by decide) (ok_isub 13 rfl rfl (by first | omega | (simp [up_if]; omega) | (simp [up_if] at *; omega)) (ok_ist6 14 rfl rfl rfl ?_)))))))))))
  refine lpO2 (fun (s : Int) (_ : eS) => [some (vr 16), some (vr c), some (vl J), none, some (vi n), some (vi (p2 n - 1)), some (vi s), none, none, none, none, none]) (fun _ ρ => ρ) (fun s ρ => -1 ≤ s ∧ s < p2 n - 1 ∧ fr (fun c _ => c = 18) σ ρ ∧ ρ 18 (p2 n - 1) = 0 ∧ ∀ T, s < T → T < p2 n - 1 → dpO n 1 op w (fun k => ρ 18 k) T ∧ -1 ≤ ρ 18 T ∧ ρ 18 T ≤ 799999992 * (n - pc T)) (fun s _ => (s + 1).toNat) ?_ (p2 n - 1 - 1) _ ⟨by omega, by omega, fr_up fr.rf rfl, up_same _ _ _ _, fun T a b => by omega⟩
  rintro s ρ ⟨s1, s2, f, hm, hT⟩ ih
  refine ok_iload 15 rfl rfl rfl (ok_if_lt 16 143 rfl rfl rfl (fun h24 => ?_) (fun h24 => ?_))
  · refine ok_vret 81 rfl rfl rfl ?_
    refine ⟨rfl, f, hm, fun T a b => ?_⟩
    obtain ⟨x1, x2, x3⟩ := hT T (by omega) b
    have := (bitL (s := T) (n := n) ⟨a, by omega⟩ hn).2.2.1
    exact ⟨x1, x2, by omega⟩
  · refine ok_iload 17 rfl rfl rfl (ok_callSI (M' := M_Ji_bitCount) (as := [_]) 18 rfl rfl ml_X0_38 (s_Ji_bitCount) ⟨Nat.le_of_ble_eq_true rfl, Nat.le_of_ble_eq_true rfl⟩ rfl (Nat.le_of_ble_eq_true rfl) (fun σ' z hz => ?_))
    rw [hz.1, hz.2]
    clear hz z σ'
    have p1 := (bitL (s := s) ⟨by omega, by omega⟩ hn)
    have p3 := p1.1 s2
    have p4 := p1.2.2.1
    clear p1
    rw [bcP (s := s) ⟨by omega, by omega⟩]
    refine ok_ist7 19 rfl rfl rfl (ok_lload_n 20 rfl rfl rfl (ok_iload 21 rfl rfl rfl (ok_callSI (M' := M_Jo_rowOf) (as := [_, _]) 22 rfl rfl ml_X0_26 (s_Jo_rowOf) ⟨Nat.le_of_ble_eq_true rfl, Nat.le_of_ble_eq_true rfl⟩ rfl (Nat.le_of_ble_eq_true rfl) (fun σ' z hz => ?_))))
    rw [hz.1, hz.2]
    clear hz z σ'
    refine ok_iload 23 rfl rfl rfl (ok_iconst 24 rfl rfl (by decide) (ok_ixor 25 rfl rfl (ok_iand 26 rfl rfl (ok_ist8 27 rfl rfl rfl (ok_ldc2 28 (-1) rfl rfl kc_X0_44 (by decide) (ok_lst9 29 rfl rfl rfl (ok_iconst 30 rfl rfl (by decide) (ok_ist11 31 rfl rfl rfl ?_))))))))
    obtain ⟨o, eo⟩ : ∃ o : Int, o = iand (rowJ J (pc s)) (ixor s (-1)) := ⟨_, rfl⟩
    rw [← eo]
    refine lpO2 (fun (v j : Int) => [some (vr 16), some (vr c), some (vl J), none, some (vi n), some (vi (p2 n - 1)), some (vi s), some (vi (pc s)), some (vi o), some (vl v), none, some (vi j)]) (fun _ _ => ρ) (fun v j => 0 ≤ j ∧ j ≤ n ∧ v ≤ 799999992 * (n - pc s) ∧ dpQ 1 op w (fun k => ρ 18 k) s j v) (fun _ j => (8 - j).toNat) ?_ (-1) 0 ⟨by omega, by omega, by omega, dpQ_0⟩
    rintro v j ⟨j1, j2, v0, v1⟩ ih2
    refine ok_iload 32 rfl rfl rfl (ok_iload 33 rfl rfl rfl (ok_icmp_ge 34 128 rfl rfl rfl (fun h59 => ?_) (fun h59 => ?_)))
    · refine ok_aload_n 74 rfl rfl rfl (ok_getR 75 rfl rfl fl_X0_15 rfl rfl (ok_iload 76 rfl rfl rfl (ok_lload 77 rfl rfl rfl (ok_last 78 rfl rfl rfl (by first | omega | (simp [up_if]; omega) | (simp [up_if] at *; omega)) (ok_inc6 79 rfl rfl rfl (by first | omega | (simp [up_if]; omega) | (simp [up_if] at *; omega)) (ok_goto 80 22 rfl rfl rfl ?_))))))
      have ej : j = n := by omega
      rw [ej] at v1
      refine ok_fg [some (vr 16), some (vr c), some (vl J), none, some (vi n), some (vi (p2 n - 1)), some (vi (s + -1)), none, none, none, none, none] ⟨rfl, rfl, rfl, rfl, rfl, rfl, trivial⟩ (ih (s + -1) _ ⟨by omega, by omega, fr_up f rfl, by rw [up_nk _ _ _ _ (by omega)]; exact hm, fun T a b => ?_⟩ (by omega))
      by_cases q : T = s
      · rw [q]
        refine ⟨dpQ_O hn.2 ⟨by omega, by omega⟩ v1 (up_same _ _ _ _) (fun k hk => up_nk _ _ _ _ (by omega)), ?_, ?_⟩
        · rw [up_same]; exact v1.1
        · rw [up_same]; exact v0
      · obtain ⟨x1, x2, x3⟩ := hT T (by omega) b
        refine ⟨dpO_cg hn.2 ⟨by omega, by omega⟩ (fun k hk => up_nk _ _ _ _ (by omega)) x1, ?_, ?_⟩
        · rw [up_nk _ _ _ _ (by omega)]; exact x2
        · rw [up_nk _ _ _ _ (by omega)]; exact x3
    · have hop := open_sp hn hJ (T := s) ⟨by omega, by omega⟩ ⟨p4, p3⟩ (j := j) ⟨j1, by omega⟩
      rw [← eo] at hop
      have e2 := bitP (s := s) (j := j) (by omega) (by omega)
      have sl := sB_lt (s := s) (j := j) (n := n) ⟨by omega, by omega⟩ ⟨by omega, by omega⟩
      have vq := v1.1
      refine ok_iload 35 rfl rfl rfl (ok_iload 36 rfl rfl rfl (ok_ishr 37 rfl rfl (ok_iconst 38 rfl rfl (by decide) (ok_iand 39 rfl rfl (ok_if_eq 40 122 rfl rfl rfl (fun h69 => ?_) (fun h69 => ?_))))))
      · refine ok_inc11 72 rfl rfl rfl (by first | omega | (simp [up_if]; omega) | (simp [up_if] at *; omega)) (ok_goto 73 55 rfl rfl rfl ?_)
        exact ih2 _ (j + 1) ⟨by omega, by omega, v0, dpQ_no v1 (fun q => hop.2.mp h69 ⟨q.1, q.2.1⟩)⟩ (by omega)
      · obtain ⟨ob, oo⟩ := hop.1.mp h69
        have cb := hc (pc s * 8 + j) (by omega) (by omega)
        have wj : w (pc s) j = ρ c (pc s * 8 + j) := by rw [ew, f c _ hc18]
        rw [← f c (pc s * 8 + j) hc18] at cb
        have ss := (bitC (s := s) (j := j) ⟨by omega, by omega⟩ ⟨by omega, by omega⟩ ob)
        have vs : -1 ≤ ρ 18 (sB s j) ∧ ρ 18 (sB s j) ≤ 799999992 * (n - pc s - 1) := by
          by_cases q : sB s j = p2 n - 1
          · rw [q, hm]; omega
          · have := (hT _ ss.2 (by omega)).2; omega
        refine ok_aload_n 41 rfl rfl rfl (ok_getR 42 rfl rfl fl_X0_15 rfl rfl (ok_iload 43 rfl rfl rfl (ok_iconst 44 rfl rfl (by decide) (ok_iload 45 rfl rfl rfl (ok_ishl 46 rfl rfl (ok_ior 47 rfl rfl ?_))))))
        rw [e2]
        refine ok_lald 48 rfl rfl rfl (by omega) (ok_ldc2 49 (-1) rfl rfl kc_X0_44 (by decide) (ok_lcmp_eq 50 51 122 rfl rfl rfl rfl rfl (fun h87 => ?_) (fun h87 => ?_)))
        · refine ok_inc11 72 rfl rfl rfl (by first | omega | (simp [up_if]; omega) | (simp [up_if] at *; omega)) (ok_goto 73 55 rfl rfl rfl ?_)
          exact ih2 _ (j + 1) ⟨by omega, by omega, v0, dpQ_no v1 (fun y => by have y3 : 0 ≤ ρ 18 (sB s j) := y.2.2; omega)⟩ (by omega)
        · refine ok_lload 52 rfl rfl rfl (ok_aload_n 53 rfl rfl rfl (ok_iload 54 rfl rfl rfl (ok_bipush 55 rfl rfl (by decide) (by decide) (ok_imul 56 rfl rfl (by first | omega | (simp [up_if]; omega) | (simp [up_if] at *; omega)) (ok_iload 57 rfl rfl rfl (ok_iadd 58 rfl rfl (by first | omega | (simp [up_if]; omega) | (simp [up_if] at *; omega)) (ok_iald 59 rfl rfl hs (by first | omega | (simp [up_if]; omega) | (simp [up_if] at *; omega)) (ok_i2l 60 rfl rfl (ok_aload_n 61 rfl rfl rfl (ok_getR 62 rfl rfl fl_X0_15 rfl rfl (ok_iload 63 rfl rfl rfl (ok_iconst 64 rfl rfl (by decide) (ok_iload 65 rfl rfl rfl (ok_ishl 66 rfl rfl (ok_ior 67 rfl rfl ?_)))))))))))))))
          rw [e2]
          refine ok_lald 68 rfl rfl rfl (by omega) (ok_ladd 69 rfl rfl (by first | omega | (simp [up_if]; omega) | (simp [up_if] at *; omega)) (ok_mmaxL 70 rfl rfl ml_X0_52 ⟨Nat.le_of_ble_eq_true rfl, Nat.le_of_ble_eq_true rfl⟩ (ok_lst9 71 rfl rfl rfl (ok_inc11 72 rfl rfl rfl (by first | omega | (simp [up_if]; omega) | (simp [up_if] at *; omega)) (ok_goto 73 55 rfl rfl rfl ?_)))))
          exact ih2 _ (j + 1) ⟨by omega, by omega, by omega, dpQ_yes v1 j1 ⟨ob, oo, by show 0 ≤ ρ 18 (sB s j); omega⟩ (by unfold cmbG; rw [if_neg (by decide), wj]) (by omega)⟩ (by omega)
end
section
/-! FIRST CHOICES -/
def fstC (n : Int) (good : Int → Int → Prop) (ch : Int → Int) : Prop := ∀ i : Int, 0 ≤ i → i < n → 0 ≤ ch i ∧ ch i < n ∧ good (cs ch i.toNat) (ch i) ∧ ∀ j, 0 ≤ j → j < ch i → ¬ good (cs ch i.toNat) j
theorem lex_fst {n : Int} {op : Int → Int → Prop} {ch : Int → Int} (h : lexCh n op ch) : fstC n (okJ n op) ch := h
theorem cs_n (f : Int → Int) (m : Nat) : cs f (m + 1) = sB (cs f m) (f m) := rfl
theorem cs_in {n : Int} {ch : Int → Int} (hn : 0 ≤ n ∧ n ≤ 8) : ∀ m : Nat, (m : Int) ≤ n → (∀ i : Int, 0 ≤ i → i < m → 0 ≤ ch i ∧ ch i < n ∧ bt (cs ch i.toNat) (ch i) = false) → 0 ≤ cs ch m ∧ cs ch m < p2 n ∧ pc (cs ch m) = m
  | 0, _, _ => by
    have := bit2 hn
    exact ⟨Int.le_refl _, by show (0 : Int) < p2 n; omega, pc_0⟩
  | m + 1, h, hi => by
    have b := bit2 hn
    obtain ⟨a1, a2, a3⟩ := cs_in hn m (by omega) (fun i x y => hi i x (by omega))
    obtain ⟨c1, c2, c3⟩ := hi m (by omega) (by omega)
    rw [Int.toNat_natCast] at c3
    have s := sB_lt (s := cs ch m) (j := ch m) (n := n) ⟨a1, a2⟩ ⟨c1, c2⟩
    have p := (bitC (s := cs ch m) (j := ch m) ⟨a1, by omega⟩ ⟨c1, by omega⟩ c3).1
    rw [cs_n]
    exact ⟨s.1, s.2, by omega⟩
theorem fst_un {n : Int} {good good' : Int → Int → Prop} {ch ch' : Int → Int} (hn : 0 ≤ n ∧ n ≤ 8) (hb : ∀ T j, good T j → bt T j = false) (e : ∀ T j, 0 ≤ T → T < p2 n → 0 ≤ pc T → pc T < n → 0 ≤ j → j < n → (good T j ↔ good' T j)) (h : fstC n good ch) (h' : fstC n good' ch') : ∀ i, 0 ≤ i → i < n → ch i = ch' i := by
  have key : ∀ m : Nat, (m : Int) ≤ n → ∀ k : Int, 0 ≤ k → k < m → ch k = ch' k := by
    intro m
    induction m with
    | zero => intro _ k a b; omega
    | succ m ih =>
      intro hm k a b
      have ihm := ih (by omega)
      rcases (by omega : k < m ∨ k = m) with q | q
      · exact ihm k a q
      · rw [q]
        have ec : cs ch m = cs ch' m := cs_cg ihm
        obtain ⟨t1, t2, t3⟩ := cs_in (ch := ch) hn m (by omega) (fun i x y => by have := h i x (by omega); exact ⟨this.1, this.2.1, hb _ _ this.2.2.1⟩)
        obtain ⟨a1, a2, a3, a4⟩ := h m (by omega) (by omega)
        obtain ⟨b1, b2, b3, b4⟩ := h' m (by omega) (by omega)
        rw [Int.toNat_natCast] at a3 a4 b3 b4
        rw [← ec] at b3 b4
        rcases (by omega : ch m < ch' m ∨ ch m = ch' m ∨ ch' m < ch m) with w | w | w
        · exact absurd ((e _ _ t1 t2 (by omega) (by omega) a1 a2).mp a3) (b4 _ a1 w)
        · exact w
        · exact absurd ((e _ _ t1 t2 (by omega) (by omega) b1 b2).mpr b3) (a4 _ b1 w)
  exact fun i a b => key n.toNat (by omega) i a (by omega)
theorem cpl_cg {n : Int} {op op' : Int → Int → Prop} (e : ∀ i j, 0 ≤ i → i < n → 0 ≤ j → j < n → (op i j ↔ op' i j)) : ∀ (m : Nat) (S : Int), (m : Int) ≤ n → (cpl n op m S ↔ cpl n op' m S)
  | 0, S, _ => Iff.rfl
  | m + 1, S, h => by
    unfold cpl
    constructor
    · rintro ⟨j, a, b, c, d, f⟩; exact ⟨j, a, b, c, (e _ j (by omega) (by omega) a b).mp d, (cpl_cg e m _ (by omega)).mp f⟩
    · rintro ⟨j, a, b, c, d, f⟩; exact ⟨j, a, b, c, (e _ j (by omega) (by omega) a b).mpr d, (cpl_cg e m _ (by omega)).mpr f⟩
theorem okJ_cg {n T j : Int} {op op' : Int → Int → Prop} (e : ∀ i j, 0 ≤ i → i < n → 0 ≤ j → j < n → (op i j ↔ op' i j)) (hT : 0 ≤ pc T ∧ pc T < n) (hj : 0 ≤ j ∧ j < n) : okJ n op T j ↔ okJ n op' T j := by
  unfold okJ
  rw [e _ j hT.1 hT.2 hj.1 hj.2, cpl_cg e _ _ (by omega)]
/-- first choices over the same joins are the same -/
theorem lex_un {n : Int} {op op' : Int → Int → Prop} {ch ch' : Int → Int} (hn : 0 ≤ n ∧ n ≤ 8) (e : ∀ i j, 0 ≤ i → i < n → 0 ≤ j → j < n → (op i j ↔ op' i j)) (h : fstC n (okJ n op) ch) (h' : fstC n (okJ n op') ch') : ∀ i, 0 ≤ i → i < n → ch i = ch' i :=
  fst_un hn (fun T j q => q.1) (fun T j a b c d x y => okJ_cg e ⟨c, d⟩ ⟨x, y⟩) h h'
theorem cpl_tail {n : Int} {op : Int → Int → Prop} {ch : Int → Int} (hn : 0 ≤ n) (h : ∀ i : Int, 0 ≤ i → i < n → 0 ≤ ch i ∧ ch i < n ∧ bt (cs ch i.toNat) (ch i) = false ∧ op i (ch i)) : ∀ m : Nat, (m : Int) ≤ n → cpl n op m (cs ch (n.toNat - m))
  | 0, _ => trivial
  | m + 1, hm => by
    have c := cpl_tail hn h m (by omega)
    obtain ⟨a1, a2, a3, a4⟩ := h (n - ((m + 1 : Nat) : Int)) (by omega) (by omega)
    refine ⟨ch (n - ((m + 1 : Nat) : Int)), a1, a2, ?_, a4, ?_⟩
    · rw [show (n - ((m + 1 : Nat) : Int)).toNat = n.toNat - (m + 1) by omega] at a3; exact a3
    · have e : n.toNat - m = (n.toNat - (m + 1)) + 1 := by omega
      rw [e, cs_n] at c
      rw [show ((n.toNat - (m + 1) : Nat) : Int) = n - ((m + 1 : Nat) : Int) by omega] at c
      exact c
theorem bit_sx : ∀ s : Fin 256, ∀ j : Fin 8, bt (s.val : Int) (j.val : Int) = false → ixor (sB (s.val : Int) (j.val : Int)) (ishl 1 (j.val : Int)) = (s.val : Int) := by decide +kernel
theorem bitSx {s j : Int} (h1 : 0 ≤ s ∧ s < 256) (h2 : 0 ≤ j ∧ j < 8) (h : bt s j = false) : ixor (sB s j) (ishl 1 j) = s := fin2 (P := fun s j => bt s j = false → ixor (sB s j) (ishl 1 j) = s) bit_sx h1.1 h1.2 h2.1 h2.2 h
theorem sm_pt {f g : Int → Int} {x d : Int} : ∀ {n : Nat}, 0 ≤ x → x < n → g x = f x + d → (∀ k : Int, 0 ≤ k → k < n → k ≠ x → g k = f k) → sm g n = sm f n + d
  | 0, a, b, _, _ => by omega
  | n + 1, a, b, c, e => by
    show sm g n + g n = sm f n + f n + d
    by_cases q : x = n
    · have : sm g n = sm f n := sm_cg (fun k y z => e k y (by omega) (by omega))
      rw [this, ← q, c]; omega
    · rw [sm_pt (f := f) (g := g) (x := x) (d := d) a (by omega) c (fun k y z w => e k y (by omega) w), e n (by omega) (by omega) (fun z => q z.symm)]
      omega
def nxG (σ : eS) (o u j : Int) : Prop := iand (ishr o j) 1 ≠ 0 ∧ σ 19 (ior u (ishl 1 j)) ≠ σ 16 3
theorem t_Ch_nextColumn {σ : eS} {o u f n : Int} (hu : 0 ≤ u ∧ u < 256) (hf : 0 ≤ f ∧ f ≤ n) (hn : 0 ≤ n ∧ n ≤ 8) : MtI shA M_Ch_nextColumn [vr 16, vi o, vi u, vi f, vi n] σ (fun σ' z => σ' = σ ∧ f ≤ z ∧ z ≤ n ∧ (∀ j, f ≤ j → j < z → ¬ nxG σ o u j) ∧ (z < n → nxG σ o u z)) := by
  refine Mt.of okM_Ch_nextColumn (Nat.le_of_ble_eq_true rfl) (fun hk hg => ?_)
  refine ok_iload_n 0 rfl rfl rfl (ok_ist5 1 rfl rfl rfl ?_)
  refine lpO (fun j : Int => [some (vr 16), some (vi o), some (vi u), some (vi f), some (vi n), some (vi j)]) (fun _ => σ) (fun j => f ≤ j ∧ j ≤ n ∧ ∀ i, f ≤ i → i < j → ¬ nxG σ o u i) (fun j => (8 - j).toNat) ?_ f ⟨by omega, by omega, fun i a b => by omega⟩
  rintro j ⟨j1, j2, j3⟩ ih
  refine ok_iload 2 rfl rfl rfl (ok_iload 3 rfl rfl rfl (ok_icmp_ge 4 46 rfl rfl rfl (fun h7 => ?_) (fun h7 => ?_)))
  · refine ok_iload 26 rfl rfl rfl (ok_iret 27 rfl rfl rfl ?_)
    exact ⟨_, rfl, rfl, by omega, by omega, fun i a b => j3 i a (by omega), fun q => by omega⟩
  · have b := or8 hu (j := j) ⟨by omega, by omega⟩
    refine ok_iload_n 5 rfl rfl rfl (ok_iload 6 rfl rfl rfl (ok_ishr 7 rfl rfl (ok_iconst 8 rfl rfl (by decide) (ok_iand 9 rfl rfl (ok_if_eq 10 40 rfl rfl rfl (fun h16 => ?_) (fun h16 => ?_))))))
    · refine ok_inc5 24 rfl rfl rfl (by first | omega | (simp [up_if]; omega) | (simp [up_if] at *; omega)) (ok_goto 25 3 rfl rfl rfl ?_)
      exact ih (j + 1) ⟨by omega, by omega, lt_ext j3 (fun q => q.1 h16)⟩ (by omega)
    · refine ok_aload_n 11 rfl rfl rfl (ok_getR 12 rfl rfl fl_X0_19 rfl rfl (ok_iload_n 13 rfl rfl rfl (ok_iconst 14 rfl rfl (by decide) (ok_iload 15 rfl rfl rfl (ok_ishl 16 rfl rfl (ok_ior 17 rfl rfl (ok_iald 18 rfl rfl rfl (by first | omega | (simp [up_if]; omega) | (simp [up_if] at *; omega)) (ok_aload_n 19 rfl rfl rfl (ok_getI 20 rfl rfl fl_X0_22 rfl rfl (Or.inl rfl) (ok_icmp_eq 21 40 rfl rfl rfl (fun h34 => ?_) (fun h34 => ?_)))))))))))
      · refine ok_inc5 24 rfl rfl rfl (by first | omega | (simp [up_if]; omega) | (simp [up_if] at *; omega)) (ok_goto 25 3 rfl rfl rfl ?_)
        exact ih (j + 1) ⟨by omega, by omega, lt_ext j3 (fun q => q.2 h34)⟩ (by omega)
      · refine ok_iload 22 rfl rfl rfl (ok_iret 23 rfl rfl rfl ?_)
        exact ⟨_, rfl, rfl, j1, by omega, j3, fun _ => ⟨h16, h34⟩⟩
abbrev rgFf : Nat → Int → Prop := fun c k => (c = 16 ∧ k = 3) ∨ c = 17 ∨ c = 19
def FF (σ : eS) (n : Int) (op : Int → Int → Prop) (σ' : eS) (z : Int) : Prop := fr rgFf σ σ' ∧ iCh σ' ∧ σ' 16 3 = σ 16 3 + 1 ∧ iSe σ' ∧ ((z = 0 ∧ ¬ cpl n op n.toNat 0) ∨ (z = 1 ∧ cpl n op n.toNat 0 ∧ fstC n (okJ n op) (fun i => σ' 17 i)))
def dd (ρ : eS) (q : Int) : Int → Int := fun T => if ρ 19 T = q then 1 else 0
theorem dd_bd (ρ : eS) (q : Int) : 0 ≤ sm (dd ρ q) 256 ∧ sm (dd ρ q) 256 ≤ 256 := by
  have := sm_bd (f := dd ρ q) (B := 1) (by decide) (n := 256) (fun k a b => by unfold dd; split <;> omega)
  omega
/-- behind the whole search: the prefix of rows that have columns -/
def pre (n : Int) (op : Int → Int → Prop) (ch : Int → Int) (r : Int) : Prop := ∀ i : Int, 0 ≤ i → i < r → 0 ≤ ch i ∧ ch i < n ∧ bt (cs ch i.toNat) (ch i) = false ∧ op i (ch i) ∧ ∀ j, 0 ≤ j → j < ch i → ¬ okJ n op (cs ch i.toNat) j
theorem pre_fst {n : Int} {op : Int → Int → Prop} {ch : Int → Int} (hn : 0 ≤ n ∧ n ≤ 8) (h : pre n op ch n) : cpl n op n.toNat 0 ∧ fstC n (okJ n op) ch := by
  have tl := cpl_tail (op := op) (ch := ch) hn.1 (fun i a b => by have := h i a b; exact ⟨this.1, this.2.1, this.2.2.1, this.2.2.2.1⟩)
  refine ⟨?_, fun i a b => ?_⟩
  · have := tl n.toNat (by omega)
    rw [Nat.sub_self] at this
    exact this
  · obtain ⟨x1, x2, x3, x4, x5⟩ := h i a b
    have ci := (cs_in (ch := ch) hn i.toNat (by omega) (fun k y z => by have := h k y (by omega); exact ⟨this.1, this.2.1, this.2.2.1⟩)).2.2
    refine ⟨x1, x2, ⟨x3, by rw [ci, show ((i.toNat : Nat) : Int) = i by omega]; exact x4, ?_⟩, x5⟩
    have := tl (n - i - 1).toNat (by omega)
    rw [show n.toNat - (n - i - 1).toNat = i.toNat + 1 by omega, cs_n, show ((i.toNat : Nat) : Int) = i by omega] at this
    rw [ci, show ((i.toNat : Nat) : Int) = i by omega]
    exact this
theorem pre_cg {n r : Int} {op : Int → Int → Prop} {ch ch' : Int → Int} (h : pre n op ch r) (e : ∀ k, 0 ≤ k → k < r → ch' k = ch k) : pre n op ch' r := fun i a b => by
  have ec : cs ch' i.toNat = cs ch i.toNat := cs_cg (fun k x y => e k x (by omega))
  rw [ec, e i a b]
  exact h i a b
theorem t_Ch_findFirst {σ : eS} {J n : Int} {op : Int → Int → Prop} (hC : iCh σ) (hn : 0 ≤ n ∧ n ≤ 8) (hJ : jOf J n op) (hS : iSe σ) (hS2 : σ 16 3 < 2147483647) : MtI shA M_Ch_findFirst [vr 16, vl J, vi n] σ (FF σ n op) := by
  refine Mt.of okM_Ch_findFirst (Nat.le_of_ble_eq_true rfl) (fun hk hg => ?_)
  have b2 := bit2 hn
  obtain ⟨q, eq⟩ : ∃ q, q = σ 16 3 + 1 := ⟨_, rfl⟩
  refine ok_aload_n 0 rfl rfl rfl (ok_dup 1 rfl rfl rfl (ok_getI 2 rfl rfl fl_X0_22 rfl rfl (Or.inl rfl) (ok_iconst 3 rfl rfl (by decide) (ok_iadd 4 rfl rfl (by have := hS.1; omega) (ok_putI 5 rfl rfl fl_X0_22 rfl rfl rfl rfl (ok_iconst 6 rfl rfl (by decide) (ok_ist4 7 rfl rfl rfl (ok_iconst 8 rfl rfl (by decide) (ok_ist5 9 rfl rfl rfl (ok_iconst 10 rfl rfl (by decide) (ok_ist6 11 rfl rfl rfl (ok_iconst 12 rfl rfl (by decide) (ok_ist7 13 rfl rfl rfl ?_)))))))))))))
  obtain ⟨σ1, e1⟩ : ∃ x, x = up σ 16 3 (σ 16 3 + 1) := ⟨_, rfl⟩
  rw [← e1]
  have h3 : σ1 16 3 = q := by rw [e1, up_same, eq]
  have h17 : ∀ k, σ1 17 k = σ 17 k := fun k => by rw [e1, up_ne _ _ _ _ (by decide)]
  have h19 : ∀ k, σ1 19 k = σ 19 k := fun k => by rw [e1, up_ne _ _ _ _ (by decide)]
  have f0 : fr rgFf σ σ1 := by rw [e1]; exact fr_up fr.rf (by simp [rgFf])
  have d0 : sm (dd σ1 q) 256 = 0 := by
    have : sm (dd σ1 q) 256 = sm (fun _ => 0) 256 := sm_cg (fun k a b => by unfold dd; rw [if_neg (by rw [h19]; have := hS.2 k a (by omega); omega)])
    rw [this]
    have z : ∀ m : Nat, sm (fun _ => (0 : Int)) m = 0 := by
      intro m
      induction m with
      | zero => rfl
      | succ m ih => show sm (fun _ => (0 : Int)) m + 0 = 0; rw [ih]; rfl
    exact z 256
  clear e1
  refine lpO5 (fun (u r w k : Int) (_ : eS) => [some (vr 16), some (vl J), none, some (vi n), some (vi u), some (vi r), some (vi w), some (vi k), none]) (fun _ _ _ _ ρ => ρ) (fun u r w k ρ => 0 ≤ r ∧ r ≤ n ∧ 0 ≤ w ∧ w ≤ n ∧ 0 ≤ k ∧ k ≤ 520 ∧ fr rgFf σ ρ ∧ iCh ρ ∧ ρ 16 3 = q ∧ (∀ T, 0 ≤ T → T < 256 → ρ 19 T ≤ q) ∧ u = cs (fun i => ρ 17 i) r.toNat ∧ pre n op (fun i => ρ 17 i) r ∧ (∀ j, 0 ≤ j → j < w → ¬ okJ n op u j) ∧ (∀ T, 0 ≤ T → T < p2 n → ρ 19 T = q → ¬ cpl n op (n - pc T).toNat T) ∧ (∀ i, 0 ≤ i → i ≤ r → ρ 19 (cs (fun i => ρ 17 i) i.toNat) ≠ q) ∧ k = 2 * sm (dd ρ q) 256 + r) (fun _ _ _ k _ => (520 - k).toNat) ?_ 0 0 0 0 σ1 ⟨by omega, by omega, by omega, by omega, by omega, by omega, f0, iCh_cg hC h17, h3, fun T a b => by rw [h19]; have := hS.2 T a b; omega, rfl, fun i a b => by omega, fun j a b => by omega, fun T a b c => by rw [h19] at c; have := hS.2 T a (by omega); omega, fun i a b => by rw [show i = 0 by omega]; show σ1 19 0 ≠ q; rw [h19]; have := hS.2 0 (by omega) (by omega); omega, by omega⟩
  clear h3 h17 h19 f0 d0 σ1
  rintro u r w k ρ ⟨r1, r2, w1, w2, k1, k2, f, hC1, h3, hq, eu, hP, hw, hdead, hlive, hk⟩ ih
  have db := dd_bd ρ q
  obtain ⟨c1, c2, c3⟩ := cs_in (ch := fun i => ρ 17 i) hn r.toNat (by omega) (fun i a b => by have := hP i a (by omega); exact ⟨this.1, this.2.1, this.2.2.1⟩)
  rw [← eu] at c1 c2 c3
  have pu : pc u = r := by omega
  have u256 : 0 ≤ u ∧ u < 256 := ⟨c1, by omega⟩
  refine ok_iload 14 rfl rfl rfl (ok_sipush 15 rfl rfl (by decide) (by decide) (ok_icmp_ge 16 143 rfl rfl rfl (fun h27 => ?_) (fun h27 => ?_)))
  · have rn : r = n := by omega
    rw [rn] at hP
    refine ok_iload 80 rfl rfl rfl (ok_iload_n 81 rfl rfl rfl (ok_icmp_ne 82 153 rfl rfl rfl (fun h146 => ?_) (fun h146 => ?_)))
    · exact absurd rn h146
    · refine ok_iconst 83 rfl rfl (by decide) (ok_goto 84 154 rfl rfl rfl (ok_zret 86 rfl rfl rfl (by first | omega | (simp [up_if]; omega) | (simp [up_if] at *; omega)) ?_))
      exact ⟨_, rfl, f, hC1, by omega, ⟨by rw [h3]; have := hS.1; omega, fun T a b => by rw [h3]; exact hq T a b⟩, Or.inr ⟨rfl, pre_fst hn hP⟩⟩
  · refine ok_iload 17 rfl rfl rfl (ok_iload_n 18 rfl rfl rfl (ok_icmp_ge 19 143 rfl rfl rfl (fun h33 => ?_) (fun h33 => ?_)))
    · have rn : r = n := by omega
      rw [rn] at hP
      refine ok_iload 80 rfl rfl rfl (ok_iload_n 81 rfl rfl rfl (ok_icmp_ne 82 153 rfl rfl rfl (fun h146 => ?_) (fun h146 => ?_)))
      · exact absurd rn h146
      · refine ok_iconst 83 rfl rfl (by decide) (ok_goto 84 154 rfl rfl rfl (ok_zret 86 rfl rfl rfl (by first | omega | (simp [up_if]; omega) | (simp [up_if] at *; omega)) ?_))
        exact ⟨_, rfl, f, hC1, by omega, ⟨by rw [h3]; have := hS.1; omega, fun T a b => by rw [h3]; exact hq T a b⟩, Or.inr ⟨rfl, pre_fst hn hP⟩⟩
    · refine ok_aload_n 20 rfl rfl rfl (ok_lload_n 21 rfl rfl rfl (ok_iload 22 rfl rfl rfl (ok_callSI (M' := M_Jo_rowOf) (as := [_, _]) 23 rfl rfl ml_X0_26 (s_Jo_rowOf) ⟨Nat.le_of_ble_eq_true rfl, Nat.le_of_ble_eq_true rfl⟩ rfl (Nat.le_of_ble_eq_true rfl) (fun σ' z hz => ?_))))
      rw [hz.1, hz.2]
      clear hz z σ'
      refine ok_iload 24 rfl rfl rfl (ok_iconst 25 rfl rfl (by decide) (ok_ixor 26 rfl rfl (ok_iand 27 rfl rfl (ok_iload 28 rfl rfl rfl (ok_iload 29 rfl rfl rfl (ok_iload_n 30 rfl rfl rfl ?_))))))
      have ow : iand (rowJ J r) (ixor u (-1)) = iand (rowJ J (pc u)) (ixor u (-1)) := by rw [pu]
      have hop : ∀ j, 0 ≤ j → j < n → (nxG ρ (iand (rowJ J r) (ixor u (-1))) u j ↔ (bt u j = false ∧ op r j ∧ ρ 19 (sB u j) ≠ q)) := fun j a b => by
        unfold nxG
        rw [ow, (open_sp hn hJ u256 ⟨by omega, by omega⟩ ⟨a, b⟩).1, bitP u256 ⟨a, by omega⟩, h3, pu]
        exact and_assoc
      have hno : ∀ j, 0 ≤ j → j < n → ¬ nxG ρ (iand (rowJ J r) (ixor u (-1))) u j → ¬ okJ n op u j := fun j a b c d => by
        rw [hop j a b] at c
        obtain ⟨d1, d2, d3⟩ := d
        rw [pu] at d2 d3
        refine c ⟨d1, d2, fun e => ?_⟩
        have sl := sB_lt (s := u) (j := j) (n := n) ⟨c1, c2⟩ ⟨a, b⟩
        have sp := (bitC u256 (j := j) ⟨a, by omega⟩ d1).1
        refine hdead _ sl.1 sl.2 e ?_
        rw [sp, pu, show n - (r + 1) = n - r - 1 by omega]
        exact d3
      refine ok_callVI (M' := M_Ch_nextColumn) (as := [_, _, _, _]) 31 rfl rfl ml_X0_32 (t_Ch_nextColumn u256 ⟨w1, w2⟩ hn) rfl rfl (Nat.le_of_ble_eq_true rfl) ⟨Nat.le_of_ble_eq_true rfl, Nat.le_of_ble_eq_true rfl⟩ rfl (Nat.le_of_ble_eq_true rfl) (fun σ' z hz => ?_)
      obtain ⟨hs_, hz⟩ := hz
      rw [hs_]; clear hs_ σ'
      obtain ⟨z1, z2, z3, z4⟩ := hz
      have hbelow : ∀ j, 0 ≤ j → j < z → ¬ okJ n op u j := fun j a b => by
        by_cases x : j < w
        · exact hw j a x
        · exact hno j a (by omega) (z3 j (by omega) b)
      refine ok_ist8 32 rfl rfl rfl (ok_iload 33 rfl rfl rfl (ok_iload_n 34 rfl rfl rfl (ok_icmp_ge 35 91 rfl rfl rfl (fun h61 => ?_) (fun h61 => ?_))))
      · have zn : z = n := by omega
        have hcpl : ¬ cpl n op (n - pc u).toNat u := fun x => by
          obtain ⟨j, a, b, c⟩ := (cpl_iff (by omega) (by omega)).mp x
          exact hbelow j a (by omega) c
        refine ok_iload 51 rfl rfl rfl (ok_if_ne 52 98 rfl rfl rfl (fun h93 => ?_) (fun h93 => ?_))
        · have c := hC1 (r + -1) (by omega) (by omega)
          have e : ∀ x, up ρ 19 u x 17 (r + -1) = ρ 17 (r + -1) := fun x => up_ne _ _ _ _ (by decide)
          obtain ⟨y1, y2, y3, y4, y5⟩ := hP (r + -1) (by omega) (by omega)
          have y1 : 0 ≤ ρ 17 (r + -1) := y1
          have y2 : ρ 17 (r + -1) < n := y2
          have eu2 : u = sB (cs (fun i => ρ 17 i) (r + -1).toNat) (ρ 17 (r + -1)) := by
            have := cs_s (fun i => ρ 17 i) (i := r + -1) (by omega)
            rw [show r + -1 + 1 = r by omega, ← eu] at this
            exact this
          obtain ⟨v1, v2, v3⟩ := cs_in (ch := fun i => ρ 17 i) hn (r + -1).toNat (by omega) (fun i a b => by have := hP i a (by omega); exact ⟨this.1, this.2.1, this.2.2.1⟩)
          have ex := bitSx (s := cs (fun i => ρ 17 i) (r + -1).toNat) (j := ρ 17 (r + -1)) ⟨v1, by omega⟩ ⟨by omega, by omega⟩ y3
          rw [← eu2] at ex
          refine ok_aload_n 55 rfl rfl rfl (ok_getR 56 rfl rfl fl_X0_19 rfl rfl (ok_iload 57 rfl rfl rfl (ok_aload_n 58 rfl rfl rfl (ok_getI 59 rfl rfl fl_X0_22 rfl rfl (Or.inl rfl) (ok_iast 60 rfl rfl rfl (by omega) (ok_inc5 61 rfl rfl rfl (by first | omega | (simp [up_if]; omega) | (simp [up_if] at *; omega)) (ok_iload 62 rfl rfl rfl (ok_iconst 63 rfl rfl (by decide) (ok_aload_n 64 rfl rfl rfl (ok_getR 65 rfl rfl fl_X0_9 rfl rfl (ok_iload 66 rfl rfl rfl (ok_iald 67 rfl rfl rfl (by first | omega | (simp [up_if]; omega) | (simp [up_if] at *; omega)) (ok_ishl 68 rfl rfl (ok_ixor 69 rfl rfl (ok_ist4 70 rfl rfl rfl (ok_aload_n 71 rfl rfl rfl (ok_getR 72 rfl rfl fl_X0_9 rfl rfl (ok_iload 73 rfl rfl rfl (ok_iald 74 rfl rfl rfl (by first | omega | (simp [up_if]; omega) | (simp [up_if] at *; omega)) (ok_iconst 75 rfl rfl (by decide) (ok_iadd 76 rfl rfl (by first | omega | (simp [up_if]; omega) | (simp [up_if] at *; omega)) (ok_ist6 77 rfl rfl rfl (ok_inc7 78 rfl rfl rfl (by first | omega | (simp [up_if]; omega) | (simp [up_if] at *; omega)) (ok_goto 79 22 rfl rfl rfl ?_))))))))))))))))))))))))
          rw [e, ex, h3]
          have ed : sm (dd (up ρ 19 u q) q) 256 = sm (dd ρ q) 256 + 1 := by
            refine sm_pt (x := u) u256.1 (by omega) ?_ (fun T a b x => ?_)
            · have := hlive r r1 (by omega)
              rw [← eu] at this
              unfold dd; rw [if_pos (up_same _ _ _ _), if_neg this]; rfl
            · unfold dd; rw [up_nk _ _ _ _ x]
          have ecs : ∀ i : Nat, cs (fun i => up ρ 19 u q 17 i) i = cs (fun i => ρ 17 i) i := fun i => cs_cg (fun k a b => up_ne _ _ _ _ (by decide))
          refine ok_fg [some (vr 16), some (vl J), none, some (vi n), some (vi _), some (vi (r + -1)), some (vi _), some (vi (k + 1)), none] ⟨rfl, rfl, rfl, rfl, rfl, rfl, rfl, trivial⟩ (ih _ (r + -1) _ (k + 1) _ ⟨by omega, by omega, by omega, by omega, by omega, by omega, fr_up f (by simp [rgFf]), iCh_cg hC1 (fun k => up_ne _ _ _ _ (by decide)), by rw [up_ne _ _ _ _ (by decide)]; exact h3, fun T a b => ?_, by rw [ecs], pre_cg (fun i a b => hP i a (by omega)) (fun k a b => up_ne _ _ _ _ (by decide)), fun j a b => ?_, fun T a b x => ?_, fun i a b => ?_, by rw [ed]; omega⟩ (by omega))
          · rw [up_if]; split
            · exact Int.le_refl _
            · exact hq T a b
          · rcases (by omega : j < ρ 17 (r + -1) ∨ j = ρ 17 (r + -1)) with x | x
            · exact y5 j a x
            · rw [x]
              rintro ⟨x1, x2, x3⟩
              rw [← eu2] at x3
              refine hcpl ?_
              rw [pu, show n - r = n - pc (cs (fun i => ρ 17 i) (r + -1).toNat) - 1 by omega]
              exact x3
          · by_cases y : T = u
            · rw [y]; exact hcpl
            · rw [up_nk _ _ _ _ y] at x; exact hdead T a b x
          · rw [ecs]
            have pi := (cs_in (ch := fun i => ρ 17 i) hn i.toNat (by omega) (fun i a b => by have := hP i a (by omega); exact ⟨this.1, this.2.1, this.2.2.1⟩)).2.2
            rw [up_nk _ _ _ _ (fun y => by rw [y] at pi; omega)]
            exact hlive i a (by omega)
        · refine ok_iconst 53 rfl rfl (by decide) (ok_zret 54 rfl rfl rfl (by first | omega | (simp [up_if]; omega) | (simp [up_if] at *; omega)) ?_)
          refine ⟨_, rfl, f, hC1, by omega, ⟨by rw [h3]; have := hS.1; omega, fun T a b => by rw [h3]; exact hq T a b⟩, Or.inl ⟨rfl, ?_⟩⟩
          have u0 : u = 0 := by rw [eu, show r = 0 by omega]; rfl
          rw [pu, show r = 0 by omega, Int.sub_zero, u0] at hcpl
          exact hcpl
      · have zl : z < n := by omega
        obtain ⟨g1, g2, g3⟩ := (hop z (by omega) zl).mp (z4 zl)
        have sl := sB_lt (s := u) (j := z) (n := n) ⟨c1, c2⟩ ⟨by omega, zl⟩
        refine ok_aload_n 36 rfl rfl rfl (ok_getR 37 rfl rfl fl_X0_9 rfl rfl (ok_iload 38 rfl rfl rfl (ok_iload 39 rfl rfl rfl (ok_iast 40 rfl rfl rfl (by first | omega | (simp [up_if]; omega) | (simp [up_if] at *; omega)) (ok_iload 41 rfl rfl rfl (ok_iconst 42 rfl rfl (by decide) (ok_iload 43 rfl rfl rfl (ok_ishl 44 rfl rfl (ok_ior 45 rfl rfl ?_)))))))))
        rw [bitP u256 (j := z) ⟨by omega, by omega⟩]
        refine ok_ist4 46 rfl rfl rfl (ok_iconst 47 rfl rfl (by decide) (ok_ist6 48 rfl rfl rfl (ok_inc5 49 rfl rfl rfl (by first | omega | (simp [up_if]; omega) | (simp [up_if] at *; omega)) (ok_goto 50 137 rfl rfl rfl (ok_inc7 78 rfl rfl rfl (by first | omega | (simp [up_if]; omega) | (simp [up_if] at *; omega)) (ok_goto 79 22 rfl rfl rfl ?_))))))
        have ecs : ∀ i : Int, 0 ≤ i → i ≤ r → cs (fun i => up ρ 17 r z 17 i) i.toNat = cs (fun i => ρ 17 i) i.toNat := fun i a b => cs_cg (fun k x y => by rw [up_nk _ _ _ _ (by omega)])
        have ec1 : cs (fun i => up ρ 17 r z 17 i) (r + 1).toNat = sB u z := by
          rw [cs_s _ r1, ecs r r1 (Int.le_refl _), ← eu, up_same]
        have ed : sm (dd (up ρ 17 r z) q) 256 = sm (dd ρ q) 256 := sm_cg (fun T a b => by unfold dd; rw [up_ne _ _ _ _ (by decide)])
        refine ok_fg [some (vr 16), some (vl J), none, some (vi n), some (vi _), some (vi (r + 1)), some (vi _), some (vi (k + 1)), none] ⟨rfl, rfl, rfl, rfl, rfl, rfl, rfl, trivial⟩ (ih _ (r + 1) _ (k + 1) _ ⟨by omega, by omega, by omega, by omega, by omega, by omega, fr_up f (by simp [rgFf]), up_ch hC1 ⟨by omega, by omega⟩, by rw [up_ne _ _ _ _ (by decide)]; exact h3, fun T a b => by rw [up_ne _ _ _ _ (by decide)]; exact hq T a b, ec1.symm, fun i a b => ?_, fun j a b => by omega, fun T a b x => by rw [up_ne _ _ _ _ (by decide)] at x; exact hdead T a b x, fun i a b => ?_, by rw [ed]; omega⟩ (by omega))
        · rw [ecs i a (by omega)]
          dsimp only
          rcases (by omega : i < r ∨ i = r) with x | x
          · rw [up_nk _ _ _ _ (by omega)]; exact hP i a x
          · rw [x, up_same, ← eu]
            exact ⟨by omega, zl, g1, g2, hbelow⟩
        · rw [up_ne _ _ _ _ (by decide)]
          rcases (by omega : i ≤ r ∨ i = r + 1) with x | x
          · rw [ecs i a x]; exact hlive i a x
          · rw [x, ec1]; exact g3
end
section
/-! THE RICHEST CHOICE, the first of several -/
def rcG (op : Int → Int → Prop) (w : Int → Int → Int) (v : Int → Int) (T j : Int) : Prop := okO op v T j ∧ w (pc T) j + v (sB T j) = v T
theorem rc_un {n : Int} {op op' : Int → Int → Prop} {w w' : Int → Int → Int} {v v' : Int → Int} {ch ch' : Int → Int} (hn : 0 ≤ n ∧ n ≤ 8) (he : ∀ i j, 0 ≤ i → i < n → 0 ≤ j → j < n → (op i j ↔ op' i j)) (hw : ∀ i j, 0 ≤ i → i < n → 0 ≤ j → j < n → w i j = w' i j) (hv : ∀ T, 0 ≤ T → T < p2 n → v T = v' T) (h : fstC n (rcG op w v) ch) (h' : fstC n (rcG op' w' v') ch') : ∀ i, 0 ≤ i → i < n → ch i = ch' i :=
  fst_un hn (fun T j q => q.1.1) (fun T j a b c d x y => by
    have s := sB_lt (s := T) (j := j) (n := n) ⟨a, b⟩ ⟨x, y⟩
    unfold rcG okO
    rw [he _ j c d x y, hw _ j c d x y, hv _ s.1 s.2, hv T a b]) h h'
/-- a set whose number isn't below 0 and that isn't whole goes on -/
theorem rc_ex {n : Int} {op : Int → Int → Prop} {w : Int → Int → Int} {v : Int → Int} {T : Int} (h : dpO n 1 op w v T) (h0 : 0 ≤ v T) : ∃ j, 0 ≤ j ∧ j < n ∧ rcG op w v T j := by
  rcases h.2 with q | ⟨j, a, b, c, d⟩
  · omega
  · refine ⟨j, a, b, c, ?_⟩
    unfold cmbG at d
    rw [if_neg (by decide)] at d
    exact d.symm
theorem t_Ch_richestColumn {σ : eS} {c : Nat} {J u n : Int} {op : Int → Int → Prop} (hs : nth shA c = some (1, 64, [])) (hn : 0 ≤ n ∧ n ≤ 8) (hJ : jOf J n op) (hu : 0 ≤ u ∧ u < p2 n) (hp : 0 ≤ pc u ∧ pc u < n) (hc : ∀ k : Int, 0 ≤ k → k < 64 → 0 ≤ σ c k ∧ σ c k ≤ 799999992) (hv : ∀ T, 0 ≤ T → T < p2 n → -1 ≤ σ 18 T ∧ σ 18 T ≤ 6399999936) (hex : ∃ j, 0 ≤ j ∧ j < n ∧ rcG op (fun i j => σ c (i * 8 + j)) (fun k => σ 18 k) u j) : MtI shA M_Ch_richestColumn [vr 16, vr c, vi (pc u), vi (iand (rowJ J (pc u)) (ixor u (-1))), vi u, vi n] σ (fun σ' z => σ' = σ ∧ 0 ≤ z ∧ z < n ∧ rcG op (fun i j => σ c (i * 8 + j)) (fun k => σ 18 k) u z ∧ ∀ j, 0 ≤ j → j < z → ¬ rcG op (fun i j => σ c (i * 8 + j)) (fun k => σ 18 k) u j) := by
  refine Mt.of okM_Ch_richestColumn (Nat.le_of_ble_eq_true rfl) (fun hk hg => ?_)
  have b2 := bit2 hn
  have u256 : 0 ≤ u ∧ u < 256 := ⟨hu.1, by omega⟩
  obtain ⟨o, eo⟩ : ∃ o, o = iand (rowJ J (pc u)) (ixor u (-1)) := ⟨_, rfl⟩
  rw [← eo]
  obtain ⟨G, eG⟩ : ∃ G, G = rcG op (fun i j => σ c (i * 8 + j)) (fun k => σ 18 k) u := ⟨_, rfl⟩
  rw [← eG] at hex ⊢
  have hG : ∀ j, G j ↔ ((bt u j = false ∧ op (pc u) j ∧ 0 ≤ σ 18 (sB u j)) ∧ σ c (pc u * 8 + j) + σ 18 (sB u j) = σ 18 u) := fun j => by rw [eG]; exact Iff.rfl
  clear eG
  refine ok_iconst 0 rfl rfl (by decide) (ok_ist6 1 rfl rfl rfl ?_)
  refine lpO (fun j : Int => [some (vr 16), some (vr c), some (vi (pc u)), some (vi o), some (vi u), some (vi n), some (vi j), none, none]) (fun _ => σ) (fun j => 0 ≤ j ∧ j ≤ n ∧ ∀ i, 0 ≤ i → i < j → ¬ G i) (fun j => (8 - j).toNat) ?_ 0 ⟨by omega, by omega, fun i a b => by omega⟩
  rintro j ⟨j1, j2, j3⟩ ih
  refine ok_iload 2 rfl rfl rfl (ok_iload 3 rfl rfl rfl (ok_icmp_ge 4 75 rfl rfl rfl (fun h7 => ?_) (fun h7 => ?_)))
  · refine ok_iconst 44 rfl rfl (by decide) (ok_iret 45 rfl rfl rfl ?_)
    obtain ⟨i, i0, i1, i2⟩ := hex
    exact absurd i2 (j3 i i0 (by omega))
  · have hop := open_sp hn hJ (T := u) u256 hp (j := j) ⟨j1, by omega⟩
    rw [← eo] at hop
    have e2 := bitP (s := u) (j := j) u256 ⟨j1, by omega⟩
    have sl := sB_lt (s := u) (j := j) (n := n) hu ⟨j1, by omega⟩
    have vb := hv _ sl.1 sl.2
    have cb := hc (pc u * 8 + j) (by omega) (by omega)
    refine ok_iload_n 5 rfl rfl rfl (ok_iload 6 rfl rfl rfl (ok_ishr 7 rfl rfl (ok_iconst 8 rfl rfl (by decide) (ok_iand 9 rfl rfl (ok_if_eq 10 69 rfl rfl rfl (fun h16 => ?_) (fun h16 => ?_))))))
    · refine ok_inc6 42 rfl rfl rfl (by first | omega | (simp [up_if]; omega) | (simp [up_if] at *; omega)) (ok_goto 43 3 rfl rfl rfl ?_)
      exact ok_fg [some (vr 16), some (vr c), some (vi (pc u)), some (vi o), some (vi u), some (vi n), some (vi (j + 1)), none, none] ⟨rfl, rfl, rfl, rfl, rfl, rfl, rfl, trivial⟩ (ih (j + 1) ⟨by omega, by omega, lt_ext j3 (fun q => by have q1 := ((hG j).mp q).1; exact hop.2.mp h16 ⟨q1.1, q1.2.1⟩)⟩ (by omega))
    · refine ok_aload_n 11 rfl rfl rfl (ok_getR 12 rfl rfl fl_X0_15 rfl rfl (ok_iload 13 rfl rfl rfl (ok_iconst 14 rfl rfl (by decide) (ok_iload 15 rfl rfl rfl (ok_ishl 16 rfl rfl (ok_ior 17 rfl rfl ?_))))))
      rw [e2]
      refine ok_lald 18 rfl rfl rfl (by omega) (ok_lst7 19 rfl rfl rfl (ok_lload 20 rfl rfl rfl (ok_ldc2 21 (-1) rfl rfl kc_X0_44 (by decide) (ok_lcmp_eq 22 23 69 rfl rfl rfl rfl rfl (fun h38 => ?_) (fun h38 => ?_)))))
      · refine ok_inc6 42 rfl rfl rfl (by first | omega | (simp [up_if]; omega) | (simp [up_if] at *; omega)) (ok_goto 43 3 rfl rfl rfl ?_)
        exact ok_fg [some (vr 16), some (vr c), some (vi (pc u)), some (vi o), some (vi u), some (vi n), some (vi (j + 1)), none, none] ⟨rfl, rfl, rfl, rfl, rfl, rfl, rfl, trivial⟩ (ih (j + 1) ⟨by omega, by omega, lt_ext j3 (fun q => by have q1 := ((hG j).mp q).1.2.2; omega)⟩ (by omega))
      · refine ok_aload_n 24 rfl rfl rfl (ok_iload_n 25 rfl rfl rfl (ok_bipush 26 rfl rfl (by decide) (by decide) (ok_imul 27 rfl rfl (by first | omega | (simp [up_if]; omega) | (simp [up_if] at *; omega)) (ok_iload 28 rfl rfl rfl (ok_iadd 29 rfl rfl (by first | omega | (simp [up_if]; omega) | (simp [up_if] at *; omega)) (ok_iald 30 rfl rfl hs (by first | omega | (simp [up_if]; omega) | (simp [up_if] at *; omega)) (ok_i2l 31 rfl rfl (ok_lload 32 rfl rfl rfl (ok_ladd 33 rfl rfl (by first | omega | (simp [up_if]; omega) | (simp [up_if] at *; omega)) (ok_aload_n 34 rfl rfl rfl (ok_getR 35 rfl rfl fl_X0_15 rfl rfl (ok_iload 36 rfl rfl rfl (ok_lald 37 rfl rfl rfl (by first | omega | (simp [up_if]; omega) | (simp [up_if] at *; omega)) (ok_lcmp_ne 38 39 69 rfl rfl rfl rfl rfl (fun h62 => ?_) (fun h62 => ?_)))))))))))))))
        · refine ok_inc6 42 rfl rfl rfl (by first | omega | (simp [up_if]; omega) | (simp [up_if] at *; omega)) (ok_goto 43 3 rfl rfl rfl ?_)
          exact ok_fg [some (vr 16), some (vr c), some (vi (pc u)), some (vi o), some (vi u), some (vi n), some (vi (j + 1)), none, none] ⟨rfl, rfl, rfl, rfl, rfl, rfl, rfl, trivial⟩ (ih (j + 1) ⟨by omega, by omega, lt_ext j3 (fun q => by have q1 := ((hG j).mp q).2; omega)⟩ (by omega))
        · refine ok_iload 40 rfl rfl rfl (ok_iret 41 rfl rfl rfl ?_)
          obtain ⟨ob, oo⟩ := hop.1.mp h16
          exact ⟨_, rfl, rfl, j1, by omega, (hG j).mpr ⟨⟨ob, oo, by omega⟩, by omega⟩, j3⟩
abbrev rgFr : Nat → Int → Prop := fun c _ => c = 17 ∨ c = 18
def FR (σ : eS) (c : Nat) (n : Int) (op : Int → Int → Prop) (σ' : eS) (z : Int) : Prop := fr rgFr σ σ' ∧ iCh σ' ∧ z = σ' 18 0 ∧ σ' 18 (p2 n - 1) = 0 ∧ (∀ T, 0 ≤ T → T < p2 n - 1 → dpO n 1 op (fun i j => σ c (i * 8 + j)) (fun k => σ' 18 k) T ∧ -1 ≤ σ' 18 T ∧ σ' 18 T ≤ 799999992 * 8) ∧ (z ≠ -1 → fstC n (rcG op (fun i j => σ c (i * 8 + j)) (fun k => σ' 18 k)) (fun i => σ' 17 i))
theorem t_Ch_findRichest {σ : eS} {c : Nat} {J n : Int} {op : Int → Int → Prop} (hs : nth shA c = some (1, 64, [])) (hC : iCh σ) (hn : 0 ≤ n ∧ n ≤ 8) (hJ : jOf J n op) (hc18 : c ≠ 18) (hc17 : c ≠ 17) (hc : ∀ k : Int, 0 ≤ k → k < 64 → 0 ≤ σ c k ∧ σ c k ≤ 799999992) : MtL shA M_Ch_findRichest [vr 16, vr c, vl J, vi n] σ (FR σ c n op) := by
  refine Mt.of okM_Ch_findRichest (Nat.le_of_ble_eq_true rfl) (fun hk hg => ?_)
  have b2 := bit2 hn
  refine ok_aload_n 0 rfl rfl rfl (ok_aload_n 1 rfl rfl rfl (ok_lload_n 2 rfl rfl rfl (ok_iload 3 rfl rfl rfl (ok_callVV (M' := M_Ch_sumUp) (as := [_, _, _]) 4 rfl rfl ml_X0_55 (t_Ch_sumUp hs hn hJ hc18 hc) rfl rfl (Nat.le_of_ble_eq_true rfl) ⟨Nat.le_of_ble_eq_true rfl, Nat.le_of_ble_eq_true rfl⟩ rfl (Nat.le_of_ble_eq_true rfl) (fun τ hq => ?_)))))
  obtain ⟨f, hm, hT⟩ := hq
  have f0 : fr rgFr σ τ := f.mono (fun c k q => by simp only [rgFr]; omega)
  have hC0 : iCh τ := iCh_cg hC (fun k => f _ _ (by simp))
  refine ok_aload_n 5 rfl rfl rfl (ok_getR 6 rfl rfl fl_X0_15 rfl rfl (ok_iconst 7 rfl rfl (by decide) (ok_lald 8 rfl rfl rfl (by first | omega | (simp [up_if]; omega) | (simp [up_if] at *; omega)) (ok_ldc2 9 (-1) rfl rfl kc_X0_44 (by decide) (ok_lcmp_ne 10 11 25 rfl rfl rfl rfl rfl (fun h17 => ?_) (fun h17 => ?_))))))
  · refine ok_iconst 14 rfl rfl (by decide) (ok_ist5 15 rfl rfl rfl (ok_iconst 16 rfl rfl (by decide) (ok_ist6 17 rfl rfl rfl ?_)))
    have v0 : 0 ≤ τ 18 0 := by
      by_cases q : p2 n - 1 = 0
      · rw [q] at hm; omega
      · have := (hT 0 (by omega) (by omega)).2.1; omega
    have ew : (fun i j => τ c (i * 8 + j)) = (fun i j => σ c (i * 8 + j)) := by funext i j; exact f c _ hc18
    have hcτ : ∀ k : Int, 0 ≤ k → k < 64 → 0 ≤ τ c k ∧ τ c k ≤ 799999992 := fun k a b => by rw [f c k hc18]; exact hc k a b
    have hvb : ∀ T, 0 ≤ T → T < p2 n → -1 ≤ τ 18 T ∧ τ 18 T ≤ 6399999936 := fun T a b => by
      by_cases q : T = p2 n - 1
      · rw [q, hm]; decide
      · have := (hT T a (by omega)).2; omega
    obtain ⟨G, eG⟩ : ∃ G, G = rcG op (fun i j => σ c (i * 8 + j)) (fun k => τ 18 k) := ⟨_, rfl⟩
    have gb : ∀ T j, G T j → bt T j = false := fun T j q => by rw [eG] at q; exact q.1.1
    refine lpO3 (fun (u r : Int) (_ : eS) => [some (vr 16), some (vr c), some (vl J), none, some (vi n), some (vi u), some (vi r), none]) (fun _ _ ρ => ρ) (fun u r ρ => 0 ≤ r ∧ r ≤ n ∧ fr (fun c _ => c = 17) τ ρ ∧ iCh ρ ∧ u = cs (fun i => ρ 17 i) r.toNat ∧ 0 ≤ τ 18 u ∧ ∀ i, 0 ≤ i → i < r → 0 ≤ ρ 17 i ∧ ρ 17 i < n ∧ G (cs (fun i => ρ 17 i) i.toNat) (ρ 17 i) ∧ ∀ j, 0 ≤ j → j < ρ 17 i → ¬ G (cs (fun i => ρ 17 i) i.toNat) j) (fun _ r _ => (8 - r).toNat) ?_ 0 0 τ ⟨by omega, by omega, fr.rf, hC0, rfl, v0, fun i a b => by omega⟩
    rintro u r ρ ⟨r1, r2, f1, hC1, eu, hv1, hP⟩ ih
    have e18 : ∀ k, ρ 18 k = τ 18 k := fun k => f1 18 k (by omega)
    have e18' : (fun k => ρ 18 k) = (fun k => τ 18 k) := by funext k; exact e18 k
    have ewρ : (fun i j => ρ c (i * 8 + j)) = (fun i j => σ c (i * 8 + j)) := by rw [← ew]; funext i j; exact f1 c _ hc17
    obtain ⟨c1, c2, c3⟩ := cs_in (ch := fun i => ρ 17 i) hn r.toNat (by omega) (fun i a b => by have := hP i a (by omega); exact ⟨this.1, this.2.1, gb _ _ this.2.2.1⟩)
    rw [← eu] at c1 c2 c3
    have pu : pc u = r := by omega
    refine ok_iload 18 rfl rfl rfl (ok_iload 19 rfl rfl rfl (ok_icmp_ge 20 86 rfl rfl rfl (fun h35 => ?_) (fun h35 => ?_)))
    · refine ok_aload_n 48 rfl rfl rfl (ok_getR 49 rfl rfl fl_X0_15 rfl rfl (ok_iconst 50 rfl rfl (by decide) (ok_lald 51 rfl rfl rfl (by first | omega | (simp [up_if]; omega) | (simp [up_if] at *; omega)) (ok_lret 52 rfl rfl rfl ?_))))
      refine ⟨_, rfl, f0.tr (f1.mono (fun c k q => by simp only [rgFr]; omega)), hC1, rfl, by rw [e18]; exact hm, ?_, fun _ => ?_⟩
      · rw [e18']
        intro T a b
        rw [e18]
        exact hT T a b
      · rw [e18', ← eG]
        intro i a b
        exact hP i a (by omega)
    · refine ok_aload_n 21 rfl rfl rfl (ok_aload_n 22 rfl rfl rfl (ok_iload 23 rfl rfl rfl (ok_lload_n 24 rfl rfl rfl (ok_iload 25 rfl rfl rfl (ok_callSI (M' := M_Jo_rowOf) (as := [_, _]) 26 rfl rfl ml_X0_26 (s_Jo_rowOf) ⟨Nat.le_of_ble_eq_true rfl, Nat.le_of_ble_eq_true rfl⟩ rfl (Nat.le_of_ble_eq_true rfl) (fun σ' z hz => ?_))))))
      rw [hz.1, hz.2]
      clear hz z σ'
      refine ok_iload 27 rfl rfl rfl (ok_iconst 28 rfl rfl (by decide) (ok_ixor 29 rfl rfl (ok_iand 30 rfl rfl (ok_iload 31 rfl rfl rfl (ok_iload 32 rfl rfl rfl ?_)))))
      have ul : u < p2 n - 1 := by
        by_cases q : u = p2 n - 1
        · have := (bitL (s := u) (n := n) ⟨c1, by omega⟩ hn).2.1 q; omega
        · omega
      have hex := rc_ex (hT u c1 ul).1 hv1
      have hr := t_Ch_richestColumn (σ := ρ) (c := c) (J := J) (u := u) (n := n) (op := op) hs hn hJ ⟨c1, c2⟩ ⟨by omega, by omega⟩ (fun k a b => by rw [f1 c k hc17]; exact hcτ k a b) (fun T a b => by rw [e18]; exact hvb T a b) (by rw [ewρ, e18']; exact hex)
      rw [ewρ, e18', ← eG, pu] at hr
      refine ok_callVI (M' := M_Ch_richestColumn) (as := [_, _, _, _, _]) 33 rfl rfl ml_X0_59 (hr) rfl rfl (Nat.le_of_ble_eq_true rfl) ⟨Nat.le_of_ble_eq_true rfl, Nat.le_of_ble_eq_true rfl⟩ rfl (Nat.le_of_ble_eq_true rfl) (fun σ' z hz => ?_)
      obtain ⟨hs_, hz⟩ := hz
      rw [hs_]; clear hs_ σ'
      obtain ⟨y1, y2, y3, y4⟩ := hz
      refine ok_ist7 34 rfl rfl rfl (ok_aload_n 35 rfl rfl rfl (ok_getR 36 rfl rfl fl_X0_9 rfl rfl (ok_iload 37 rfl rfl rfl (ok_iload 38 rfl rfl rfl (ok_iast 39 rfl rfl rfl (by first | omega | (simp [up_if]; omega) | (simp [up_if] at *; omega)) (ok_iload 40 rfl rfl rfl (ok_iconst 41 rfl rfl (by decide) (ok_iload 42 rfl rfl rfl (ok_ishl 43 rfl rfl (ok_ior 44 rfl rfl (ok_ist5 45 rfl rfl rfl (ok_inc6 46 rfl rfl rfl (by first | omega | (simp [up_if]; omega) | (simp [up_if] at *; omega)) (ok_goto 47 31 rfl rfl rfl ?_)))))))))))))
      rw [bitP (s := u) (j := z) ⟨c1, by omega⟩ ⟨y1, by omega⟩]
      have ecs : ∀ i : Int, 0 ≤ i → i ≤ r → cs (fun i => up ρ 17 r z 17 i) i.toNat = cs (fun i => ρ 17 i) i.toNat := fun i a b => cs_cg (fun k x y => by rw [up_nk _ _ _ _ (by omega)])
      have ec1 : cs (fun i => up ρ 17 r z 17 i) (r + 1).toNat = sB u z := by
        rw [cs_s _ r1, ecs r r1 (Int.le_refl _), ← eu, up_same]
      have gz : 0 ≤ τ 18 (sB u z) := by rw [eG] at y3; exact y3.1.2.2
      refine ok_fg [some (vr 16), some (vr c), some (vl J), none, some (vi n), some (vi _), some (vi (r + 1)), none] ⟨rfl, rfl, rfl, rfl, rfl, rfl, trivial⟩ (ih _ (r + 1) _ ⟨by omega, by omega, fr_up f1 rfl, up_ch hC1 ⟨by omega, by omega⟩, ec1.symm, gz, fun i a b => ?_⟩ (by omega))
      rw [ecs i a (by omega)]
      rcases (by omega : i < r ∨ i = r) with x | x
      · rw [up_nk _ _ _ _ (by omega)]; exact hP i a x
      · rw [x, up_same, ← eu]; exact ⟨y1, y2, y3, y4⟩
  · refine ok_ldc2 12 (-1) rfl rfl kc_X0_44 (by decide) (ok_lret 13 rfl rfl rfl ?_)
    exact ⟨_, rfl, f0, hC0, by omega, hm, hT, fun q => absurd rfl q⟩
/-- the reference's: the same first richest choice -/
theorem t_Mo_chooseGreatest {σ : eS} {l : Int} (h : nW σ) (hw : wBd σ) (hl : 0 ≤ l) (hc : cpl (σ 0 22) (fun i j => l ≤ wk σ i j) (σ 0 22).toNat 0) : MtL shB M_Mo_chooseGreatest [vr 0, vi l] σ (fun σ' z => fr (fun c _ => c = 10 ∨ c = 11) σ σ' ∧ z = σ' 10 0 ∧ 0 ≤ z ∧ σ' 10 (p2 (σ 0 22) - 1) = 0 ∧ (∀ T, 0 ≤ T → T < p2 (σ 0 22) - 1 → dpO (σ 0 22) 1 (fun i j => l ≤ wk σ i j) (wk σ) (fun k => σ' 10 k) T) ∧ fstC (σ 0 22) (rcG (fun i j => l ≤ wk σ i j) (wk σ) (fun k => σ' 10 k)) (fun i => σ' 11 i)) := by
  refine Mt.of okM_Mo_chooseGreatest (Nat.le_of_ble_eq_true rfl) (fun hk hg => ?_)
  obtain ⟨n, en⟩ : ∃ x, x = σ 0 22 := ⟨_, rfl⟩
  have hn : 1 ≤ n ∧ n ≤ 8 := by rw [en]; exact h
  obtain ⟨z1, z2, z3, z4⟩ := bit2 (n := n) (by omega)
  have z4 := z4 hn.1
  rw [← en] at hc ⊢
  have hwb : ∀ i j, 0 ≤ i → i < n → 0 ≤ j → j < n → 0 ≤ wk σ i j ∧ wk σ i j ≤ 799999992 := fun i j a1 a2 a3 a4 => hw i j a1 (by omega) a3 (by omega)
  refine ok_aload_n 0 rfl rfl rfl (ok_iload_n 1 rfl rfl rfl (ok_iconst 2 rfl rfl (by decide) (ok_callVV (M' := M_Mo_laysCan) (as := [_, _]) 3 rfl rfl ml_X12_256 (s_Mo_laysCan h hw hl (Or.inr rfl)) rfl rfl (Nat.le_of_ble_eq_true rfl) ⟨Nat.le_of_ble_eq_true rfl, Nat.le_of_ble_eq_true rfl⟩ rfl (Nat.le_of_ble_eq_true rfl) (fun τ hq => ?_))))
  rw [← en] at hq
  obtain ⟨q1, q2, q3⟩ := hq
  rw [if_neg (by decide)] at q2
  have hv0 : 0 ≤ τ 10 0 := (dp_ge (sums := 1) (v := fun k => τ 10 k) hn (fun i j a b c d => (hwb i j a b c d).1) q2 (fun T a b => (q3 T a b).1) n.toNat 0 (by omega) (by omega) (by simp [pc]) hc).1
  obtain ⟨G, eG⟩ : ∃ G, G = rcG (fun i j => l ≤ wk σ i j) (wk σ) (fun k => τ 10 k) := ⟨_, rfl⟩
  have hG : ∀ T j, G T j ↔ ((bt T j = false ∧ l ≤ wk σ (pc T) j ∧ 0 ≤ τ 10 (sB T j)) ∧ wk σ (pc T) j + τ 10 (sB T j) = τ 10 T) := fun T j => by rw [eG]; exact Iff.rfl
  have gb : ∀ T j, G T j → bt T j = false := fun T j q => ((hG T j).mp q).1.1
  refine ok_iconst 4 rfl rfl (by decide) (ok_ist2 5 rfl rfl rfl (ok_iconst 6 rfl rfl (by decide) (ok_ist3 7 rfl rfl rfl ?_)))
  refine lpO2 (fun (i : Int) (ρ : eS) => [some (vr 0), some (vi l), some (vi (cs (fun i => ρ 11 i) i.toNat)), some (vi i), none]) (fun _ ρ => ρ) (fun i ρ => 0 ≤ i ∧ i ≤ n ∧ fr (fun c _ => c = 11) τ ρ ∧ 0 ≤ τ 10 (cs (fun i => ρ 11 i) i.toNat) ∧ ∀ k : Int, 0 ≤ k → k < i → 0 ≤ ρ 11 k ∧ ρ 11 k < n ∧ G (cs (fun i => ρ 11 i) k.toNat) (ρ 11 k) ∧ ∀ j, 0 ≤ j → j < ρ 11 k → ¬ G (cs (fun i => ρ 11 i) k.toNat) j) (fun i _ => (n - i).toNat) ?_ 0 τ ⟨by omega, by omega, fr.rf, hv0, fun k a b => by omega⟩
  rintro i ρ ⟨k1, k2, k3, k7, k8⟩ ih
  obtain ⟨k4, k5, k6⟩ := cs_in (n := n) (ch := fun i => ρ 11 i) ⟨by omega, by omega⟩ i.toNat (by omega) (fun k a b => by have := k8 k a (by omega); exact ⟨this.1, this.2.1, gb _ _ this.2.2.1⟩)
  obtain ⟨S, eS⟩ : ∃ x, x = cs (fun i => ρ 11 i) i.toNat := ⟨_, rfl⟩
  rw [← eS] at k4 k5 k6 k7 ⊢
  have pS : pc S = i := by omega
  have f1 : fr (fun c _ => c = 10 ∨ c = 11) σ ρ := fun c k q => by rw [k3 c k (by omega), q1 c k (by omega)]
  have u2 : ρ 0 22 = n := by rw [f1 0 22 (by omega), en]
  have u3 : nW ρ := h.fr' (by rw [u2, en])
  have u1 : wk ρ = wk σ := by funext a b; unfold wk; rw [f1 0 22 (by omega), f1 9 _ (by omega)]
  have u10 : ∀ k, ρ 10 k = τ 10 k := fun k => k3 10 k (by omega)
  have u10' : (fun k => ρ 10 k) = (fun k => τ 10 k) := by funext k; exact u10 k
  refine ok_iload_n 8 rfl rfl rfl (ok_aload_n 9 rfl rfl rfl (ok_getI 10 rfl rfl fl_X12_234 rfl rfl (Or.inl rfl) (ok_icmp_ge 11 115 rfl rfl rfl (fun h15 => ?_) (fun h15 => ?_))))
  · refine ok_aload_n 73 rfl rfl rfl (ok_getR 74 rfl rfl fl_X12_42 rfl rfl (ok_iconst 75 rfl rfl (by decide) (ok_lald 76 rfl rfl rfl (by first | omega | (simp [up_if]; omega) | (simp [up_if] at *; omega)) (ok_lret 77 rfl rfl rfl ?_))))
    refine ⟨_, rfl, f1, rfl, by rw [u10]; exact hv0, by rw [u10]; exact q2, ?_, ?_⟩
    · rw [u10']; intro T a b; exact dpO_of (q3 T a b).1
    · rw [u10', ← eG]; intro k a b; exact k8 k a (by omega)
  · refine ok_iconst 12 rfl rfl (by decide) (ok_ist4 13 rfl rfl rfl ?_)
    have hin : i < n := by omega
    have hS : S < p2 n - 1 := by
      by_cases q : S = p2 n - 1
      · have := (bitL (s := S) (n := n) (by omega) (by omega)).2.1 q; omega
      · omega
    have hex : ∃ j, 0 ≤ j ∧ j < n ∧ G S j := by rw [eG]; exact rc_ex (dpO_of (q3 S k4 hS).1) k7
    refine lpO (fun j : Int => [some (vr 0), some (vi l), some (vi S), some (vi i), some (vi j)]) (fun _ => ρ) (fun j => 0 ≤ j ∧ j < n ∧ ∀ j', 0 ≤ j' → j' < j → ¬ G S j') (fun j => (n - j).toNat) ?_ 0 ⟨by omega, by omega, fun j' a b => by omega⟩
    rintro j ⟨j1, j2, j3⟩ ih2
    have e1 := bitG (s := S) (j := j) (by omega) (by omega)
    have e2 := bitP (s := S) (j := j) (by omega) (by omega)
    obtain ⟨l1, l2⟩ := sB_lt (s := S) (j := j) (n := n) ⟨k4, k5⟩ ⟨j1, j2⟩
    have wb := hwb i j k1 hin j1 j2
    have hGS := hG S j
    rw [pS] at hGS
    have nxt : ¬ G S j → Ok shB M_Mo_chooseGreatest 88 [some (vr 0), some (vi l), some (vi S), some (vi i), some (vi j)] [] ρ (fun σ' v => ∃ z, v = some (vl z) ∧ fr (fun c _ => c = 10 ∨ c = 11) σ σ' ∧ z = σ' 10 0 ∧ 0 ≤ z ∧ σ' 10 (p2 n - 1) = 0 ∧ (∀ T, 0 ≤ T → T < p2 n - 1 → dpO n 1 (fun i j => l ≤ wk σ i j) (wk σ) (fun k => σ' 10 k) T) ∧ fstC n (rcG (fun i j => l ≤ wk σ i j) (wk σ) (fun k => σ' 10 k)) (fun i => σ' 11 i)) := by
      intro hno
      have hj : j + 1 < n := by
        obtain ⟨j', a1, a2, a3⟩ := hex
        by_cases q : j' < j
        · exact absurd a3 (j3 j' a1 q)
        · by_cases q' : j' = j
          · rw [q'] at a3; exact absurd a3 hno
          · omega
      clear hex
      refine ok_inc4 58 rfl rfl rfl (by first | omega | (simp [up_if]; omega) | (simp [up_if] at *; omega)) (ok_goto 59 21 rfl rfl rfl ?_)
      exact ih2 (j + 1) ⟨by omega, hj, lt_ext j3 hno⟩ (by omega)
    clear hex
    refine ok_iload_n 14 rfl rfl rfl (ok_iload 15 rfl rfl rfl (ok_ishr 16 rfl rfl (ok_iconst 17 rfl rfl (by decide) (ok_iand 18 rfl rfl ?_))))
    rw [e1]
    refine ok_iconst 19 rfl rfl (by decide) (ok_icmp_eq 20 88 rfl rfl rfl (fun h28 => ?_) (fun h28 => ?_))
    · exact nxt (fun q => by have q1 := (hGS.mp q).1.1; rw [b1'.mp h28] at q1; cases q1)
    · have hb : bt S j = false := by
        cases hq : bt S j with
        | false => rfl
        | true => exact absurd (b1'.mpr hq) h28
      have hcp := bitC (s := S) (j := j) (by omega) (by omega) hb
      refine ok_aload_n 21 rfl rfl rfl (ok_iload_n 22 rfl rfl rfl (ok_iload 23 rfl rfl rfl (ok_callVI (M' := M_Mo_worked) (as := [_, _]) 24 rfl rfl ml_X12_244 (s_Mo_worked u3 (by omega) (by omega)) rfl rfl (Nat.le_of_ble_eq_true rfl) ⟨Nat.le_of_ble_eq_true rfl, Nat.le_of_ble_eq_true rfl⟩ rfl (Nat.le_of_ble_eq_true rfl) (fun σ' z hz => ?_))))
      rw [hz.1, hz.2, u1]; clear hz z σ'
      refine ok_iload_n 25 rfl rfl rfl (ok_icmp_lt 26 88 rfl rfl rfl (fun h39 => ?_) (fun h39 => ?_))
      · exact nxt (fun q => by have := (hGS.mp q).1.2.1; omega)
      · refine ok_aload_n 27 rfl rfl rfl (ok_getR 28 rfl rfl fl_X12_42 rfl rfl (ok_iload_n 29 rfl rfl rfl (ok_iconst 30 rfl rfl (by decide) (ok_iload 31 rfl rfl rfl (ok_ishl 32 rfl rfl (ok_ior 33 rfl rfl ?_))))))
        rw [e2]
        refine ok_lald 34 rfl rfl rfl (by omega) ?_
        rw [u10]
        refine ok_lconst (w := 0) 35 rfl rfl rfl (by decide) (ok_lcmp_lt 36 37 88 rfl rfl rfl rfl rfl (fun h54 => ?_) (fun h54 => ?_))
        · exact nxt (fun q => by have q9 := (hGS.mp q).1.2.2; omega)
        · have vb : τ 10 (sB S j) ≤ 6399999936 := by
            by_cases q : sB S j = p2 n - 1
            · rw [q, q2]; decide
            · have := (q3 (sB S j) l1 (by omega)).2.2; omega
          refine ok_aload_n 38 rfl rfl rfl (ok_iload_n 39 rfl rfl rfl (ok_iload 40 rfl rfl rfl (ok_callVI (M' := M_Mo_worked) (as := [_, _]) 41 rfl rfl ml_X12_244 (s_Mo_worked u3 (by omega) (by omega)) rfl rfl (Nat.le_of_ble_eq_true rfl) ⟨Nat.le_of_ble_eq_true rfl, Nat.le_of_ble_eq_true rfl⟩ rfl (Nat.le_of_ble_eq_true rfl) (fun σ' z hz => ?_))))
          rw [hz.1, hz.2, u1]; clear hz z σ'
          refine ok_i2l 42 rfl rfl (ok_aload_n 43 rfl rfl rfl (ok_getR 44 rfl rfl fl_X12_42 rfl rfl (ok_iload_n 45 rfl rfl rfl (ok_iconst 46 rfl rfl (by decide) (ok_iload 47 rfl rfl rfl (ok_ishl 48 rfl rfl (ok_ior 49 rfl rfl ?_)))))))
          rw [e2]
          refine ok_lald 50 rfl rfl rfl (by omega) ?_
          rw [u10]
          refine ok_ladd 51 rfl rfl (by first | omega | (simp [up_if]; omega) | (simp [up_if] at *; omega)) (ok_aload_n 52 rfl rfl rfl (ok_getR 53 rfl rfl fl_X12_42 rfl rfl (ok_iload_n 54 rfl rfl rfl (ok_lald 55 rfl rfl rfl (by omega) ?_))))
          rw [u10]
          refine ok_lcmp_eq 56 57 94 rfl rfl rfl rfl rfl (fun h84 => ?_) (fun h84 => ?_)
          · have hok : G S j := hGS.mpr ⟨⟨hb, by omega, by omega⟩, by omega⟩
            refine ok_aload_n 60 rfl rfl rfl (ok_getR 61 rfl rfl fl_X12_45 rfl rfl (ok_iload_n 62 rfl rfl rfl (ok_iload 63 rfl rfl rfl (ok_iast 64 rfl rfl rfl (by first | omega | (simp [up_if]; omega) | (simp [up_if] at *; omega)) (ok_iload_n 65 rfl rfl rfl (ok_iconst 66 rfl rfl (by decide) (ok_iload 67 rfl rfl rfl (ok_ishl 68 rfl rfl (ok_ior 69 rfl rfl (ok_ist2 70 rfl rfl rfl (ok_inc3 71 rfl rfl rfl (by first | omega | (simp [up_if]; omega) | (simp [up_if] at *; omega)) (ok_goto 72 10 rfl rfl rfl ?_))))))))))))
            rw [e2]
            have ecs : ∀ k : Int, 0 ≤ k → k ≤ i → cs (fun q => up ρ 11 i j 11 q) k.toNat = cs (fun q => ρ 11 q) k.toNat := fun k a b => cs_cg (fun q a' b' => by rw [up_nk _ _ _ _ (by omega)])
            have ec1 : cs (fun q => up ρ 11 i j 11 q) (i + 1).toNat = sB S j := by
              rw [cs_s _ k1, ecs i k1 (Int.le_refl _), ← eS, up_same]
            have hfin := ih (i + 1) (up ρ 11 i j) ⟨by omega, by omega, fr_up k3 rfl, by rw [ec1]; omega, fun k a b => ?_⟩ (by omega)
            · rw [ec1] at hfin
              exact ok_fg [some (vr 0), some (vi l), some (vi (sB S j)), some (vi (i + 1)), none] ⟨rfl, rfl, rfl, rfl, trivial⟩ hfin
            · rw [ecs k a (by omega)]
              by_cases q : k = i
              · rw [q, up_same, ← eS]
                exact ⟨j1, j2, hok, j3⟩
              · rw [up_nk _ _ _ _ q]
                exact k8 k a (by omega)
          · exact nxt (fun q => h84 (hGS.mp q).2)
end
section
/-! HOW MANY CHOICES: from the first rows on, or from the last ones back -/
def CAk (n : Int) (w : Int → Int → Int) : Nat → Int → Int
  | 0, _ => 1
  | m + 1, s => sm (fun j => if bt s j = false then w (n - ((m + 1 : Nat) : Int)) j * CAk n w m (sB s j) else 0) n.toNat
theorem sm_s2 (f : Int → Int) : ∀ n : Nat, sm f n = s2 (fun k => f (k : Int)) n
  | 0 => rfl
  | n + 1 => by show sm f n + f n = s2 (fun k => f (k : Int)) n + f n; rw [sm_s2 f n]
/-- a sum goes over its places in any order that is its own way back -/
theorem s2_inv {h : Nat → Int} {φ : Nat → Nat} {N : Nat} (h1 : ∀ S, S < N → φ S < N) (h2 : ∀ S, S < N → φ (φ S) = S) : s2 (fun S => h (φ S)) N = s2 h N := by
  have a : s2 (fun S => h (φ S)) N = s2 (fun S => s2 (fun T => if T = φ S then h T else 0) N) N := s2_cg (fun S hS => (s2_one (x := φ S) h (h1 S hS)).symm)
  have b : s2 h N = s2 (fun T => s2 (fun S => if T = φ S then h T else 0) N) N := s2_cg (fun T hT => by
    have : s2 (fun S => if T = φ S then h T else 0) N = s2 (fun S => if S = φ T then (fun _ => h T) S else 0) N := s2_cg (fun S hS => by
      by_cases q : T = φ S
      · rw [if_pos q, if_pos (by rw [q, h2 S hS])]
      · rw [if_neg q, if_neg (fun w => q (by rw [w, h2 T hT]))])
    rw [this, s2_one (x := φ T) (fun _ => h T) (h1 T hT)])
  rw [a, b]
  exact s2_swap (fun S T => if T = φ S then h T else 0) N N
theorem bit_xs : ∀ s : Fin 256, ∀ j : Fin 8, bt (s.val : Int) (j.val : Int) = false → ixor (s.val : Int) (ishl 1 (j.val : Int)) = sB (s.val : Int) (j.val : Int) := by decide +kernel
theorem bitXs {s j : Int} (h1 : 0 ≤ s ∧ s < 256) (h2 : 0 ≤ j ∧ j < 8) (h : bt s j = false) : ixor s (ishl 1 j) = sB s j := fin2 (P := fun s j => bt s j = false → ixor s (ishl 1 j) = sB s j) bit_xs h1.1 h1.2 h2.1 h2.2 h
theorem bt_tf {s j : Int} (h : ¬ bt s j = true) : bt s j = false := by cases q : bt s j with | false => rfl | true => exact absurd q h
theorem x_inv {n s j : Int} (hn : 0 ≤ n ∧ n ≤ 8) (hs : 0 ≤ s ∧ s < p2 n) (hj : 0 ≤ j ∧ j < n) : (0 ≤ ixor s (ishl 1 j) ∧ ixor s (ishl 1 j) < p2 n) ∧ ixor (ixor s (ishl 1 j)) (ishl 1 j) = s := by
  have b := bit2 hn
  have s256 : 0 ≤ s ∧ s < 256 := ⟨hs.1, by omega⟩
  by_cases q : bt s j = true
  · have x := bitX s256 ⟨hj.1, by omega⟩ q
    have y := bitXp s256 ⟨hj.1, by omega⟩ q
    refine ⟨⟨x.1, by omega⟩, ?_⟩
    rw [bitXs ⟨x.1, by omega⟩ ⟨hj.1, by omega⟩ y.2.2, y.2.1]
  · have q := bt_tf q
    have y := sB_lt hs hj
    rw [bitXs s256 ⟨hj.1, by omega⟩ q]
    exact ⟨y, bitSx s256 ⟨hj.1, by omega⟩ q⟩
def phi (n : Int) (w : Int → Int → Int) (k : Nat) : Int := s2 (fun S => if pc (S : Int) = (k : Int) then PMk n.toNat w k S * CAk n w (n.toNat - k) S else 0) (p2 n).toNat
theorem mul_s2 (c : Int) (f : Nat → Int) (n : Nat) : c * s2 f n = s2 (fun k => c * f k) n := by
  rw [Int.mul_comm, ← s2_mul]
  exact s2_cg (fun k _ => Int.mul_comm _ _)
theorem phi_s {n : Int} {w : Int → Int → Int} (hn : 0 ≤ n ∧ n ≤ 8) {k : Nat} (hk : (k : Int) < n) : phi n w k = phi n w (k + 1) := by
  have b := bit2 hn
  have em : n.toNat - k = (n.toNat - (k + 1)) + 1 := by omega
  have ek : n - (((n.toNat - (k + 1)) + 1 : Nat) : Int) = (k : Int) := by omega
  have l : phi n w k = s2 (fun S => s2 (fun j => if pc (S : Int) = (k : Int) ∧ bt (S : Int) (j : Int) = false then PMk n.toNat w k S * (w k j * CAk n w (n.toNat - (k + 1)) (sB S j)) else 0) n.toNat) (p2 n).toNat := by
    refine s2_cg (fun S hS => ?_)
    by_cases q : pc (S : Int) = (k : Int)
    · rw [if_pos q, em, CAk, sm_s2, mul_s2]
      refine s2_cg (fun j hj => ?_)
      by_cases y : bt (S : Int) (j : Int) = false
      · rw [if_pos y, if_pos ⟨q, y⟩, ek]
      · rw [if_neg y, if_neg (fun z => y z.2), Int.mul_zero]
    · rw [if_neg q]
      have : s2 (fun j => if pc (S : Int) = (k : Int) ∧ bt (S : Int) (j : Int) = false then PMk n.toNat w k S * (w k j * CAk n w (n.toNat - (k + 1)) (sB S j)) else 0) n.toNat = s2 (fun _ => 0) n.toNat := s2_cg (fun j hj => if_neg (fun z => q z.1))
      rw [this, s2_0]
  have r : phi n w (k + 1) = s2 (fun S => s2 (fun j => if pc (S : Int) = ((k + 1 : Nat) : Int) ∧ bt (S : Int) (j : Int) = true then w k j * PMk n.toNat w k (ixor S (ishl 1 j)) * CAk n w (n.toNat - (k + 1)) S else 0) n.toNat) (p2 n).toNat := by
    refine s2_cg (fun S hS => ?_)
    by_cases q : pc (S : Int) = ((k + 1 : Nat) : Int)
    · rw [if_pos q, PMk, sm_s2, ← s2_mul]
      refine s2_cg (fun j hj => ?_)
      by_cases y : bt (S : Int) (j : Int) = true
      · rw [if_pos y, if_pos ⟨q, y⟩]
      · rw [if_neg y, if_neg (fun z => y z.2), Int.zero_mul]
    · rw [if_neg q]
      have : s2 (fun j => if pc (S : Int) = ((k + 1 : Nat) : Int) ∧ bt (S : Int) (j : Int) = true then w k j * PMk n.toNat w k (ixor S (ishl 1 j)) * CAk n w (n.toNat - (k + 1)) S else 0) n.toNat = s2 (fun _ => 0) n.toNat := s2_cg (fun j hj => if_neg (fun z => q z.1))
      rw [this, s2_0]
  rw [l, r, s2_swap, s2_swap (fun S j => if pc (S : Int) = ((k + 1 : Nat) : Int) ∧ bt (S : Int) (j : Int) = true then w k j * PMk n.toNat w k (ixor S (ishl 1 j)) * CAk n w (n.toNat - (k + 1)) S else 0)]
  refine s2_cg (fun j hj => ?_)
  have inv : ∀ S : Nat, S < (p2 n).toNat → (0 ≤ ixor (S : Int) (ishl 1 (j : Int)) ∧ ixor (S : Int) (ishl 1 (j : Int)) < p2 n) ∧ ixor (ixor (S : Int) (ishl 1 (j : Int))) (ishl 1 (j : Int)) = (S : Int) := fun S hS => x_inv hn ⟨by omega, by omega⟩ ⟨by omega, by omega⟩
  have e := s2_inv (h := fun T => if pc (T : Int) = ((k + 1 : Nat) : Int) ∧ bt (T : Int) (j : Int) = true then w k j * PMk n.toNat w k (ixor T (ishl 1 j)) * CAk n w (n.toNat - (k + 1)) T else 0) (φ := fun S => (ixor (S : Int) (ishl 1 (j : Int))).toNat) (N := (p2 n).toNat) (fun S hS => by have := (inv S hS).1; omega) (fun S hS => by
    have x := inv S hS
    try dsimp only
    rw [Int.toNat_of_nonneg x.1.1, x.2]; exact Int.toNat_natCast S)
  rw [← e]
  refine s2_cg (fun S hS => ?_)
  have x := inv S hS
  try dsimp only
  rw [Int.toNat_of_nonneg x.1.1, x.2]
  by_cases y : bt (S : Int) (j : Int) = true
  · have z := bitXp (s := S) (j := j) ⟨by omega, by omega⟩ ⟨by omega, by omega⟩ y
    rw [if_neg (fun c => by rw [y] at c; exact absurd c.2 (by decide)), if_neg (fun c => by rw [z.2.2] at c; exact absurd c.2 (by decide))]
  · have y := bt_tf y
    have z := bitXs (s := S) (j := j) ⟨by omega, by omega⟩ ⟨by omega, by omega⟩ y
    have p := (bitC (s := S) (j := j) ⟨by omega, by omega⟩ ⟨by omega, by omega⟩ y).1
    have bj : bt (sB (S : Int) (j : Int)) (j : Int) = true := by rw [bt_sB (by omega) (by omega)]; simp
    rw [z]
    by_cases q : pc (S : Int) = (k : Int)
    · rw [if_pos ⟨q, y⟩, if_pos ⟨by rw [p, q]; omega, bj⟩, Int.mul_left_comm, Int.mul_assoc]
    · rw [if_neg (fun c => q c.1), if_neg (fun c => q (by have := c.1; rw [p] at this; omega))]
theorem CA_PM {n : Int} {w : Int → Int → Int} (hn : 0 ≤ n ∧ n ≤ 8) : CAk n w n.toNat 0 = PMv n w (p2 n - 1) := by
  have b := bit2 hn
  have all : ∀ k : Nat, (k : Int) ≤ n → phi n w 0 = phi n w k := by
    intro k
    induction k with
    | zero => intro _; rfl
    | succ k ih => intro h; rw [ih (by omega)]; exact phi_s hn (by omega)
  have h0 : phi n w 0 = CAk n w n.toNat 0 := by
    have : phi n w 0 = s2 (fun S => if S = 0 then (fun S : Nat => PMk n.toNat w 0 S * CAk n w (n.toNat - 0) S) S else 0) (p2 n).toNat := s2_cg (fun S hS => by
      by_cases q : S = 0
      · rw [if_pos q, if_pos (by rw [q]; exact pc_0)]
      · rw [if_neg q, if_neg (fun c => by have := pc1 (s := (S : Int)) ⟨by omega, by omega⟩ (by omega); omega)])
    rw [this, s2_one _ (by omega)]
    show 1 * CAk n w n.toNat 0 = _
    rw [Int.one_mul]
  have hN : phi n w n.toNat = PMv n w (p2 n - 1) := by
    have pf := (bitL (s := p2 n - 1) (n := n) ⟨by omega, by omega⟩ hn).2.1 rfl
    have : phi n w n.toNat = s2 (fun S => if S = (p2 n - 1).toNat then (fun S : Nat => PMk n.toNat w n.toNat S * CAk n w (n.toNat - n.toNat) S) S else 0) (p2 n).toNat := s2_cg (fun S hS => by
      by_cases q : S = (p2 n - 1).toNat
      · rw [if_pos q, if_pos (by rw [q, Int.toNat_of_nonneg (by omega), pf]; omega)]
      · rw [if_neg q, if_neg (fun c => by have := (bitL (s := (S : Int)) (n := n) ⟨by omega, by omega⟩ hn).1 (by omega); omega)])
    rw [this, s2_one _ (by omega)]
    try dsimp only
    rw [Nat.sub_self, Int.toNat_of_nonneg (by omega)]
    show PMk n.toNat w n.toNat (p2 n - 1) * 1 = _
    rw [Int.mul_one]
    unfold PMv
    rw [pf]
  rw [← h0, ← hN]
  exact all n.toNat (by omega)
def e8 : Nat → Int
  | 0 => 1
  | m + 1 => 8 * e8 m
theorem e8_bd : ∀ m : Nat, m ≤ 8 → 1 ≤ e8 m ∧ e8 m ≤ 16777216 := by
  intro m h
  have : m = 0 ∨ m = 1 ∨ m = 2 ∨ m = 3 ∨ m = 4 ∨ m = 5 ∨ m = 6 ∨ m = 7 ∨ m = 8 := by omega
  rcases this with q | q | q | q | q | q | q | q | q <;> subst q <;> decide
theorem CAk_bd {n : Int} {w : Int → Int → Int} (hn : 0 ≤ n ∧ n ≤ 8) (hw : ∀ i j, 0 ≤ i → i < n → 0 ≤ j → j < n → 0 ≤ w i j ∧ w i j ≤ 1) : ∀ (m : Nat) (s : Int), (m : Int) ≤ n → 0 ≤ CAk n w m s ∧ CAk n w m s ≤ e8 m
  | 0, s, _ => by show (0 : Int) ≤ 1 ∧ (1 : Int) ≤ 1; decide
  | m + 1, s, h => by
    have eb := (e8_bd m (by omega)).1
    rw [CAk]
    have := sm_bd (f := fun j => if bt s j = false then w (n - ((m + 1 : Nat) : Int)) j * CAk n w m (sB s j) else 0) (B := e8 m) (by omega) (n := n.toNat) (fun j a b => by
      try dsimp only
      split
      · have x := hw (n - ((m + 1 : Nat) : Int)) j (by omega) (by omega) a (by omega)
        have y := CAk_bd hn hw m (sB s j) (by omega)
        refine ⟨Int.mul_nonneg x.1 y.1, ?_⟩
        rcases (by omega : w (n - ((m + 1 : Nat) : Int)) j = 0 ∨ w (n - ((m + 1 : Nat) : Int)) j = 1) with q | q
        · rw [q, Int.zero_mul]; omega
        · rw [q, Int.one_mul]; exact y.2
      · omega)
    refine ⟨this.1, Int.le_trans this.2 ?_⟩
    show e8 m * (n.toNat : Int) ≤ 8 * e8 m
    rw [Int.mul_comm]
    exact Int.mul_le_mul_of_nonneg_right (by omega) (by omega)
def w01 (op : Int → Int → Prop) (z : Int → Int → Int) : Prop := ∀ i j, (op i j ∧ z i j = 1) ∨ (¬ op i j ∧ z i j = 0)
theorem t_Ch_countAll {σ : eS} {J n : Int} {op : Int → Int → Prop} {w : Int → Int → Int} (hn : 0 ≤ n ∧ n ≤ 8) (hJ : jOf J n op) (hw : w01 op w) : MtL shA M_Ch_countAll [vr 16, vl J, vi n] σ (fun σ' z => fr (fun c _ => c = 18) σ σ' ∧ z = CAk n w n.toNat 0 ∧ 0 ≤ z ∧ z ≤ 16777216) := by
  refine Mt.of okM_Ch_countAll (Nat.le_of_ble_eq_true rfl) (fun hk hg => ?_)
  have b2 := bit2 hn
  have wb : ∀ i j, 0 ≤ i → i < n → 0 ≤ j → j < n → 0 ≤ w i j ∧ w i j ≤ 1 := fun i j _ _ _ _ => by rcases hw i j with q | q <;> omega
  have cb : ∀ T, 0 ≤ T → T < p2 n → 0 ≤ CAk n w (n - pc T).toNat T ∧ CAk n w (n - pc T).toNat T ≤ 16777216 := fun T a b => by
    have p := pc_bd hn ⟨a, b⟩
    have x := CAk_bd hn wb (n - pc T).toNat T (by omega)
    have y := e8_bd (n - pc T).toNat (by omega)
    omega
  refine ok_iconst 0 rfl rfl (by decide) (ok_iload_n 1 rfl rfl rfl (ok_ishl 2 rfl rfl ?_))
  rw [b2.1]
  refine ok_iconst 3 rfl rfl (by decide) (ok_isub 4 rfl rfl (by first | omega | (simp [up_if]; omega) | (simp [up_if] at *; omega)) (ok_ist4 5 rfl rfl rfl (ok_aload_n 6 rfl rfl rfl (ok_getR 7 rfl rfl fl_X0_15 rfl rfl (ok_iload 8 rfl rfl rfl (ok_lconst (w := 1) 9 rfl rfl rfl (by decide) (ok_last 10 rfl rfl rfl (by first | omega | (simp [up_if]; omega) | (simp [up_if] at *; omega)) (ok_iload 11 rfl rfl rfl (ok_iconst 12 rfl rfl (by decide) (ok_isub 13 rfl rfl (by first | omega | (simp [up_if]; omega) | (simp [up_if] at *; omega)) (ok_ist5 14 rfl rfl rfl ?_)))))))))))
  refine lpO2 (fun (s : Int) (_ : eS) => [some (vr 16), some (vl J), none, some (vi n), some (vi (p2 n - 1)), some (vi s), none, none, none, none]) (fun _ ρ => ρ) (fun s ρ => -1 ≤ s ∧ s < p2 n - 1 ∧ fr (fun c _ => c = 18) σ ρ ∧ ∀ T, s < T → T < p2 n → ρ 18 T = CAk n w (n - pc T).toNat T) (fun s _ => (s + 1).toNat) ?_ (p2 n - 1 - 1) _ ⟨by omega, by omega, fr_up fr.rf rfl, fun T a b => by
    have pf := (bitL (s := p2 n - 1) (n := n) ⟨by omega, by omega⟩ hn).2.1 rfl
    rw [show T = p2 n - 1 by omega, up_same, pf, Int.sub_self]; rfl⟩
  rintro s ρ ⟨s1, s2, f, hT⟩ ih
  refine ok_iload 15 rfl rfl rfl (ok_if_lt 16 102 rfl rfl rfl (fun h23 => ?_) (fun h23 => ?_))
  · refine ok_aload_n 59 rfl rfl rfl (ok_getR 60 rfl rfl fl_X0_15 rfl rfl (ok_iconst 61 rfl rfl (by decide) (ok_lald 62 rfl rfl rfl (by first | omega | (simp [up_if]; omega) | (simp [up_if] at *; omega)) (ok_lret 63 rfl rfl rfl ?_))))
    have e0 := hT 0 (by omega) (by omega)
    rw [pc_0, Int.sub_zero] at e0
    have := cb 0 (by omega) (by omega)
    rw [pc_0, Int.sub_zero] at this
    exact ⟨_, rfl, f, e0, by omega, by omega⟩
  · refine ok_lload_n 17 rfl rfl rfl (ok_iload 18 rfl rfl rfl (ok_callSI (M' := M_Ji_bitCount) (as := [_]) 19 rfl rfl ml_X0_38 (s_Ji_bitCount) ⟨Nat.le_of_ble_eq_true rfl, Nat.le_of_ble_eq_true rfl⟩ rfl (Nat.le_of_ble_eq_true rfl) (fun σ' z hz => ?_)))
    rw [hz.1, hz.2]
    clear hz z σ'
    refine ok_callSI (M' := M_Jo_rowOf) (as := [_, _]) 20 rfl rfl ml_X0_26 (s_Jo_rowOf) ⟨Nat.le_of_ble_eq_true rfl, Nat.le_of_ble_eq_true rfl⟩ rfl (Nat.le_of_ble_eq_true rfl) (fun σ' z hz => ?_)
    rw [hz.1, hz.2]
    clear hz z σ'
    refine ok_iload 21 rfl rfl rfl (ok_iconst 22 rfl rfl (by decide) (ok_ixor 23 rfl rfl (ok_iand 24 rfl rfl (ok_ist6 25 rfl rfl rfl (ok_lconst (w := 0) 26 rfl rfl rfl (by decide) (ok_lst7 27 rfl rfl rfl (ok_iconst 28 rfl rfl (by decide) (ok_ist9 29 rfl rfl rfl ?_))))))))
    have p1 := (bitL (s := s) ⟨by omega, by omega⟩ hn)
    have p3 := p1.1 s2
    have p4 := p1.2.2.1
    clear p1
    rw [bcP (s := s) ⟨by omega, by omega⟩]
    obtain ⟨o, eo⟩ : ∃ o : Int, o = iand (rowJ J (pc s)) (ixor s (-1)) := ⟨_, rfl⟩
    rw [← eo]
    obtain ⟨F, eF⟩ : ∃ F : Int → Int, F = fun j => if bt s j = false then w (pc s) j * CAk n w (n - pc s - 1).toNat (sB s j) else 0 := ⟨_, rfl⟩
    have hF : ∀ j, F j = if bt s j = false then w (pc s) j * CAk n w (n - pc s - 1).toNat (sB s j) else 0 := fun j => by rw [eF]
    have hA : CAk n w (n - pc s).toNat s = sm F n.toNat := by
      rw [show (n - pc s).toNat = (n - pc s - 1).toNat + 1 by omega, CAk, eF, show n - (((n - pc s - 1).toNat + 1 : Nat) : Int) = pc s by omega]
    clear eF
    have term : ∀ j, 0 ≤ j → j < n → bt s j = false → op (pc s) j → F j = ρ 18 (sB s j) ∧ 0 ≤ ρ 18 (sB s j) ∧ ρ 18 (sB s j) ≤ 16777216 := fun j a b c d => by
      have sl := sB_lt (s := s) (j := j) (n := n) ⟨by omega, by omega⟩ ⟨a, b⟩
      have sp := bitC (s := s) (j := j) ⟨by omega, by omega⟩ ⟨a, by omega⟩ c
      have e := hT (sB s j) sp.2 sl.2
      have := cb _ sl.1 sl.2
      rw [hF, if_pos c]
      rcases hw (pc s) j with y | y
      · rw [y.2, Int.one_mul, e, sp.1, show n - (pc s + 1) = n - pc s - 1 by omega]
        rw [sp.1, show n - (pc s + 1) = n - pc s - 1 by omega] at this
        exact ⟨rfl, this.1, this.2⟩
      · exact absurd d y.1
    have no : ∀ j, ¬ (bt s j = false ∧ op (pc s) j) → F j = 0 := fun j c => by
      rw [hF]
      by_cases y : bt s j = false
      · rw [if_pos y]
        rcases hw (pc s) j with x | x
        · exact absurd ⟨y, x.1⟩ c
        · rw [x.2, Int.zero_mul]
      · rw [if_neg y]
    refine lpO2 (fun (v j : Int) => [some (vr 16), some (vl J), none, some (vi n), some (vi (p2 n - 1)), some (vi s), some (vi o), some (vl v), none, some (vi j)]) (fun _ _ => ρ) (fun v j => 0 ≤ j ∧ j ≤ n ∧ 0 ≤ v ∧ v ≤ 16777216 * j ∧ v = sm F j.toNat) (fun _ j => (8 - j).toNat) ?_ 0 0 ⟨by omega, by omega, by omega, by omega, rfl⟩
    rintro v j ⟨j1, j2, v1, v2, v3⟩ ih2
    have es := sm_s F j1
    rw [← v3] at es
    refine ok_iload 30 rfl rfl rfl (ok_iload_n 31 rfl rfl rfl (ok_icmp_ge 32 87 rfl rfl rfl (fun h51 => ?_) (fun h51 => ?_)))
    · refine ok_aload_n 52 rfl rfl rfl (ok_getR 53 rfl rfl fl_X0_15 rfl rfl (ok_iload 54 rfl rfl rfl (ok_lload 55 rfl rfl rfl (ok_last 56 rfl rfl rfl (by first | omega | (simp [up_if]; omega) | (simp [up_if] at *; omega)) (ok_inc5 57 rfl rfl rfl (by first | omega | (simp [up_if]; omega) | (simp [up_if] at *; omega)) (ok_goto 58 21 rfl rfl rfl ?_))))))
      refine ok_fg [some (vr 16), some (vl J), none, some (vi n), some (vi (p2 n - 1)), some (vi (s + -1)), none, none, none, none] ⟨rfl, rfl, rfl, rfl, rfl, trivial⟩ (ih (s + -1) _ ⟨by omega, by omega, fr_up f rfl, fun T a b => ?_⟩ (by omega))
      by_cases q : T = s
      · rw [q, up_same, hA, v3, show j = n by omega]
      · rw [up_nk _ _ _ _ q]; exact hT T (by omega) b
    · have hop := open_sp hn hJ (T := s) ⟨by omega, by omega⟩ ⟨p4, p3⟩ (j := j) ⟨j1, by omega⟩
      rw [← eo] at hop
      have sl := sB_lt (s := s) (j := j) (n := n) ⟨by omega, by omega⟩ ⟨j1, by omega⟩
      have e2 := bitP (s := s) (j := j) ⟨by omega, by omega⟩ ⟨j1, by omega⟩
      refine ok_iload 33 rfl rfl rfl (ok_iload 34 rfl rfl rfl (ok_ishr 35 rfl rfl (ok_iconst 36 rfl rfl (by decide) (ok_iand 37 rfl rfl (ok_if_eq 38 81 rfl rfl rfl (fun h61 => ?_) (fun h61 => ?_))))))
      · refine ok_inc9 50 rfl rfl rfl (by first | omega | (simp [up_if]; omega) | (simp [up_if] at *; omega)) (ok_goto 51 48 rfl rfl rfl ?_)
        exact ih2 _ (j + 1) ⟨by omega, by omega, by omega, by omega, by rw [es, no j (hop.2.mp h61)]; omega⟩ (by omega)
      · obtain ⟨ob, oo⟩ := hop.1.mp h61
        obtain ⟨t1, t2, t3⟩ := term j j1 (by omega) ob oo
        refine ok_lload 39 rfl rfl rfl (ok_aload_n 40 rfl rfl rfl (ok_getR 41 rfl rfl fl_X0_15 rfl rfl (ok_iload 42 rfl rfl rfl (ok_iconst 43 rfl rfl (by decide) (ok_iload 44 rfl rfl rfl (ok_ishl 45 rfl rfl (ok_ior 46 rfl rfl ?_)))))))
        rw [e2]
        refine ok_lald 47 rfl rfl rfl (by omega) (ok_ladd 48 rfl rfl (by first | omega | (simp [up_if]; omega) | (simp [up_if] at *; omega)) (ok_lst7 49 rfl rfl rfl (ok_inc9 50 rfl rfl rfl (by first | omega | (simp [up_if]; omega) | (simp [up_if] at *; omega)) (ok_goto 51 48 rfl rfl rfl ?_))))
        exact ih2 _ (j + 1) ⟨by omega, by omega, by omega, by omega, by rw [es, t1]⟩ (by omega)
end
