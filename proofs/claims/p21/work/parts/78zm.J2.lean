/-! LACK: the same walk over all sets of rows, on both sides -/
def cOp (n : Int) (op : Int → Int → Prop) (s z : Int) : Prop := (0 ≤ z ∧ z < 256) ∧ ∀ c : Int, 0 ≤ c → c < 8 → (bt z c = true ↔ (c < n ∧ ∃ r, 0 ≤ r ∧ r < n ∧ bt s r = true ∧ op r c))
theorem cOp_un {n s z z' : Int} {op : Int → Int → Prop} (h : cOp n op s z) (h' : cOp n op s z') : z = z' := bt_ext h.1 h'.1 (fun c a b => by
  have e := (h.2 c a b).trans (h'.2 c a b).symm
  cases q : bt z c <;> cases q' : bt z' c <;> simp_all)
theorem cOp_cg {n s z : Int} {op op' : Int → Int → Prop} (h : cOp n op s z) (e : ∀ i j, 0 ≤ i → i < n → 0 ≤ j → j < n → (op i j ↔ op' i j)) : cOp n op' s z := ⟨h.1, fun c a b => by
  rw [h.2 c a b]
  constructor
  · rintro ⟨q, r, r1, r2, r3, r4⟩; exact ⟨q, r, r1, r2, r3, (e r c r1 r2 a q).mp r4⟩
  · rintro ⟨q, r, r1, r2, r3, r4⟩; exact ⟨q, r, r1, r2, r3, (e r c r1 r2 a q).mpr r4⟩⟩
theorem cOf_op {J n s z : Int} {op : Int → Int → Prop} (hn : n ≤ 8) (hJ : jOf J n op) (h : cOf J n s z) : cOp n op s z := ⟨h.1, fun c a b => by
  rw [h.2 c a b]
  constructor
  · rintro ⟨r, r1, r2, r3, r4⟩
    obtain ⟨q1, q2, q3⟩ := (hJ.2 r c r1 (by omega) a b).mp r4
    exact ⟨q2, r, r1, r2, r3, q3⟩
  · rintro ⟨q, r, r1, r2, r3, r4⟩
    exact ⟨r, r1, r2, r3, (hJ.2 r c r1 (by omega) a b).mpr ⟨r2, q, r4⟩⟩⟩
noncomputable def cP (n : Int) (op : Int → Int → Prop) (s : Int) : Int := Classical.epsilon (fun z => cOp n op s z)
theorem cP_eq {n s z : Int} {op : Int → Int → Prop} (h : cOp n op s z) : cP n op s = z := cOp_un (Classical.epsilon_spec (p := fun z => cOp n op s z) ⟨z, h⟩) h
noncomputable def lkF (n : Int) (op : Int → Int → Prop) (s : Int) : Int := pc s - pc (cP n op s)
def lkB (f : Int → Int) : Nat → Int × Int
  | 0 => (0, 0)
  | k + 1 => if (lkB f k).2 < f ((k + 1 : Nat) : Int) then (((k + 1 : Nat) : Int), f ((k + 1 : Nat) : Int)) else lkB f k
theorem lkB_s {f : Int → Int} {k : Int} (h : 1 ≤ k) : lkB f k.toNat = if (lkB f (k - 1).toNat).2 < f k then (k, f k) else lkB f (k - 1).toNat := by
  obtain ⟨m, hm⟩ : ∃ m : Nat, k = ((m + 1 : Nat) : Int) := ⟨(k - 1).toNat, by omega⟩
  subst hm
  rw [show (((m + 1 : Nat) : Int)).toNat = m + 1 by omega, show (((m + 1 : Nat) : Int) - 1).toNat = m by omega]
  rfl
theorem lkB_bd {f : Int → Int} : ∀ k : Nat, 0 ≤ (lkB f k).1 ∧ (lkB f k).1 ≤ (k : Int)
  | 0 => ⟨Int.le_refl _, Int.le_refl _⟩
  | k + 1 => by
    have := lkB_bd (f := f) k
    rw [lkB]
    split
    · dsimp only; omega
    · omega
theorem lkB_f {f : Int → Int} (h0 : f 0 = 0) : ∀ k : Nat, (lkB f k).2 = f (lkB f k).1
  | 0 => h0.symm
  | k + 1 => by
    have := lkB_f h0 k
    rw [lkB]
    split
    · rfl
    · exact this
theorem pc_0 : pc 0 = 0 := by decide
theorem cOp_0 (n : Int) (op : Int → Int → Prop) : cOp n op 0 0 := ⟨⟨by omega, by omega⟩, fun c a b => by
  rw [bt_0]
  constructor
  · intro q; cases q
  · rintro ⟨q, r, r1, r2, r3, r4⟩; rw [bt_0] at r3; cases r3⟩
theorem lkF_0 (n : Int) (op : Int → Int → Prop) : lkF n op 0 = 0 := by unfold lkF; rw [cP_eq (cOp_0 n op), pc_0]; rfl
theorem t_Jo_rowsMostLacking {σ : eS} {J n : Int} {op : Int → Int → Prop} (hn : 0 ≤ n ∧ n ≤ 8) (hJ : jOf J n op) : MtI shA M_Jo_rowsMostLacking [vl J, vi n] σ (fun σ' z => σ' = σ ∧ z = (lkB (lkF n op) (p2 n - 1).toNat).1) := by
  refine Mt.of okM_Jo_rowsMostLacking (Nat.le_of_ble_eq_true rfl) (fun hk hg => ?_)
  have b2 := bit2 hn
  refine ok_iconst 0 rfl rfl (by decide) (ok_ist3 1 rfl rfl rfl (ok_iconst 2 rfl rfl (by decide) (ok_ist4 3 rfl rfl rfl (ok_iconst 4 rfl rfl (by decide) (ok_ist5 5 rfl rfl rfl ?_)))))
  refine lpO3 (fun g v j : Int => [some (vl J), none, some (vi n), some (vi g), some (vi v), some (vi j), none]) (fun _ _ _ => σ) (fun g v j => 1 ≤ j ∧ j ≤ p2 n ∧ (g, v) = lkB (lkF n op) (j - 1).toNat) (fun _ _ j => (256 - j).toNat) ?_ 0 0 1 ⟨by omega, by omega, rfl⟩
  rintro g v j ⟨j1, j2, e⟩ ih
  refine ok_iload 6 rfl rfl rfl (ok_iconst 7 rfl rfl (by decide) (ok_iload_n 8 rfl rfl rfl (ok_ishl 9 rfl rfl ?_)))
  rw [b2.1]
  refine ok_icmp_ge 10 54 rfl rfl rfl (fun h13 => ?_) (fun h13 => ?_)
  · refine ok_iload_n 29 rfl rfl rfl (ok_iret 30 rfl rfl rfl ?_)
    exact ⟨_, rfl, rfl, by rw [show p2 n - 1 = j - 1 by omega, ← e]⟩
  · have pj := (bitL (s := j) (n := 8) (by omega) (by omega)).2.2
    refine ok_iload 11 rfl rfl rfl (ok_callSI (M' := M_Ji_bitCount) (as := [_]) 12 rfl rfl ml_X1_28 (s_Ji_bitCount) ⟨Nat.le_of_ble_eq_true rfl, Nat.le_of_ble_eq_true rfl⟩ rfl (Nat.le_of_ble_eq_true rfl) (fun σ' z hz => ?_))
    rw [hz.1, hz.2]
    clear hz z σ'
    refine ok_lload_n 13 rfl rfl rfl (ok_iload 14 rfl rfl rfl (ok_iload_n 15 rfl rfl rfl (ok_callSI (M' := M_Jo_columnsOf) (as := [_, _, _]) 16 rfl rfl ml_X1_25 (t_Jo_columnsOf hn ⟨by omega, by omega⟩) ⟨Nat.le_of_ble_eq_true rfl, Nat.le_of_ble_eq_true rfl⟩ rfl (Nat.le_of_ble_eq_true rfl) (fun σ' z2 x2 => ?_))))
    obtain ⟨hs_, x2⟩ := x2
    rw [hs_]; clear hs_ σ'
    have cz := cP_eq (cOf_op hn.2 hJ x2)
    have pz := (bitL (s := z2) (n := 8) x2.1 (by omega)).2.2
    rw [bcP (s := j) ⟨by omega, by omega⟩]
    refine ok_callSI (M' := M_Ji_bitCount) (as := [_]) 17 rfl rfl ml_X1_28 (s_Ji_bitCount) ⟨Nat.le_of_ble_eq_true rfl, Nat.le_of_ble_eq_true rfl⟩ rfl (Nat.le_of_ble_eq_true rfl) (fun σ' z hz => ?_)
    rw [hz.1, hz.2]
    clear hz z σ'
    rw [bcP (s := z2) x2.1]
    refine ok_isub 18 rfl rfl (by first | omega | (simp [up_if]; omega) | (simp [up_if] at *; omega)) (ok_ist6 19 rfl rfl rfl (ok_iload 20 rfl rfl rfl (ok_iload 21 rfl rfl rfl (ok_icmp_le 22 48 rfl rfl rfl (fun h38 => ?_) (fun h38 => ?_)))))
    · refine ok_inc5 27 rfl rfl rfl (by first | omega | (simp [up_if]; omega) | (simp [up_if] at *; omega)) (ok_goto 28 8 rfl rfl rfl ?_)
      have es := lkB_s (f := lkF n op) (k := j) (by omega)
      rw [← e] at es
      have fj : lkF n op j = pc j - pc z2 := by unfold lkF; rw [cz]
      rw [fj] at es
      dsimp only at es
      refine ok_fg [some (vl J), none, some (vi n), some (vi _), some (vi _), some (vi (j + 1)), none] ⟨rfl, rfl, rfl, rfl, rfl, trivial⟩ (ih _ _ (j + 1) ⟨by omega, by omega, ?_⟩ (by omega))
      rw [show j + 1 - 1 = j by omega, es]
      first | rw [if_pos (by omega)] | rw [if_neg (by omega)]
    · refine ok_iload 23 rfl rfl rfl (ok_ist4 24 rfl rfl rfl (ok_iload 25 rfl rfl rfl (ok_ist3 26 rfl rfl rfl (ok_inc5 27 rfl rfl rfl (by first | omega | (simp [up_if]; omega) | (simp [up_if] at *; omega)) (ok_goto 28 8 rfl rfl rfl ?_)))))
      have es := lkB_s (f := lkF n op) (k := j) (by omega)
      rw [← e] at es
      have fj : lkF n op j = pc j - pc z2 := by unfold lkF; rw [cz]
      rw [fj] at es
      dsimp only at es
      refine ok_fg [some (vl J), none, some (vi n), some (vi _), some (vi _), some (vi (j + 1)), none] ⟨rfl, rfl, rfl, rfl, rfl, trivial⟩ (ih _ _ (j + 1) ⟨by omega, by omega, ?_⟩ (by omega))
      rw [show j + 1 - 1 = j by omega, es]
      first | rw [if_pos (by omega)] | rw [if_neg (by omega)]
def isL (l : Int) : Prop := 0 ≤ l ∧ l ≤ 99999999
noncomputable def lackV (n : Int) (op : Int → Int → Prop) (w : Int) : Int := if w = 0 then (lkB (lkF n op) (p2 n - 1).toNat).2 else if w = 1 then (lkB (lkF n op) (p2 n - 1).toNat).1 else cP n op (lkB (lkF n op) (p2 n - 1).toNat).1
def okL (T : Prop) (l w : Int) : Prop := T ∧ isL l ∧ 0 ≤ w ∧ w ≤ 2
theorem t_Ev_lack {σ : eS} {s m w : Int} (h : IA σ) : MtI shA M_Ev_lack [vr 0, vi s, vi m, vi w] σ (fun σ' z => σ' = σ ∧ ((¬ okL (tabA σ s) m w ∧ z = -1) ∨ (okL (tabA σ s) m w ∧ z = lackV (σ (s.toNat + 2) 1) (fun i j => m ≤ cT σ (s.toNat + 2) i j) w))) := by
  refine Mt.of okM_Ev_lack (Nat.le_of_ble_eq_true rfl) (fun hk hg => ?_)
  refine ok_aload_n 0 rfl rfl rfl (ok_iload_n 1 rfl rfl rfl (ok_callVR (M' := M_Ev_filledSlot) (as := [_]) 2 rfl rfl ml_X11_137 (s_Ev_filledSlot) rfl rfl (Nat.le_of_ble_eq_true rfl) ⟨Nat.le_of_ble_eq_true rfl, Nat.le_of_ble_eq_true rfl⟩ rfl (Nat.le_of_ble_eq_true rfl) (fun σ' z hz => ?_)))
  obtain ⟨hs_, hz⟩ := hz
  rw [hs_]; clear hs_ σ'
  rcases hz with ⟨q, q0⟩ | ⟨q1, q2, q, q3⟩
  · subst q
    refine ok_ast4 3 rfl rfl rfl (ok_aload 4 rfl rfl rfl (ok_ifnullN 5 28 rfl rfl rfl (ok_iconst 14 rfl rfl (by decide) (ok_iret 15 rfl rfl rfl ?_))))
    exact ⟨_, rfl, rfl, Or.inl ⟨fun c => q0 c.1, rfl⟩⟩
  · subst q
    have ht := sl_tA ⟨q1, q2⟩
    have hT := (h.2.1 _ ht).1
    have hn : 0 ≤ σ (s.toNat + 2) 1 ∧ σ (s.toNat + 2) 1 ≤ 8 := ⟨hT.1, hT.2.1⟩
    obtain ⟨op, eop⟩ : ∃ op : Int → Int → Prop, op = fun i j => m ≤ cT σ (s.toNat + 2) i j := ⟨_, rfl⟩
    have b2 := bit2 hn
    have lb := lkB_bd (f := lkF (σ (s.toNat + 2) 1) op) (p2 (σ (s.toNat + 2) 1) - 1).toNat
    have lf := lkB_f (lkF_0 (σ (s.toNat + 2) 1) op) (p2 (σ (s.toNat + 2) 1) - 1).toNat
    refine ok_ast4 3 rfl rfl rfl (ok_aload 4 rfl rfl rfl (ok_ifnull 5 rfl rfl (ok_iload_n 6 rfl rfl rfl (ok_callSI (M' := M_Ev_isCell) (as := [_]) 7 rfl rfl ml_X11_208 (s_Ev_isCell) ⟨Nat.le_of_ble_eq_true rfl, Nat.le_of_ble_eq_true rfl⟩ rfl (Nat.le_of_ble_eq_true rfl) (fun σ' z0 x0 => ?_)))))
    obtain ⟨hs_, x0⟩ := x0
    rw [hs_]; clear hs_ σ'
    refine ok_if_eq 8 28 rfl rfl rfl (fun h16 => ?_) (fun h16 => ?_)
    · refine ok_iconst 14 rfl rfl (by decide) (ok_iret 15 rfl rfl rfl ?_)
      refine ⟨_, rfl, rfl, Or.inl ⟨fun c => ?_, rfl⟩⟩
      obtain ⟨c1, c2, c3, c4⟩ := c
      unfold isL at c2
      omega
    · refine ok_iload_n 9 rfl rfl rfl (ok_if_lt 10 28 rfl rfl rfl (fun h20 => ?_) (fun h20 => ?_))
      · refine ok_iconst 14 rfl rfl (by decide) (ok_iret 15 rfl rfl rfl ?_)
        refine ⟨_, rfl, rfl, Or.inl ⟨fun c => ?_, rfl⟩⟩
        obtain ⟨c1, c2, c3, c4⟩ := c
        unfold isL at c2
        omega
      · refine ok_iload_n 11 rfl rfl rfl (ok_iconst 12 rfl rfl (by decide) (ok_icmp_le 13 30 rfl rfl rfl (fun h25 => ?_) (fun h25 => ?_)))
        · refine ok_aload 16 rfl rfl rfl (ok_iload_n 17 rfl rfl rfl (ok_callVL (M' := M_Ta_joinedBy) (as := [_]) 18 rfl rfl ml_X11_119 (t_Ta_joinedBy ht hT) (sT ht) rfl (Nat.le_of_ble_eq_true rfl) ⟨Nat.le_of_ble_eq_true rfl, Nat.le_of_ble_eq_true rfl⟩ rfl (Nat.le_of_ble_eq_true rfl) (fun σ' z1 x1 => ?_)))
          obtain ⟨hs_, x1⟩ := x1
          rw [hs_]; clear hs_ σ'
          rw [← eop] at x1
          refine ok_lst5 19 rfl rfl rfl (ok_lload 20 rfl rfl rfl (ok_aload 21 rfl rfl rfl (ok_getI 22 rfl rfl fl_X11_103 (sT ht) rfl (Or.inl rfl) (ok_callSI (M' := M_Jo_rowsMostLacking) (as := [_, _]) 23 rfl rfl ml_X11_211 (t_Jo_rowsMostLacking hn x1) ⟨Nat.le_of_ble_eq_true rfl, Nat.le_of_ble_eq_true rfl⟩ rfl (Nat.le_of_ble_eq_true rfl) (fun σ' z2 x2 => ?_)))))
          obtain ⟨hs_, x2⟩ := x2
          rw [hs_]; clear hs_ σ'
          have z2b : 0 ≤ z2 ∧ z2 < 256 := by rw [x2]; omega
          have p2b := (bitL (s := z2) (n := 8) z2b (by omega)).2.2
          refine ok_ist7 24 rfl rfl rfl (ok_lload 25 rfl rfl rfl (ok_iload 26 rfl rfl rfl (ok_aload 27 rfl rfl rfl (ok_getI 28 rfl rfl fl_X11_103 (sT ht) rfl (Or.inl rfl) (ok_callSI (M' := M_Jo_columnsOf) (as := [_, _, _]) 29 rfl rfl ml_X11_214 (t_Jo_columnsOf hn z2b) ⟨Nat.le_of_ble_eq_true rfl, Nat.le_of_ble_eq_true rfl⟩ rfl (Nat.le_of_ble_eq_true rfl) (fun σ' z3 x3 => ?_))))))
          obtain ⟨hs_, x3⟩ := x3
          rw [hs_]; clear hs_ σ'
          have cz := cP_eq (cOf_op hn.2 x1 x3)
          have p3b := (bitL (s := z3) (n := 8) x3.1 (by omega)).2.2
          refine ok_ist8 30 rfl rfl rfl (ok_iload_n 31 rfl rfl rfl (ok_if_ne 32 80 rfl rfl rfl (fun h65 => ?_) (fun h65 => ?_)))
          · refine ok_iload_n 39 rfl rfl rfl (ok_iconst 40 rfl rfl (by decide) (ok_icmp_ne 41 90 rfl rfl rfl (fun h82 => ?_) (fun h82 => ?_)))
            · refine ok_iload 44 rfl rfl rfl (ok_iret 45 rfl rfl rfl ?_)
              refine ⟨_, rfl, rfl, Or.inr ⟨⟨⟨q1, q2, q3⟩, by unfold isL; omega, by omega, by omega⟩, ?_⟩⟩
              unfold lackV
              rw [if_neg (by omega)]
              first | (rw [if_pos (by omega), ← eop]; exact x2) | (rw [if_neg (by omega), ← eop, ← x2]; exact cz.symm)
            · refine ok_iload 42 rfl rfl rfl (ok_goto 43 92 rfl rfl rfl (ok_iret 45 rfl rfl rfl ?_))
              refine ⟨_, rfl, rfl, Or.inr ⟨⟨⟨q1, q2, q3⟩, by unfold isL; omega, by omega, by omega⟩, ?_⟩⟩
              unfold lackV
              rw [if_neg (by omega)]
              first | (rw [if_pos (by omega), ← eop]; exact x2) | (rw [if_neg (by omega), ← eop, ← x2]; exact cz.symm)
          · refine ok_iload 33 rfl rfl rfl (ok_callSI (M' := M_Ji_bitCount) (as := [_]) 34 rfl rfl ml_X11_218 (s_Ji_bitCount) ⟨Nat.le_of_ble_eq_true rfl, Nat.le_of_ble_eq_true rfl⟩ rfl (Nat.le_of_ble_eq_true rfl) (fun σ' z hz => ?_))
            rw [hz.1, hz.2]
            clear hz z σ'
            rw [bcP (s := z2) z2b]
            refine ok_iload 35 rfl rfl rfl (ok_callSI (M' := M_Ji_bitCount) (as := [_]) 36 rfl rfl ml_X11_218 (s_Ji_bitCount) ⟨Nat.le_of_ble_eq_true rfl, Nat.le_of_ble_eq_true rfl⟩ rfl (Nat.le_of_ble_eq_true rfl) (fun σ' z hz => ?_))
            rw [hz.1, hz.2]
            clear hz z σ'
            rw [bcP (s := z3) x3.1]
            refine ok_isub 37 rfl rfl (by first | omega | (simp [up_if]; omega) | (simp [up_if] at *; omega)) (ok_iret 38 rfl rfl rfl ?_)
            refine ⟨_, rfl, rfl, Or.inr ⟨⟨⟨q1, q2, q3⟩, by unfold isL; omega, by omega, by omega⟩, ?_⟩⟩
            unfold lackV
            rw [if_pos (by omega), ← eop, lf, ← x2]
            unfold lkF
            rw [cz]
        · refine ok_iconst 14 rfl rfl (by decide) (ok_iret 15 rfl rfl rfl ?_)
          refine ⟨_, rfl, rfl, Or.inl ⟨fun c => ?_, rfl⟩⟩
          obtain ⟨c1, c2, c3, c4⟩ := c
          unfold isL at c2
          omega
theorem bt_sB' {s j k : Int} (hj : 0 ≤ j) (hk : 0 ≤ k) : bt (sB s j) k = true ↔ (bt s k = true ∨ k = j) := by rw [bt_sB hj hk]; simp
theorem t_Mo_joined {σ : eS} {s T l : Int} (hB : iB1 σ) (ht : tabB σ s) (hT : 0 ≤ T ∧ T < 256) : MtI shB M_Mo_joined [vr 0, vi s, vi T, vi l] σ (fun σ' z => σ' = σ ∧ cOp (σ 1 s) (fun i j => l ≤ cB σ s i j) T z) := by
  refine Mt.of okM_Mo_joined (Nat.le_of_ble_eq_true rfl) (fun hk hg => ?_)
  obtain ⟨u1, u2, u3⟩ := ht
  have tn := hB.1 s u1 u2
  obtain ⟨z1, z2, z3, -⟩ := bit2 (n := σ 1 s) ⟨by omega, by omega⟩
  refine ok_iconst 0 rfl rfl (by decide) (ok_ist4 1 rfl rfl rfl (ok_iconst 2 rfl rfl (by decide) (ok_ist5 3 rfl rfl rfl ?_)))
  refine lpO2 (fun v i : Int => [some (vr 0), some (vi s), some (vi T), some (vi l), some (vi v), some (vi i), none]) (fun _ _ => σ) (fun v i => 0 ≤ i ∧ i ≤ σ 1 s ∧ 0 ≤ v ∧ v < p2 (σ 1 s) ∧ ∀ c, 0 ≤ c → c < 8 → (bt v c = true ↔ (c < σ 1 s ∧ ∃ r, 0 ≤ r ∧ r < i ∧ bt T r = true ∧ l ≤ cB σ s r c))) (fun _ i => (σ 1 s - i).toNat) ?_ 0 0 ⟨by omega, by omega, by omega, by omega, fun c a b => by rw [bt_0]; constructor; intro q; cases q; rintro ⟨-, r, q1, q2, -⟩; omega⟩
  rintro v i ⟨i1, i2, v1, v2, v3⟩ ih
  refine ok_iload 4 rfl rfl rfl (ok_aload_n 5 rfl rfl rfl (ok_getR 6 rfl rfl fl_X12_7 rfl rfl (ok_iload_n 7 rfl rfl rfl (ok_iald 8 rfl rfl rfl (by first | omega | (simp [up_if]; omega) | (simp [up_if] at *; omega)) (ok_icmp_ge 9 75 rfl rfl rfl (fun h14 => ?_) (fun h14 => ?_))))))
  · refine ok_iload 42 rfl rfl rfl (ok_iret 43 rfl rfl rfl ?_)
    exact ⟨_, rfl, rfl, ⟨v1, by omega⟩, fun c a b => by rw [v3 c a b, show i = σ 1 s by omega]⟩
  · refine ok_iconst 10 rfl rfl (by decide) (ok_ist6 11 rfl rfl rfl ?_)
    have il : i < σ 1 s := by omega
    refine lpO2 (fun v j : Int => [some (vr 0), some (vi s), some (vi T), some (vi l), some (vi v), some (vi i), some (vi j)]) (fun _ _ => σ) (fun v j => 0 ≤ j ∧ j ≤ σ 1 s ∧ 0 ≤ v ∧ v < p2 (σ 1 s) ∧ ∀ c, 0 ≤ c → c < 8 → (bt v c = true ↔ (c < σ 1 s ∧ ∃ r, 0 ≤ r ∧ (r < i ∨ (r = i ∧ c < j)) ∧ bt T r = true ∧ l ≤ cB σ s r c))) (fun _ j => (σ 1 s - j).toNat) ?_ v 0 ⟨by omega, by omega, by omega, by omega, fun c a b => by rw [v3 c a b]; exact ⟨fun ⟨q, r, r1, r2, r3⟩ => ⟨q, r, r1, Or.inl r2, r3⟩, fun ⟨q, r, r1, r2, r3⟩ => ⟨q, r, r1, by omega, r3⟩⟩⟩
    clear v1 v2 v3 v
    rintro v j ⟨j1, j2, v1, v2, v3⟩ ih2
    refine ok_iload 12 rfl rfl rfl (ok_aload_n 13 rfl rfl rfl (ok_getR 14 rfl rfl fl_X12_7 rfl rfl (ok_iload_n 15 rfl rfl rfl (ok_iald 16 rfl rfl rfl (by first | omega | (simp [up_if]; omega) | (simp [up_if] at *; omega)) (ok_icmp_ge 17 69 rfl rfl rfl (fun h28 => ?_) (fun h28 => ?_))))))
    · refine ok_inc5 40 rfl rfl rfl (by first | omega | (simp [up_if]; omega) | (simp [up_if] at *; omega)) (ok_goto 41 6 rfl rfl rfl ?_)
      exact ok_fg [some (vr 0), some (vi s), some (vi T), some (vi l), some (vi _), some (vi (i + 1)), none] ⟨rfl, rfl, rfl, rfl, rfl, rfl, trivial⟩ (ih _ (i + 1) ⟨by omega, by omega, by omega, by omega, fun c a b => by rw [v3 c a b]; exact ⟨fun ⟨q, r, r1, r2, r3⟩ => ⟨q, r, r1, by omega, r3⟩, fun ⟨q, r, r1, r2, r3⟩ => ⟨q, r, r1, by omega, r3⟩⟩⟩ (by omega))
    · have e2 := bitP (s := v) (j := j) (by omega) (by omega)
      have bz := bitG (s := T) (j := i) hT ⟨by omega, by omega⟩
      obtain ⟨l1, l2⟩ := sB_lt (s := v) (j := j) (n := σ 1 s) ⟨v1, v2⟩ ⟨j1, by omega⟩
      have stay : ¬ (bt T i = true ∧ l ≤ cB σ s i j) → ∀ c, 0 ≤ c → c < 8 → (bt v c = true ↔ (c < σ 1 s ∧ ∃ r, 0 ≤ r ∧ (r < i ∨ (r = i ∧ c < j + 1)) ∧ bt T r = true ∧ l ≤ cB σ s r c)) := fun hno c a b => by
        rw [v3 c a b]
        constructor
        · rintro ⟨q, r, r1, r2, r3⟩; exact ⟨q, r, r1, by omega, r3⟩
        · rintro ⟨q, r, r1, r2, r3, r4⟩
          by_cases w : r = i ∧ c = j
          · rw [w.1] at r3; rw [w.1, w.2] at r4; exact absurd ⟨r3, r4⟩ hno
          · exact ⟨q, r, r1, by omega, r3, r4⟩
      refine ok_iload_n 18 rfl rfl rfl (ok_iload 19 rfl rfl rfl (ok_ishr 20 rfl rfl (ok_iconst 21 rfl rfl (by decide) (ok_iand 22 rfl rfl (ok_iconst 23 rfl rfl (by decide) ?_)))))
      rw [bz]
      refine ok_icmp_ne 24 63 rfl rfl rfl (fun h38 => ?_) (fun h38 => ?_)
      · refine ok_inc6 38 rfl rfl rfl (by first | omega | (simp [up_if]; omega) | (simp [up_if] at *; omega)) (ok_goto 39 20 rfl rfl rfl ?_)
        refine ih2 _ (j + 1) ⟨by omega, by omega, by omega, by omega, stay (fun q => ?_)⟩ (by omega)
        rw [if_pos q.1] at h38; exact h38 rfl
      · refine ok_aload_n 25 rfl rfl rfl (ok_iload_n 26 rfl rfl rfl (ok_iload 27 rfl rfl rfl (ok_iload 28 rfl rfl rfl (ok_callVI (M' := M_Mo_at) (as := [_, _, _]) 29 rfl rfl ml_X12_107 (s_Mo_at hB ⟨u1, u2⟩ ⟨by omega, by omega⟩ ⟨by omega, by omega⟩) rfl rfl (Nat.le_of_ble_eq_true rfl) ⟨Nat.le_of_ble_eq_true rfl, Nat.le_of_ble_eq_true rfl⟩ rfl (Nat.le_of_ble_eq_true rfl) (fun σ' z hz => ?_)))))
        rw [hz.1, hz.2]
        clear hz z σ'
        refine ok_iload_n 30 rfl rfl rfl (ok_icmp_lt 31 63 rfl rfl rfl (fun h51 => ?_) (fun h51 => ?_))
        · refine ok_inc6 38 rfl rfl rfl (by first | omega | (simp [up_if]; omega) | (simp [up_if] at *; omega)) (ok_goto 39 20 rfl rfl rfl ?_)
          exact ih2 _ (j + 1) ⟨by omega, by omega, by omega, by omega, stay (fun q => by have := q.2; omega)⟩ (by omega)
        · refine ok_iload 32 rfl rfl rfl (ok_iconst 33 rfl rfl (by decide) (ok_iload 34 rfl rfl rfl (ok_ishl 35 rfl rfl (ok_ior 36 rfl rfl ?_))))
          rw [e2]
          refine ok_ist4 37 rfl rfl rfl (ok_inc6 38 rfl rfl rfl (by first | omega | (simp [up_if]; omega) | (simp [up_if] at *; omega)) (ok_goto 39 20 rfl rfl rfl ?_))
          have hb : bt T i = true := by
            by_cases q : bt T i = true
            · exact q
            · rw [if_neg q] at h38; omega
          refine ih2 _ (j + 1) ⟨by omega, by omega, by omega, by omega, fun c a b => ?_⟩ (by omega)
          rw [bt_sB' j1 a, v3 c a b]
          constructor
          · rintro (⟨q, r, r1, r2, r3⟩ | q)
            · exact ⟨q, r, r1, by omega, r3⟩
            · rw [q]; exact ⟨by omega, i, i1, by omega, hb, by omega⟩
          · rintro ⟨q, r, r1, r2, r3, r4⟩
            by_cases w : c = j
            · exact Or.inr w
            · exact Or.inl ⟨q, r, r1, by omega, r3, r4⟩
theorem t_Mo_lack {σ : eS} {s l w : Int} (hB : iB1 σ) : MtI shB M_Mo_lack [vr 0, vi s, vi l, vi w] σ (fun σ' z => σ' = σ ∧ ((¬ okL (tabB σ s) l w ∧ z = -1) ∨ (okL (tabB σ s) l w ∧ z = lackV (σ 1 s) (fun i j => l ≤ cB σ s i j) w))) := by
  refine Mt.of okM_Mo_lack (Nat.le_of_ble_eq_true rfl) (fun hk hg => ?_)
  refine ok_aload_n 0 rfl rfl rfl (ok_iload_n 1 rfl rfl rfl (ok_callVI (M' := M_Mo_isTable) (as := [_]) 2 rfl rfl ml_X12_111 (s_Mo_isTable_r) rfl rfl (Nat.le_of_ble_eq_true rfl) ⟨Nat.le_of_ble_eq_true rfl, Nat.le_of_ble_eq_true rfl⟩ rfl (Nat.le_of_ble_eq_true rfl) (fun σ' z1 a1 => ?_)))
  obtain ⟨hs_, a1⟩ := a1
  rw [hs_]; clear hs_ σ'
  refine ok_if_eq 3 27 rfl rfl rfl (fun h5 => ?_) (fun h5 => ?_)
  · refine ok_iconst 13 rfl rfl (by decide) (ok_iret 14 rfl rfl rfl ?_)
    exact ⟨_, rfl, rfl, Or.inl ⟨fun q => no1 a1 h5 q.1, rfl⟩⟩
  · refine ok_iload_n 4 rfl rfl rfl (ok_callSI (M' := M_Mo_isLeast) (as := [_]) 5 rfl rfl ml_X12_343 (s_Mo_isLeast) ⟨Nat.le_of_ble_eq_true rfl, Nat.le_of_ble_eq_true rfl⟩ rfl (Nat.le_of_ble_eq_true rfl) (fun σ' z2 a2 => ?_))
    obtain ⟨hs_, a2⟩ := a2
    rw [hs_]; clear hs_ σ'
    refine ok_if_eq 6 27 rfl rfl rfl (fun h12 => ?_) (fun h12 => ?_)
    · refine ok_iconst 13 rfl rfl (by decide) (ok_iret 14 rfl rfl rfl ?_)
      exact ⟨_, rfl, rfl, Or.inl ⟨fun q => no1 a2 h12 q.2.1, rfl⟩⟩
    · refine ok_iload_n 7 rfl rfl rfl (ok_i2l 8 rfl rfl (ok_lconst (w := 0) 9 rfl rfl rfl (by decide) (ok_ldc2 10 (2) rfl rfl kc_X12_306 (by decide) (ok_callSI (M' := M_Mo_isIn) (as := [_, _, _]) 11 rfl rfl ml_X12_99 (s_Mo_isIn_r) ⟨Nat.le_of_ble_eq_true rfl, Nat.le_of_ble_eq_true rfl⟩ rfl (Nat.le_of_ble_eq_true rfl) (fun σ' z3 a3 => ?_)))))
      obtain ⟨hs_, a3⟩ := a3
      rw [hs_]; clear hs_ σ'
      refine ok_if_ne 12 29 rfl rfl rfl (fun h24 => ?_) (fun h24 => ?_)
      · refine ok_iconst 15 rfl rfl (by decide) (ok_ist4 16 rfl rfl rfl (ok_iconst 17 rfl rfl (by decide) (ok_ist5 18 rfl rfl rfl (ok_iconst 19 rfl rfl (by decide) (ok_ist6 20 rfl rfl rfl ?_)))))
        have ht := yes1 a1 h5
        have hw := yes1 a3 h24
        have hl : isL l := yes1 a2 h12
        obtain ⟨u1, u2, u3⟩ := id ht
        have tn := hB.1 s u1 u2
        obtain ⟨z1, z2, z3, -⟩ := bit2 (n := σ 1 s) ⟨by omega, by omega⟩
        obtain ⟨op, eop⟩ : ∃ op : Int → Int → Prop, op = fun i j => l ≤ cB σ s i j := ⟨_, rfl⟩
        obtain ⟨n, en⟩ : ∃ n, n = σ 1 s := ⟨_, rfl⟩
        rw [← eop, ← en]
        rw [← en] at z1 z2 z3
        refine lpO3 (fun T b k : Int => [some (vr 0), some (vi s), some (vi l), some (vi w), some (vi T), some (vi b), some (vi k), none]) (fun _ _ _ => σ) (fun T b k => 1 ≤ k ∧ k ≤ p2 n ∧ (T, b) = lkB (lkF n op) (k - 1).toNat) (fun _ _ k => (256 - k).toNat) ?_ 0 0 1 ⟨by omega, by omega, rfl⟩
        rintro T b k ⟨k1, k2, e⟩ ih
        have tb := lkB_bd (f := lkF n op) (k - 1).toNat
        rw [← e] at tb
        dsimp only at tb
        refine ok_iload 21 rfl rfl rfl (ok_iconst 22 rfl rfl (by decide) (ok_aload_n 23 rfl rfl rfl (ok_getR 24 rfl rfl fl_X12_7 rfl rfl (ok_iload_n 25 rfl rfl rfl (ok_iald 26 rfl rfl rfl (by first | omega | (simp [up_if]; omega) | (simp [up_if] at *; omega)) (ok_ishl 27 rfl rfl ?_))))))
        rw [← en, z1]
        refine ok_icmp_ge 28 94 rfl rfl rfl (fun h48 => ?_) (fun h48 => ?_)
        · have ek : k - 1 = p2 n - 1 := by omega
          rw [ek] at e
          refine ok_iload_n 49 rfl rfl rfl (ok_if_ne 50 103 rfl rfl rfl (fun h95 => ?_) (fun h95 => ?_))
          · refine ok_iload_n 53 rfl rfl rfl (ok_iconst 54 rfl rfl (by decide) (ok_icmp_ne 55 113 rfl rfl rfl (fun h105 => ?_) (fun h105 => ?_)))
            · refine ok_aload_n 58 rfl rfl rfl (ok_iload_n 59 rfl rfl rfl (ok_iload 60 rfl rfl rfl (ok_iload_n 61 rfl rfl rfl (ok_callVI (M' := M_Mo_joined) (as := [_, _, _]) 62 rfl rfl ml_X12_346 (t_Mo_joined hB ht ⟨by omega, by omega⟩) rfl rfl (Nat.le_of_ble_eq_true rfl) ⟨Nat.le_of_ble_eq_true rfl, Nat.le_of_ble_eq_true rfl⟩ rfl (Nat.le_of_ble_eq_true rfl) (fun σ' y hy => ?_)))))
              obtain ⟨hs_, hy⟩ := hy
              rw [hs_]; clear hs_ σ'
              rw [← eop, ← en] at hy
              have cz := cP_eq hy
              refine ok_iret 63 rfl rfl rfl ?_
              refine ⟨_, rfl, rfl, Or.inr ⟨⟨ht, hl, hw⟩, ?_⟩⟩
              unfold lackV
              rw [← e]
              dsimp only
              first | rw [if_pos (by omega)] | rw [if_neg (by omega), if_pos (by omega)] | (rw [if_neg (by omega), if_neg (by omega)]; exact cz.symm)
            · refine ok_iload 56 rfl rfl rfl (ok_goto 57 121 rfl rfl rfl (ok_iret 63 rfl rfl rfl ?_))
              refine ⟨_, rfl, rfl, Or.inr ⟨⟨ht, hl, hw⟩, ?_⟩⟩
              unfold lackV
              rw [← e]
              dsimp only
              first | rw [if_pos (by omega)] | rw [if_neg (by omega), if_pos (by omega)] | (rw [if_neg (by omega), if_neg (by omega)]; exact cz.symm)
          · refine ok_iload 51 rfl rfl rfl (ok_goto 52 121 rfl rfl rfl (ok_iret 63 rfl rfl rfl ?_))
            refine ⟨_, rfl, rfl, Or.inr ⟨⟨ht, hl, hw⟩, ?_⟩⟩
            unfold lackV
            rw [← e]
            dsimp only
            first | rw [if_pos (by omega)] | rw [if_neg (by omega), if_pos (by omega)] | (rw [if_neg (by omega), if_neg (by omega)]; exact cz.symm)
        · have b1 := (bitL (s := k) (n := 8) (by omega) (by omega)).2.2
          refine ok_iload 29 rfl rfl rfl (ok_callSI (M' := M_Mo_bits) (as := [_]) 30 rfl rfl ml_X12_241 (s_Mo_bits ⟨by omega, by omega⟩) ⟨Nat.le_of_ble_eq_true rfl, Nat.le_of_ble_eq_true rfl⟩ rfl (Nat.le_of_ble_eq_true rfl) (fun σ' z hz => ?_))
          rw [hz.1, hz.2]
          clear hz z σ'
          refine ok_aload_n 31 rfl rfl rfl (ok_iload_n 32 rfl rfl rfl (ok_iload 33 rfl rfl rfl (ok_iload_n 34 rfl rfl rfl (ok_callVI (M' := M_Mo_joined) (as := [_, _, _]) 35 rfl rfl ml_X12_346 (t_Mo_joined hB ht ⟨by omega, by omega⟩) rfl rfl (Nat.le_of_ble_eq_true rfl) ⟨Nat.le_of_ble_eq_true rfl, Nat.le_of_ble_eq_true rfl⟩ rfl (Nat.le_of_ble_eq_true rfl) (fun σ' y hy => ?_)))))
          obtain ⟨hs_, hy⟩ := hy
          rw [hs_]; clear hs_ σ'
          rw [← eop, ← en] at hy
          have cz := cP_eq hy
          have b2 := (bitL (s := y) (n := 8) hy.1 (by omega)).2.2
          refine ok_callSI (M' := M_Mo_bits) (as := [_]) 36 rfl rfl ml_X12_241 (s_Mo_bits hy.1) ⟨Nat.le_of_ble_eq_true rfl, Nat.le_of_ble_eq_true rfl⟩ rfl (Nat.le_of_ble_eq_true rfl) (fun σ' z hz => ?_)
          rw [hz.1, hz.2]
          clear hz z σ'
          refine ok_isub 37 rfl rfl (by first | omega | (simp [up_if]; omega) | (simp [up_if] at *; omega)) (ok_ist7 38 rfl rfl rfl (ok_iload 39 rfl rfl rfl (ok_iload 40 rfl rfl rfl (ok_icmp_gt 41 80 rfl rfl rfl (fun h74 => ?_) (fun h74 => ?_)))))
          · refine ok_iload 43 rfl rfl rfl (ok_ist4 44 rfl rfl rfl (ok_iload 45 rfl rfl rfl (ok_ist5 46 rfl rfl rfl (ok_inc6 47 rfl rfl rfl (by first | omega | (simp [up_if]; omega) | (simp [up_if] at *; omega)) (ok_goto 48 38 rfl rfl rfl ?_)))))
            have es := lkB_s (f := lkF n op) (k := k) (by omega)
            rw [← e] at es
            have fj : lkF n op k = pc k - pc y := by unfold lkF; rw [cz]
            rw [fj] at es
            dsimp only at es
            refine ok_fg [some (vr 0), some (vi s), some (vi l), some (vi w), some (vi _), some (vi _), some (vi (k + 1)), none] ⟨rfl, rfl, rfl, rfl, rfl, rfl, rfl, trivial⟩ (ih _ _ (k + 1) ⟨by omega, by omega, ?_⟩ (by omega))
            rw [show k + 1 - 1 = k by omega, es]
            first | rw [if_pos (by omega)] | rw [if_neg (by omega)]
          · refine ok_goto 42 88 rfl rfl rfl (ok_inc6 47 rfl rfl rfl (by first | omega | (simp [up_if]; omega) | (simp [up_if] at *; omega)) (ok_goto 48 38 rfl rfl rfl ?_))
            have es := lkB_s (f := lkF n op) (k := k) (by omega)
            rw [← e] at es
            have fj : lkF n op k = pc k - pc y := by unfold lkF; rw [cz]
            rw [fj] at es
            dsimp only at es
            refine ok_fg [some (vr 0), some (vi s), some (vi l), some (vi w), some (vi _), some (vi _), some (vi (k + 1)), none] ⟨rfl, rfl, rfl, rfl, rfl, rfl, rfl, trivial⟩ (ih _ _ (k + 1) ⟨by omega, by omega, ?_⟩ (by omega))
            rw [show k + 1 - 1 = k by omega, es]
            first | rw [if_pos (by omega)] | rw [if_neg (by omega)]
      · refine ok_iconst 13 rfl rfl (by decide) (ok_iret 14 rfl rfl rfl ?_)
        exact ⟨_, rfl, rfl, Or.inl ⟨fun q => no1 a3 h24 q.2.2, rfl⟩⟩
