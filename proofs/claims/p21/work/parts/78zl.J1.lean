/-! JOINS: bits of one long; sets of columns and rows as numbers below 256 -/
def jb (J r q : Int) : Bool := lb J (r * 8 + q).toNat
theorem lb_bit {p : Int} (hp : 0 ≤ p ∧ p < 64) {k : Nat} (hk : k < 64) : lb (lshl 1 p) k = decide ((k : Int) = p) := by
  obtain ⟨m, hm⟩ : ∃ m : Nat, p = (m : Int) := ⟨p.toNat, by omega⟩
  rw [hm, lb_shl 1 (by omega) hk, lb_1 ⟨k - m, by omega⟩]
  by_cases q : k = m
  · subst q; simp
  · by_cases w : m ≤ k
    · rw [decide_eq_true w, decide_eq_false (by dsimp only; omega), decide_eq_false (by omega)]; rfl
    · rw [decide_eq_false w, Bool.false_and, decide_eq_false (by omega)]
theorem jb_set {v i j x y : Int} (hi : 0 ≤ i ∧ i < 8) (hj : 0 ≤ j ∧ j < 8) (hx : 0 ≤ x ∧ x < 8) (hy : 0 ≤ y ∧ y < 8) : jb (lor v (lshl 1 (i * 8 + j))) x y = (jb v x y || decide (x = i ∧ y = j)) := by
  unfold jb
  rw [lb_or, lb_bit ⟨by omega, by omega⟩ (by omega)]
  congr 1
  by_cases q : x = i ∧ y = j
  · rw [decide_eq_true q, decide_eq_true (by omega)]
  · rw [decide_eq_false q, decide_eq_false (by omega)]
theorem jb_0 (x y : Int) : jb 0 x y = false := lb_0 _
theorem jb_ext {a b : Int} (ha : rl a) (hb : rl b) (h : ∀ x y : Int, 0 ≤ x → x < 8 → 0 ≤ y → y < 8 → jb a x y = jb b x y) : a = b := by
  refine lb_ext ha hb (fun i hi => ?_)
  have := h ((i / 8 : Nat) : Int) ((i % 8 : Nat) : Int) (by omega) (by omega) (by omega) (by omega)
  unfold jb at this
  rw [show (((i / 8 : Nat) : Int) * 8 + ((i % 8 : Nat) : Int)).toNat = i by omega] at this
  exact this
/-- small numbers by their bits -/
theorem ib_bt {z : Int} (h : 0 ≤ z ∧ z < 256) {i : Nat} (hi : i < 32) : ib z i = z.toNat.testBit i := by
  show (BitVec.ofInt 32 z).getLsbD i = _
  rw [← BitVec.testBit_toNat, BitVec.toNat_ofInt]
  have : (z % ((2 ^ 32 : Nat) : Int)).toNat = z.toNat := by omega
  rw [this]
theorem sm_bits {z : Int} (hz : rg z) (h : ∀ i, 8 ≤ i → i < 32 → ib z i = false) : 0 ≤ z ∧ z < 256 := by
  have h0 := nn_of_31 hz (h 31 (by decide) (by decide))
  refine ⟨h0, ?_⟩
  have e : (BitVec.ofInt 32 z).toNat = z.toNat := by
    rw [BitVec.toNat_ofInt]
    omega
  have l : (BitVec.ofInt 32 z).toNat < 2 ^ 8 := by
    refine Nat.lt_pow_two_of_testBit _ (fun i hi => ?_)
    by_cases q : i < 32
    · have := h i hi q
      unfold ib at this
      rw [← BitVec.testBit_toNat] at this
      exact this
    · rw [BitVec.testBit_toNat]
      exact BitVec.getLsbD_of_ge _ _ (by omega)
  rw [e] at l
  omega
theorem bt_ib {z : Int} (h : 0 ≤ z ∧ z < 256) {c : Int} (hc : 0 ≤ c ∧ c < 8) : bt z c = ib z c.toNat := by
  rw [ib_bt h (by omega)]; rfl
theorem bt_ext {a b : Int} (ha : 0 ≤ a ∧ a < 256) (hb : 0 ≤ b ∧ b < 256) (h : ∀ c : Int, 0 ≤ c → c < 8 → bt a c = bt b c) : a = b := by
  have : a.toNat = b.toNat := by
    refine Nat.eq_of_testBit_eq (fun i => ?_)
    by_cases q : i < 8
    · exact h i (by omega) (by omega)
    · rw [Nat.testBit_lt_two_pow (Nat.lt_of_lt_of_le (by omega : a.toNat < 2 ^ 8) (Nat.pow_le_pow_right (by decide) (by omega))), Nat.testBit_lt_two_pow (Nat.lt_of_lt_of_le (by omega : b.toNat < 2 ^ 8) (Nat.pow_le_pow_right (by decide) (by omega)))]
  omega
theorem rowJ_sp {J r : Int} (hr : 0 ≤ r ∧ r < 8) : (0 ≤ rowJ J r ∧ rowJ J r < 256) ∧ ∀ c : Int, 0 ≤ c → c < 8 → bt (rowJ J r) c = jb J r c := by
  have e : wr (r * 8) = (((r * 8).toNat : Nat) : Int) := by rw [wr_id ⟨by omega, by omega⟩]; omega
  have bits : ∀ i, i < 32 → ib (rowJ J r) i = (lb J ((r * 8).toNat + i) && decide (i < 8)) := fun i hi => by
    unfold rowJ
    rw [ib_wr _ hi, lb_and, e, lb_ushr _ (by omega), lb_255 ⟨i, by omega⟩]
  have hb : 0 ≤ rowJ J r ∧ rowJ J r < 256 := sm_bits (rg_wr _) (fun i a b => by rw [bits i b, decide_eq_false (by omega), Bool.and_false])
  refine ⟨hb, fun c c0 c1 => ?_⟩
  rw [bt_ib hb ⟨c0, c1⟩, bits _ (by omega), decide_eq_true (by omega), Bool.and_true]
  unfold jb
  congr 1
  omega
theorem ior_sp {a b : Int} (ha : 0 ≤ a ∧ a < 256) (hb : 0 ≤ b ∧ b < 256) : (0 ≤ ior a b ∧ ior a b < 256) ∧ ∀ c : Int, 0 ≤ c → c < 8 → bt (ior a b) c = (bt a c || bt b c) := by
  have bits : ∀ i, i < 32 → ib (ior a b) i = (a.toNat.testBit i || b.toNat.testBit i) := fun i hi => by rw [ib_or, ib_bt ha hi, ib_bt hb hi]
  have hz : 0 ≤ ior a b ∧ ior a b < 256 := sm_bits (rg_ior _ _) (fun i p q => by
    rw [bits i q, Nat.testBit_lt_two_pow (Nat.lt_of_lt_of_le (by omega : a.toNat < 2 ^ 8) (Nat.pow_le_pow_right (by decide) p)), Nat.testBit_lt_two_pow (Nat.lt_of_lt_of_le (by omega : b.toNat < 2 ^ 8) (Nat.pow_le_pow_right (by decide) p))]
    rfl)
  exact ⟨hz, fun c c0 c1 => by rw [bt_ib hz ⟨c0, c1⟩, bits _ (by omega)]; rfl⟩
theorem ib_m1 : ∀ i : Fin 32, ib (-1) i.val = true := by decide +kernel
/-- what is open, without what is used -/
theorem opn_sp {a b : Int} (ha : 0 ≤ a ∧ a < 256) (hb : 0 ≤ b ∧ b < 256) : (0 ≤ iand a (ixor b (-1)) ∧ iand a (ixor b (-1)) < 256) ∧ ∀ c : Int, 0 ≤ c → c < 8 → bt (iand a (ixor b (-1))) c = (bt a c && !(bt b c)) := by
  have bits : ∀ i, i < 32 → ib (iand a (ixor b (-1))) i = (a.toNat.testBit i && !(b.toNat.testBit i)) := fun i hi => by
    rw [ib_and, ib_xor, ib_bt ha hi, ib_bt hb hi, ib_m1 ⟨i, hi⟩, Bool.xor_true]
  have hz : 0 ≤ iand a (ixor b (-1)) ∧ iand a (ixor b (-1)) < 256 := sm_bits (rg_iand _ _) (fun i p q => by
    rw [bits i q, Nat.testBit_lt_two_pow (Nat.lt_of_lt_of_le (by omega : a.toNat < 2 ^ 8) (Nat.pow_le_pow_right (by decide) p))]
    rfl)
  exact ⟨hz, fun c c0 c1 => by rw [bt_ib hz ⟨c0, c1⟩, bits _ (by omega)]; rfl⟩
theorem b_nz {s j : Int} (h1 : 0 ≤ s ∧ s < 256) (h2 : 0 ≤ j ∧ j < 8) : (iand (ishr s j) 1 ≠ 0 ↔ bt s j = true) ∧ (iand (ishr s j) 1 = 0 ↔ bt s j = false) := by
  rw [bitG h1 h2]
  cases bt s j <;> simp
/-- a table's joins, exactly -/
def jOf (J n : Int) (op : Int → Int → Prop) : Prop := rl J ∧ ∀ x y : Int, 0 ≤ x → x < 8 → 0 ≤ y → y < 8 → (jb J x y = true ↔ (x < n ∧ y < n ∧ op x y))
theorem t_Jo_of {σ : eS} {c : Nat} {n m : Int} (hs : nth shA c = some (1, 64, [])) (hn : 0 ≤ n ∧ n ≤ 8) : MtL shA M_Jo_of [vr c, vi n, vi m] σ (fun σ' z => σ' = σ ∧ jOf z n (fun i j => m ≤ σ c (i * 8 + j))) := by
  refine Mt.of okM_Jo_of (Nat.le_of_ble_eq_true rfl) (fun hk hg => ?_)
  refine ok_lconst (w := 0) 0 rfl rfl rfl (by decide) (ok_lst3 1 rfl rfl rfl (ok_iconst 2 rfl rfl (by decide) (ok_ist5 3 rfl rfl rfl ?_)))
  refine lpO2 (fun v i : Int => [some (vr c), some (vi n), some (vi m), some (vl v), none, some (vi i), none, none]) (fun _ _ => σ) (fun v i => 0 ≤ i ∧ i ≤ n ∧ rl v ∧ ∀ x y : Int, 0 ≤ x → x < 8 → 0 ≤ y → y < 8 → (jb v x y = true ↔ (x < i ∧ y < n ∧ m ≤ σ c (x * 8 + y)))) (fun _ i => (8 - i).toNat) ?_ 0 0 ⟨by omega, by omega, ⟨by omega, by omega⟩, fun x y a b d e => by rw [jb_0]; constructor; intro q; cases q; intro q; omega⟩
  rintro v i ⟨i1, i2, v1, v2⟩ ih
  refine ok_iload 4 rfl rfl rfl (ok_iload_n 5 rfl rfl rfl (ok_icmp_ge 6 57 rfl rfl rfl (fun h8 => ?_) (fun h8 => ?_)))
  · refine ok_lload_n 33 rfl rfl rfl (ok_lret 34 rfl rfl rfl ?_)
    exact ⟨_, rfl, rfl, v1, fun x y a b d e => by rw [v2 x y a b d e, show i = n by omega]⟩
  · refine ok_iconst 7 rfl rfl (by decide) (ok_ist6 8 rfl rfl rfl ?_)
    refine lpO2 (fun v j : Int => [some (vr c), some (vi n), some (vi m), some (vl v), none, some (vi i), some (vi j), none]) (fun _ _ => σ) (fun v j => 0 ≤ j ∧ j ≤ n ∧ rl v ∧ ∀ x y : Int, 0 ≤ x → x < 8 → 0 ≤ y → y < 8 → (jb v x y = true ↔ ((x < i ∨ (x = i ∧ y < j)) ∧ y < n ∧ m ≤ σ c (x * 8 + y)))) (fun _ j => (8 - j).toNat) ?_ v 0 ⟨by omega, by omega, v1, fun x y a b d e => by rw [v2 x y a b d e]; exact ⟨fun q => ⟨Or.inl q.1, q.2⟩, fun q => ⟨by omega, q.2⟩⟩⟩
    have il : i < n := by omega
    clear v1 v2 v
    rintro v j ⟨j1, j2, v1, v2⟩ ih2
    refine ok_iload 9 rfl rfl rfl (ok_iload_n 10 rfl rfl rfl (ok_icmp_ge 11 51 rfl rfl rfl (fun h17 => ?_) (fun h17 => ?_)))
    · refine ok_inc5 31 rfl rfl rfl (by first | omega | (simp [up_if]; omega) | (simp [up_if] at *; omega)) (ok_goto 32 5 rfl rfl rfl ?_)
      exact ok_fg [some (vr c), some (vi n), some (vi m), some (vl _), none, some (vi (i + 1)), none, none] ⟨rfl, rfl, rfl, rfl, rfl, trivial⟩ (ih _ (i + 1) ⟨by omega, by omega, v1, fun x y a b d e => by rw [v2 x y a b d e]; exact ⟨fun q => ⟨by omega, q.2⟩, fun q => ⟨by omega, q.2⟩⟩⟩ (by omega))
    · refine ok_iload 12 rfl rfl rfl (ok_bipush 13 rfl rfl (by decide) (by decide) (ok_imul 14 rfl rfl (by first | omega | (simp [up_if]; omega) | (simp [up_if] at *; omega)) (ok_iload 15 rfl rfl rfl (ok_iadd 16 rfl rfl (by first | omega | (simp [up_if]; omega) | (simp [up_if] at *; omega)) (ok_ist7 17 rfl rfl rfl (ok_aload_n 18 rfl rfl rfl (ok_iload 19 rfl rfl rfl (ok_iald 20 rfl rfl hs (by first | omega | (simp [up_if]; omega) | (simp [up_if] at *; omega)) (ok_iload_n 21 rfl rfl rfl (ok_icmp_lt 22 45 rfl rfl rfl (fun h35 => ?_) (fun h35 => ?_)))))))))))
      · refine ok_inc6 29 rfl rfl rfl (by first | omega | (simp [up_if]; omega) | (simp [up_if] at *; omega)) (ok_goto 30 14 rfl rfl rfl ?_)
        refine ok_fg [some (vr c), some (vi n), some (vi m), some (vl _), none, some (vi i), some (vi (j + 1)), none] ⟨rfl, rfl, rfl, rfl, rfl, rfl, trivial⟩ (ih2 _ (j + 1) ⟨by omega, by omega, by first | exact rl_lor _ _ | exact v1, fun x y a b d e => ?_⟩ (by omega))
        first
          | (rw [jb_set ⟨i1, by omega⟩ ⟨j1, by omega⟩ ⟨a, b⟩ ⟨d, e⟩, Bool.or_eq_true, v2 x y a b d e, decide_eq_true_eq]
             constructor
             · rintro (q | q)
               · exact ⟨by omega, q.2⟩
               · rw [q.1, q.2]; exact ⟨by omega, by omega, by omega⟩
             · rintro ⟨q1, q2⟩
               by_cases w : x = i ∧ y = j
               · exact Or.inr w
               · exact Or.inl ⟨by omega, q2⟩)
          | (rw [v2 x y a b d e]
             constructor
             · rintro ⟨q1, q2⟩
               exact ⟨by omega, q2⟩
             · rintro ⟨q1, q2, q3⟩
               by_cases w : x = i ∧ y = j
               · rw [w.1, w.2] at q3; omega
               · exact ⟨by omega, q2, q3⟩)
      · refine ok_lload_n 23 rfl rfl rfl (ok_lconst (w := 1) 24 rfl rfl rfl (by decide) (ok_iload 25 rfl rfl rfl (ok_lshl 26 rfl rfl (ok_lor 27 rfl rfl (ok_lst3 28 rfl rfl rfl (ok_inc6 29 rfl rfl rfl (by first | omega | (simp [up_if]; omega) | (simp [up_if] at *; omega)) (ok_goto 30 14 rfl rfl rfl ?_)))))))
        refine ok_fg [some (vr c), some (vi n), some (vi m), some (vl _), none, some (vi i), some (vi (j + 1)), none] ⟨rfl, rfl, rfl, rfl, rfl, rfl, trivial⟩ (ih2 _ (j + 1) ⟨by omega, by omega, by first | exact rl_lor _ _ | exact v1, fun x y a b d e => ?_⟩ (by omega))
        first
          | (rw [jb_set ⟨i1, by omega⟩ ⟨j1, by omega⟩ ⟨a, b⟩ ⟨d, e⟩, Bool.or_eq_true, v2 x y a b d e, decide_eq_true_eq]
             constructor
             · rintro (q | q)
               · exact ⟨by omega, q.2⟩
               · rw [q.1, q.2]; exact ⟨by omega, by omega, by omega⟩
             · rintro ⟨q1, q2⟩
               by_cases w : x = i ∧ y = j
               · exact Or.inr w
               · exact Or.inl ⟨by omega, q2⟩)
          | (rw [v2 x y a b d e]
             constructor
             · rintro ⟨q1, q2⟩
               exact ⟨by omega, q2⟩
             · rintro ⟨q1, q2, q3⟩
               by_cases w : x = i ∧ y = j
               · rw [w.1, w.2] at q3; omega
               · exact ⟨by omega, q2, q3⟩)
theorem t_Ta_joinedBy {σ : eS} {t : Nat} {m : Int} (ht : tA t) (hT : iT σ t) : MtL shA M_Ta_joinedBy [vr t, vi m] σ (fun σ' z => σ' = σ ∧ jOf z (σ t 1) (fun i j => m ≤ cT σ t i j)) := by
  refine Mt.of okM_Ta_joinedBy (Nat.le_of_ble_eq_true rfl) (fun hk hg => ?_)
  refine ok_aload_n 0 rfl rfl rfl (ok_getR 1 rfl rfl fl_X9_9 (sT ht) rfl (ok_aload_n 2 rfl rfl rfl (ok_getI 3 rfl rfl fl_X9_15 (sT ht) rfl (Or.inl rfl) (ok_iload_n 4 rfl rfl rfl (ok_callSL (M' := M_Jo_of) (as := [_, _, _]) 5 rfl rfl ml_X9_56 (t_Jo_of (sC ht) ⟨hT.1, hT.2.1⟩) ⟨Nat.le_of_ble_eq_true rfl, Nat.le_of_ble_eq_true rfl⟩ rfl (Nat.le_of_ble_eq_true rfl) (fun σ' z hz => ?_))))))
  obtain ⟨hs_, hz⟩ := hz
  rw [hs_]; clear hs_ σ'
  refine ok_lret 6 rfl rfl rfl ?_
  exact ⟨_, rfl, rfl, hz⟩
/-- the columns that some rows are joined with -/
def cOf (J n s z : Int) : Prop := (0 ≤ z ∧ z < 256) ∧ ∀ c : Int, 0 ≤ c → c < 8 → (bt z c = true ↔ ∃ r, 0 ≤ r ∧ r < n ∧ bt s r = true ∧ jb J r c = true)
theorem t_Jo_columnsOf {σ : eS} {J s n : Int} (hn : 0 ≤ n ∧ n ≤ 8) (hs : 0 ≤ s ∧ s < 256) : MtI shA M_Jo_columnsOf [vl J, vi s, vi n] σ (fun σ' z => σ' = σ ∧ cOf J n s z) := by
  refine Mt.of okM_Jo_columnsOf (Nat.le_of_ble_eq_true rfl) (fun hk hg => ?_)
  refine ok_iconst 0 rfl rfl (by decide) (ok_ist4 1 rfl rfl rfl (ok_iconst 2 rfl rfl (by decide) (ok_ist5 3 rfl rfl rfl ?_)))
  refine lpO2 (fun v j : Int => [some (vl J), none, some (vi s), some (vi n), some (vi v), some (vi j)]) (fun _ _ => σ) (fun v j => 0 ≤ j ∧ j ≤ n ∧ cOf J j s v) (fun _ j => (8 - j).toNat) ?_ 0 0 ⟨by omega, by omega, ⟨by omega, by omega⟩, fun c a b => by rw [bt_0]; constructor; intro q; cases q; rintro ⟨r, q1, q2, -⟩; omega⟩
  rintro v j ⟨j1, j2, v1, v2⟩ ih
  refine ok_iload 4 rfl rfl rfl (ok_iload_n 5 rfl rfl rfl (ok_icmp_ge 6 38 rfl rfl rfl (fun h9 => ?_) (fun h9 => ?_)))
  · refine ok_iload 21 rfl rfl rfl (ok_iret 22 rfl rfl rfl ?_)
    exact ⟨_, rfl, rfl, by rw [show n = j by omega]; exact ⟨v1, v2⟩⟩
  · have bz := b_nz (s := s) (j := j) hs ⟨by omega, by omega⟩
    have rj := rowJ_sp (J := J) (r := j) ⟨by omega, by omega⟩
    have os := ior_sp (b := rowJ J j) v1 rj.1
    refine ok_iload_n 7 rfl rfl rfl (ok_iload 8 rfl rfl rfl (ok_ishr 9 rfl rfl (ok_iconst 10 rfl rfl (by decide) (ok_iand 11 rfl rfl (ok_if_eq 12 32 rfl rfl rfl (fun h18 => ?_) (fun h18 => ?_))))))
    · refine ok_inc5 19 rfl rfl rfl (by first | omega | (simp [up_if]; omega) | (simp [up_if] at *; omega)) (ok_goto 20 6 rfl rfl rfl ?_)
      refine ih _ (j + 1) ⟨by omega, by omega, ?_⟩ (by omega)
      first
        | (refine ⟨os.1, fun c a b => ?_⟩
           rw [os.2 c a b, Bool.or_eq_true, v2 c a b, rj.2 c a b]
           constructor
           · rintro (⟨r, q1, q2, q3⟩ | q)
             · exact ⟨r, q1, by omega, q3⟩
             · exact ⟨j, j1, by omega, bz.1.mp (by omega), q⟩
           · rintro ⟨r, q1, q2, q3, q4⟩
             rcases (by omega : r < j ∨ r = j) with w | w
             · exact Or.inl ⟨r, q1, w, q3, q4⟩
             · rw [w] at q4; exact Or.inr q4)
        | (have hb : bt s j = false := bz.2.mp (by omega)
           refine ⟨v1, fun c a b => ?_⟩
           rw [v2 c a b]
           constructor
           · rintro ⟨r, q1, q2, q3⟩
             exact ⟨r, q1, by omega, q3⟩
           · rintro ⟨r, q1, q2, q3, q4⟩
             rcases (by omega : r < j ∨ r = j) with w | w
             · exact ⟨r, q1, w, q3, q4⟩
             · rw [w, hb] at q3; cases q3)
    · refine ok_iload 13 rfl rfl rfl (ok_lload_n 14 rfl rfl rfl (ok_iload 15 rfl rfl rfl (ok_callSI (M' := M_Jo_rowOf) (as := [_, _]) 16 rfl rfl ml_X1_17 (s_Jo_rowOf) ⟨Nat.le_of_ble_eq_true rfl, Nat.le_of_ble_eq_true rfl⟩ rfl (Nat.le_of_ble_eq_true rfl) (fun σ' z hz => ?_))))
      rw [hz.1, hz.2]
      clear hz z σ'
      refine ok_ior 17 rfl rfl (ok_ist4 18 rfl rfl rfl (ok_inc5 19 rfl rfl rfl (by first | omega | (simp [up_if]; omega) | (simp [up_if] at *; omega)) (ok_goto 20 6 rfl rfl rfl ?_)))
      refine ih _ (j + 1) ⟨by omega, by omega, ?_⟩ (by omega)
      first
        | (refine ⟨os.1, fun c a b => ?_⟩
           rw [os.2 c a b, Bool.or_eq_true, v2 c a b, rj.2 c a b]
           constructor
           · rintro (⟨r, q1, q2, q3⟩ | q)
             · exact ⟨r, q1, by omega, q3⟩
             · exact ⟨j, j1, by omega, bz.1.mp (by omega), q⟩
           · rintro ⟨r, q1, q2, q3, q4⟩
             rcases (by omega : r < j ∨ r = j) with w | w
             · exact Or.inl ⟨r, q1, w, q3, q4⟩
             · rw [w] at q4; exact Or.inr q4)
        | (have hb : bt s j = false := bz.2.mp (by omega)
           refine ⟨v1, fun c a b => ?_⟩
           rw [v2 c a b]
           constructor
           · rintro ⟨r, q1, q2, q3⟩
             exact ⟨r, q1, by omega, q3⟩
           · rintro ⟨r, q1, q2, q3, q4⟩
             rcases (by omega : r < j ∨ r = j) with w | w
             · exact ⟨r, q1, w, q3, q4⟩
             · rw [w, hb] at q3; cases q3)
