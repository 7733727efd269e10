section
/-! COUNTING the bits of a long -/
def uL (z : Int) : Nat := (Int64.ofInt z).toBitVec.toNat
theorem uL_lt (z : Int) : uL z < 18446744073709551616 := (Int64.ofInt z).toBitVec.isLt
theorem uL_mod (z : Int) : ((uL z : Nat) : Int) = z % 18446744073709551616 := by
  show (((BitVec.ofInt 64 z).toNat : Nat) : Int) = _
  rw [BitVec.toNat_ofInt]
  omega
theorem uL_wl (z : Int) : ((uL (wl z) : Nat) : Int) = z % 18446744073709551616 := by
  have e : uL (wl z) = uL z := by unfold uL wl; rw [Int64.ofInt_toInt]
  rw [e, uL_mod]
theorem uL_and (a b : Int) : uL (land a b) = uL a &&& uL b := by unfold uL land; rw [Int64.ofInt_toInt, Int64.toBitVec_and, BitVec.toNat_and]
theorem uL_shr (a : Int) {k : Int} {n : Nat} (e : k = (n : Int)) (hn : n < 64) : uL (lushr a k) = uL a / 2 ^ n := by
  subst e
  unfold uL lushr
  rw [Int64.ofInt_toInt]
  show ((Int64.ofInt a).toUInt64 >>> ((Int32.ofInt (n : Int)).toInt64.toUInt64 &&& Int64.toUInt64 63)).toBitVec.toNat = (Int64.ofInt a).toUInt64.toBitVec.toNat / 2 ^ n
  rw [UInt64.toBitVec_shiftRight]
  show ((Int64.ofInt a).toUInt64.toBitVec >>> (((Int32.ofInt (n : Int)).toInt64.toUInt64 &&& Int64.toUInt64 63).toBitVec % 64).toNat).toNat = _
  rw [su_64 ⟨n, hn⟩, BitVec.toNat_ushiftRight, Nat.shiftRight_eq_div_pow]
theorem uL_add (a b : Int) : uL (wl (a + b)) = (uL a + uL b) % 18446744073709551616 := by
  have h1 := uL_wl (a + b)
  have h2 := uL_mod a
  have h3 := uL_mod b
  omega
theorem uL_sub {a b : Int} (h : uL b ≤ uL a) : uL (wl (a - b)) = uL a - uL b := by
  have h1 := uL_wl (a - b)
  have h2 := uL_mod a
  have h3 := uL_mod b
  have h4 := uL_lt a
  omega
theorem lb_u (z : Int) (i : Nat) : lb z i = (uL z).testBit i := by
  unfold lb uL
  rw [BitVec.testBit_toNat]
theorem ib_127 : ∀ i : Fin 32, ib 127 i.val = decide (i.val < 7) := by decide +kernel
theorem i127 (z : Int) : iand (wr z) 127 = ((uL z % 128 : Nat) : Int) := by
  have hb : ∀ i, i < 32 → ib (iand (wr z) 127) i = (lb z i && decide (i < 7)) := fun i hi => by rw [ib_and, ib_wr z hi, ib_127 ⟨i, hi⟩]
  have hs := sm_bits (rg_iand (wr z) 127) (fun i a b => by rw [hb i b, decide_eq_false (by omega), Bool.and_false])
  refine bt_ext hs ⟨by omega, by omega⟩ (fun c a b => ?_)
  rw [bt_ib hs ⟨a, b⟩, hb _ (by omega), lb_u]
  show _ = (((uL z % 128 : Nat) : Int)).toNat.testBit c.toNat
  rw [Int.toNat_natCast, show (128 : Nat) = 2 ^ 7 by decide, Nat.testBit_mod_two_pow, Bool.and_comm]
theorem rowJ_u (a : Int) {k : Int} {m : Nat} (hk : 0 ≤ k ∧ k < 8) (e : k = (m : Int)) : rowJ a k = ((uL a / 2 ^ (8 * m) % 256 : Nat) : Int) := by
  obtain ⟨h1, h2⟩ := rowJ_sp (J := a) hk
  refine bt_ext h1 ⟨by omega, by omega⟩ (fun c p q => ?_)
  rw [h2 c p q]
  show lb a (k * 8 + c).toNat = (((uL a / 2 ^ (8 * m) % 256 : Nat) : Int)).toNat.testBit c.toNat
  rw [Int.toNat_natCast, show (256 : Nat) = 2 ^ 8 by decide, Nat.testBit_mod_two_pow, Nat.testBit_div_two_pow, decide_eq_true (by omega), Bool.true_and, lb_u]
  congr 1
  omega
/-- byte by byte -/
def dS (f : Nat → Nat) : Nat → Nat → Nat
  | 0, _ => 0
  | m + 1, X => 256 * dS f m (X / 256) + f (X % 256)
def mS (u : Nat) : Nat → Nat
  | 0 => 0
  | m + 1 => 256 * mS u m + u
theorem and_sp (A B : Nat) : A &&& B = 256 * (A / 256 &&& B / 256) + (A % 256 &&& B % 256) := by
  have h1 : (A &&& B) / 2 ^ 8 = A / 2 ^ 8 &&& B / 2 ^ 8 := Nat.and_div_two_pow
  have h2 : (A &&& B) % 2 ^ 8 = A % 2 ^ 8 &&& B % 2 ^ 8 := Nat.and_mod_two_pow
  rw [← h1, ← h2]
  omega
theorem dS_cg {f g : Nat → Nat} (h : ∀ b, b < 256 → f b = g b) : ∀ m X, dS f m X = dS g m X
  | 0, _ => rfl
  | m + 1, X => by rw [dS, dS, dS_cg h m, h _ (Nat.mod_lt _ (by decide))]
theorem dS_add (f g : Nat → Nat) : ∀ m X, dS f m X + dS g m X = dS (fun b => f b + g b) m X
  | 0, _ => rfl
  | m + 1, X => by
    have := dS_add f g m (X / 256)
    rw [dS, dS, dS]
    omega
theorem dS_id : ∀ m X, X < 256 ^ m → dS (fun b => b) m X = X
  | 0, X, h => by
    have : X = 0 := by simpa using h
    rw [this]; rfl
  | m + 1, X, h => by
    have := dS_id m (X / 256) (by rw [Nat.pow_succ] at h; omega)
    rw [dS, this]
    omega
theorem dS_dS {f g : Nat → Nat} (h : ∀ b, b < 256 → f b < 256) : ∀ m X, dS g m (dS f m X) = dS (fun b => g (f b)) m X
  | 0, _ => rfl
  | m + 1, X => by
    have a := h (X % 256) (Nat.mod_lt _ (by decide))
    have e1 : dS f (m + 1) X / 256 = dS f m (X / 256) := by rw [dS]; omega
    have e2 : dS f (m + 1) X % 256 = f (X % 256) := by rw [dS]; omega
    rw [dS, e1, e2, dS_dS h m]
    rfl
theorem cs2 : ∀ t : Fin 2, ∀ b : Fin 256, (128 * t.val + b.val / 2) &&& 85 = (b.val / 2) &&& 85 := by decide +kernel
theorem cs4 : ∀ t : Fin 4, ∀ b : Fin 256, (64 * t.val + b.val / 4) &&& 51 = (b.val / 4) &&& 51 := by decide +kernel
theorem sh2 : ∀ m X, X / 2 &&& mS 85 m = dS (fun b => b / 2 &&& 85) m X
  | 0, _ => Nat.and_zero _
  | m + 1, X => by
    have h := sh2 m (X / 256)
    rw [and_sp]
    have e1 : mS 85 (m + 1) / 256 = mS 85 m := by rw [mS]; omega
    have e2 : mS 85 (m + 1) % 256 = 85 := by rw [mS]; omega
    have e3 : X / 2 / 256 = X / 256 / 2 := by omega
    have e4 : X / 2 % 256 = 128 * (X / 256 % 2) + X % 256 / 2 := by omega
    rw [e1, e2, e3, e4, h]
    have c := cs2 ⟨X / 256 % 2, Nat.mod_lt _ (by decide)⟩ ⟨X % 256, Nat.mod_lt _ (by decide)⟩
    dsimp only at c
    rw [c]
    rfl
theorem sh4 : ∀ m X, X / 4 &&& mS 51 m = dS (fun b => b / 4 &&& 51) m X
  | 0, _ => Nat.and_zero _
  | m + 1, X => by
    have h := sh4 m (X / 256)
    rw [and_sp]
    have e1 : mS 51 (m + 1) / 256 = mS 51 m := by rw [mS]; omega
    have e2 : mS 51 (m + 1) % 256 = 51 := by rw [mS]; omega
    have e3 : X / 4 / 256 = X / 256 / 4 := by omega
    have e4 : X / 4 % 256 = 64 * (X / 256 % 4) + X % 256 / 4 := by omega
    rw [e1, e2, e3, e4, h]
    have c := cs4 ⟨X / 256 % 4, Nat.mod_lt _ (by decide)⟩ ⟨X % 256, Nat.mod_lt _ (by decide)⟩
    dsimp only at c
    rw [c]
    rfl
theorem sh1 : ∀ m X, X &&& mS 51 m = dS (fun b => b &&& 51) m X
  | 0, _ => Nat.and_zero _
  | m + 1, X => by
    have h := sh1 m (X / 256)
    rw [and_sp]
    have e1 : mS 51 (m + 1) / 256 = mS 51 m := by rw [mS]; omega
    have e2 : mS 51 (m + 1) % 256 = 51 := by rw [mS]; omega
    rw [e1, e2, h]
    rfl
theorem an15 (x : Nat) : x &&& 15 = x % 16 := Nat.and_two_pow_sub_one_eq_mod x 4
theorem dS_lo {f : Nat → Nat} (h : ∀ b, b < 256 → f b % 16 ≤ 4 ∧ f b / 16 ≤ 4) : ∀ m X, dS f m X % 16 ≤ 4
  | 0, _ => by show (0 : Nat) % 16 ≤ 4; decide
  | m + 1, X => by
    have a := h (X % 256) (Nat.mod_lt _ (by decide))
    rw [dS]
    omega
theorem sh16 {f : Nat → Nat} (h : ∀ b, b < 256 → f b % 16 ≤ 4 ∧ f b / 16 ≤ 4) : ∀ m X, (dS f m X + dS f m X / 16) &&& mS 15 m = dS (fun b => (f b + f b / 16) % 16) m X
  | 0, _ => by show (0 + 0 / 16 : Nat) &&& 0 = 0; rfl
  | m + 1, X => by
    have a := h (X % 256) (Nat.mod_lt _ (by decide))
    have l := dS_lo h m (X / 256)
    have ih := sh16 h m (X / 256)
    rw [and_sp]
    have e1 : mS 15 (m + 1) / 256 = mS 15 m := by rw [mS]; omega
    have e2 : mS 15 (m + 1) % 256 = 15 := by rw [mS]; omega
    have e3 : (dS f (m + 1) X + dS f (m + 1) X / 16) / 256 = dS f m (X / 256) + dS f m (X / 256) / 16 := by rw [dS]; omega
    have e4 : (dS f (m + 1) X + dS f (m + 1) X / 16) % 256 = 16 * (dS f m (X / 256) % 16) + (f (X % 256) + f (X % 256) / 16) := by rw [dS]; omega
    rw [e1, e2, e3, e4, ih, an15, dS]
    omega
def f1b (b : Nat) : Nat := b - (b / 2 &&& 85)
def f2b (b : Nat) : Nat := (b &&& 51) + (b / 4 &&& 51)
def fpc (b : Nat) : Nat := (f2b (f1b b) + f2b (f1b b) / 16) % 16
theorem f1b_ok : ∀ b : Fin 256, f1b b.val + (b.val / 2 &&& 85) = b.val ∧ f1b b.val < 256 ∧ f2b (f1b b.val) % 16 ≤ 4 ∧ f2b (f1b b.val) / 16 ≤ 4 := by decide +kernel
theorem fpc_ok : ∀ b : Fin 256, ((fpc b.val : Nat) : Int) = pc (b.val : Int) := by decide +kernel
theorem fpc_le : ∀ b : Fin 256, fpc b.val ≤ 8 := by decide +kernel
theorem pop_a {c0 c1 c2 c3 c4 c5 c6 c7 T T1 : Nat} (h0 : c0 ≤ 8) (h1 : c1 ≤ 8) (h2 : c2 ≤ 8) (h3 : c3 ≤ 8) (h4 : c4 ≤ 8) (h5 : c5 ≤ 8) (h6 : c6 ≤ 8) (h7 : c7 ≤ 8)
    (eT : T = c0 + 256 * c1 + 65536 * c2 + 16777216 * c3 + 4294967296 * c4 + 1099511627776 * c5 + 281474976710656 * c6 + 72057594037927936 * c7) (e1 : T1 = (T + T / 2 ^ 8) % 18446744073709551616) : T1 = (c0 + c1) + 256 * (c1 + c2) + 65536 * (c2 + c3) + 16777216 * (c3 + c4) + 4294967296 * (c4 + c5) + 1099511627776 * (c5 + c6) + 281474976710656 * (c6 + c7) + 72057594037927936 * c7 := by
  have d1 : T / 2 ^ 8 = c1 + 256 * c2 + 65536 * c3 + 16777216 * c4 + 4294967296 * c5 + 1099511627776 * c6 + 281474976710656 * c7 := by clear e1; omega
  rw [d1] at e1
  clear d1
  have b2 : T + (c1 + 256 * c2 + 65536 * c3 + 16777216 * c4 + 4294967296 * c5 + 1099511627776 * c6 + 281474976710656 * c7) < 18446744073709551616 := by clear e1; omega
  rw [Nat.mod_eq_of_lt b2] at e1
  clear b2
  subst eT; subst e1
  omega
theorem pop_b {c0 c1 c2 c3 c4 c5 c6 c7 T T1 : Nat} (h0 : c0 ≤ 16) (h1 : c1 ≤ 16) (h2 : c2 ≤ 16) (h3 : c3 ≤ 16) (h4 : c4 ≤ 16) (h5 : c5 ≤ 16) (h6 : c6 ≤ 16) (h7 : c7 ≤ 16)
    (eT : T = c0 + 256 * c1 + 65536 * c2 + 16777216 * c3 + 4294967296 * c4 + 1099511627776 * c5 + 281474976710656 * c6 + 72057594037927936 * c7) (e1 : T1 = (T + T / 2 ^ 16) % 18446744073709551616) : T1 = (c0 + c2) + 256 * (c1 + c3) + 65536 * (c2 + c4) + 16777216 * (c3 + c5) + 4294967296 * (c4 + c6) + 1099511627776 * (c5 + c7) + 281474976710656 * c6 + 72057594037927936 * c7 := by
  have d1 : T / 2 ^ 16 = c2 + 256 * c3 + 65536 * c4 + 16777216 * c5 + 4294967296 * c6 + 1099511627776 * c7 := by clear e1; omega
  rw [d1] at e1
  clear d1
  have b2 : T + (c2 + 256 * c3 + 65536 * c4 + 16777216 * c5 + 4294967296 * c6 + 1099511627776 * c7) < 18446744073709551616 := by clear e1; omega
  rw [Nat.mod_eq_of_lt b2] at e1
  clear b2
  subst eT; subst e1
  omega
theorem pop_c {c0 c1 c2 c3 c4 c5 c6 c7 T T1 : Nat} (h0 : c0 ≤ 32) (h1 : c1 ≤ 32) (h2 : c2 ≤ 32) (h3 : c3 ≤ 32) (h4 : c4 ≤ 32) (h5 : c5 ≤ 32) (h6 : c6 ≤ 32) (h7 : c7 ≤ 32)
    (eT : T = c0 + 256 * c1 + 65536 * c2 + 16777216 * c3 + 4294967296 * c4 + 1099511627776 * c5 + 281474976710656 * c6 + 72057594037927936 * c7) (e1 : T1 = (T + T / 2 ^ 32) % 18446744073709551616) : T1 % 128 = c0 + c4 := by
  have d1 : T / 2 ^ 32 = c4 + 256 * c5 + 65536 * c6 + 16777216 * c7 := by clear e1; omega
  rw [d1] at e1
  clear d1
  have b2 : T + (c4 + 256 * c5 + 65536 * c6 + 16777216 * c7) < 18446744073709551616 := by clear e1; omega
  rw [Nat.mod_eq_of_lt b2] at e1
  clear b2
  subst eT; subst e1
  omega
theorem pop_sum {c0 c1 c2 c3 c4 c5 c6 c7 T T1 T2 T3 : Nat} (h0 : c0 ≤ 8) (h1 : c1 ≤ 8) (h2 : c2 ≤ 8) (h3 : c3 ≤ 8) (h4 : c4 ≤ 8) (h5 : c5 ≤ 8) (h6 : c6 ≤ 8) (h7 : c7 ≤ 8)
    (eT : T = c0 + 256 * c1 + 65536 * c2 + 16777216 * c3 + 4294967296 * c4 + 1099511627776 * c5 + 281474976710656 * c6 + 72057594037927936 * c7)
    (e1 : T1 = (T + T / 2 ^ 8) % 18446744073709551616) (e2 : T2 = (T1 + T1 / 2 ^ 16) % 18446744073709551616) (e3 : T3 = (T2 + T2 / 2 ^ 32) % 18446744073709551616) : T3 % 128 = c0 + c1 + c2 + c3 + c4 + c5 + c6 + c7 := by
  have g1 := pop_a h0 h1 h2 h3 h4 h5 h6 h7 eT e1
  have g2 := pop_b (Nat.add_le_add h0 h1) (Nat.add_le_add h1 h2) (Nat.add_le_add h2 h3) (Nat.add_le_add h3 h4) (Nat.add_le_add h4 h5) (Nat.add_le_add h5 h6) (Nat.add_le_add h6 h7) (Nat.le_trans h7 (by decide)) g1 e2
  have g3 := pop_c (Nat.add_le_add (Nat.add_le_add h0 h1) (Nat.add_le_add h2 h3)) (Nat.add_le_add (Nat.add_le_add h1 h2) (Nat.add_le_add h3 h4)) (Nat.add_le_add (Nat.add_le_add h2 h3) (Nat.add_le_add h4 h5)) (Nat.add_le_add (Nat.add_le_add h3 h4) (Nat.add_le_add h5 h6)) (Nat.add_le_add (Nat.add_le_add h4 h5) (Nat.add_le_add h6 h7)) (Nat.le_trans (Nat.add_le_add (Nat.add_le_add h5 h6) h7) (by decide)) (Nat.le_trans (Nat.add_le_add h6 h7) (by decide)) (Nat.le_trans h7 (by decide)) g2 e3
  rw [g3]
  clear g1 g2 g3 eT e1 e2 e3 h0 h1 h2 h3 h4 h5 h6 h7
  omega
theorem dS_8 (f : Nat → Nat) (X : Nat) : dS f 8 X = f (X % 256) + 256 * f (X / 256 % 256) + 65536 * f (X / 65536 % 256) + 16777216 * f (X / 16777216 % 256) + 4294967296 * f (X / 4294967296 % 256) + 1099511627776 * f (X / 1099511627776 % 256) + 281474976710656 * f (X / 281474976710656 % 256) + 72057594037927936 * f (X / 72057594037927936 % 256) := by
  simp only [dS, Nat.div_div_eq_div_mul, Nat.reduceMul]
  omega
def bL1 (a : Int) : Int := wl (a - land (lushr a 1) 6148914691236517205)
def bL2 (a : Int) : Int := wl (land a 3689348814741910323 + land (lushr a 2) 3689348814741910323)
def bL3 (a : Int) : Int := land (wl (a + lushr a 4)) 1085102592571150095
def bL4 (a : Int) : Int := wl (a + lushr a 8)
def bL5 (a : Int) : Int := wl (a + lushr a 16)
def bL6 (a : Int) : Int := wl (a + lushr a 32)
theorem uC55 : uL 6148914691236517205 = mS 85 8 := by decide +kernel
theorem uC33 : uL 3689348814741910323 = mS 51 8 := by decide +kernel
theorem uC0f : uL 1085102592571150095 = mS 15 8 := by decide +kernel
theorem bL_pc (a : Int) : iand (wr (bL6 (bL5 (bL4 (bL3 (bL2 (bL1 a))))))) 127 = sm (fun r => pc (rowJ a r)) 8 := by
  have x0 := uL_lt a
  have id0 : dS (fun b => b) 8 (uL a) = uL a := dS_id 8 _ (by show uL a < 256 ^ 8; omega)
  have g1 : dS f1b 8 (uL a) + dS (fun b => b / 2 &&& 85) 8 (uL a) = uL a := by
    rw [dS_add, dS_cg (g := fun b => b) (fun b h => (f1b_ok ⟨b, h⟩).1), id0]
  have s1 : uL (land (lushr a 1) 6148914691236517205) = dS (fun b => b / 2 &&& 85) 8 (uL a) := by
    rw [uL_and, uL_shr a (k := 1) (n := 1) rfl (by decide), uC55]; exact sh2 8 _
  have u1 : uL (bL1 a) = dS f1b 8 (uL a) := by
    unfold bL1
    rw [uL_sub (by omega), s1]; omega
  have u2 : uL (bL2 (bL1 a)) = dS (fun b => f2b (f1b b)) 8 (uL a) := by
    have t1 : uL (land (bL1 a) 3689348814741910323) = dS (fun b => b &&& 51) 8 (uL (bL1 a)) := by rw [uL_and, uC33]; exact sh1 8 _
    have t2 : uL (land (lushr (bL1 a) 2) 3689348814741910323) = dS (fun b => b / 4 &&& 51) 8 (uL (bL1 a)) := by rw [uL_and, uL_shr _ (k := 2) (n := 2) rfl (by decide), uC33]; exact sh4 8 _
    have e : uL (bL2 (bL1 a)) = dS f2b 8 (uL (bL1 a)) % 18446744073709551616 := by
      show uL (wl (land (bL1 a) 3689348814741910323 + land (lushr (bL1 a) 2) 3689348814741910323)) = _
      rw [uL_add, t1, t2, dS_add]; rfl
    rw [e, u1, dS_dS (fun b h => (f1b_ok ⟨b, h⟩).2.1)]
    have lo := fun b (h : b < 256) => (f1b_ok ⟨b, h⟩).2.2
    refine Nat.mod_eq_of_lt ?_
    have bd : ∀ m X, dS (fun b => f2b (f1b b)) m X < 256 ^ m := fun m => by
      induction m with
      | zero => intro X; exact Nat.one_pos
      | succ m ih =>
        intro X
        have h1 := ih (X / 256)
        have h2 := lo (X % 256) (Nat.mod_lt _ (by decide))
        rw [dS, Nat.pow_succ]
        dsimp only at h2
        omega
    exact bd 8 _
  have u3 : uL (bL3 (bL2 (bL1 a))) = dS fpc 8 (uL a) := by
    have lo := fun b (h : b < 256) => (f1b_ok ⟨b, h⟩).2.2
    have q := sh16 (f := fun b => f2b (f1b b)) lo 8 (uL a)
    unfold bL3
    rw [uL_and, uC0f, uL_add, uL_shr _ (k := 4) (n := 4) rfl (by decide), u2]
    obtain ⟨Z, eZ⟩ : ∃ Z, Z = dS (fun b => f2b (f1b b)) 8 (uL a) := ⟨_, rfl⟩
    have zb : Z % 16 ≤ 4 ∧ Z < 5000000000000000000 := by
      refine ⟨by rw [eZ]; exact dS_lo lo 8 _, ?_⟩
      have hd : ∀ m X, dS (fun b => f2b (f1b b)) m X ≤ 68 * mS 1 m := fun m => by
        induction m with
        | zero => intro X; exact Nat.le_refl _
        | succ m ih =>
          intro X
          have h1 := ih (X / 256)
          have h2 := lo (X % 256) (Nat.mod_lt _ (by decide))
          rw [dS, mS]
          dsimp only at h2
          omega
      have := hd 8 (uL a)
      have e8 : mS 1 8 = 72340172838076673 := by decide
      rw [e8] at this
      omega
    rw [← eZ] at q ⊢
    rw [show (Z + Z / 2 ^ 4) % 18446744073709551616 = Z + Z / 16 by omega]
    exact q
  have c : ∀ k, fpc (uL a / k % 256) ≤ 8 := fun k => fpc_le ⟨uL a / k % 256, Nat.mod_lt _ (by decide)⟩
  have p : ∀ (k : Int) (m : Nat), 0 ≤ k ∧ k < 8 → k = (m : Int) → pc (rowJ a k) = ((fpc (uL a / 2 ^ (8 * m) % 256) : Nat) : Int) := fun k m hk e => by
    rw [rowJ_u a hk e]
    exact (fpc_ok ⟨uL a / 2 ^ (8 * m) % 256, Nat.mod_lt _ (by decide)⟩).symm
  have tot : sm (fun r => pc (rowJ a r)) 8 = pc (rowJ a 0) + pc (rowJ a 1) + pc (rowJ a 2) + pc (rowJ a 3) + pc (rowJ a 4) + pc (rowJ a 5) + pc (rowJ a 6) + pc (rowJ a 7) := by
    show 0 + pc (rowJ a 0) + pc (rowJ a 1) + pc (rowJ a 2) + pc (rowJ a 3) + pc (rowJ a 4) + pc (rowJ a 5) + pc (rowJ a 6) + pc (rowJ a 7) = _
    rw [Int.zero_add]
  rw [i127, tot, p 0 0 ⟨by decide, by decide⟩ rfl, p 1 1 ⟨by decide, by decide⟩ rfl, p 2 2 ⟨by decide, by decide⟩ rfl, p 3 3 ⟨by decide, by decide⟩ rfl, p 4 4 ⟨by decide, by decide⟩ rfl, p 5 5 ⟨by decide, by decide⟩ rfl, p 6 6 ⟨by decide, by decide⟩ rfl, p 7 7 ⟨by decide, by decide⟩ rfl]
  have fin := pop_sum (c (2 ^ (8 * 0))) (c (2 ^ (8 * 1))) (c (2 ^ (8 * 2))) (c (2 ^ (8 * 3))) (c (2 ^ (8 * 4))) (c (2 ^ (8 * 5))) (c (2 ^ (8 * 6))) (c (2 ^ (8 * 7))) (T := uL (bL3 (bL2 (bL1 a)))) (T1 := uL (bL4 (bL3 (bL2 (bL1 a))))) (T2 := uL (bL5 (bL4 (bL3 (bL2 (bL1 a)))))) (T3 := uL (bL6 (bL5 (bL4 (bL3 (bL2 (bL1 a)))))))
    (by
      rw [u3, dS_8]
      show _ = fpc (uL a / 1 % 256) + 256 * fpc (uL a / 256 % 256) + 65536 * fpc (uL a / 65536 % 256) + 16777216 * fpc (uL a / 16777216 % 256) + 4294967296 * fpc (uL a / 4294967296 % 256) + 1099511627776 * fpc (uL a / 1099511627776 % 256) + 281474976710656 * fpc (uL a / 281474976710656 % 256) + 72057594037927936 * fpc (uL a / 72057594037927936 % 256)
      rw [Nat.div_one])
    (by show uL (wl (bL3 (bL2 (bL1 a)) + lushr (bL3 (bL2 (bL1 a))) 8)) = _; rw [uL_add, uL_shr _ (k := 8) (n := 8) rfl (by decide)])
    (by show uL (wl (bL4 (bL3 (bL2 (bL1 a))) + lushr (bL4 (bL3 (bL2 (bL1 a)))) 16)) = _; rw [uL_add, uL_shr _ (k := 16) (n := 16) rfl (by decide)])
    (by show uL (wl (bL5 (bL4 (bL3 (bL2 (bL1 a)))) + lushr (bL5 (bL4 (bL3 (bL2 (bL1 a))))) 32)) = _; rw [uL_add, uL_shr _ (k := 32) (n := 32) rfl (by decide)])
  rw [fin]
  omega
theorem t_Jl_bitCount {σ : eS} {a : Int} : MtI shA M_Jl_bitCount [vl a] σ (fun σ' z => σ' = σ ∧ z = sm (fun r => pc (rowJ a r)) 8) := by
  refine Mt.of okM_Jl_bitCount (Nat.le_of_ble_eq_true rfl) (fun hk hg => ?_)
  rw [← bL_pc a]
  refine ok_lload_n 0 rfl rfl rfl (ok_lload_n 1 rfl rfl rfl (ok_iconst 2 rfl rfl (by decide) (ok_lushr 3 rfl rfl (ok_ldc2 4 (6148914691236517205) rfl rfl kc_J13_314 (by decide) (ok_land 5 rfl rfl (ok_lsubW 6 rfl rfl (ok_lst0 7 rfl rfl (ok_lload_n 8 rfl rfl rfl (ok_ldc2 9 (3689348814741910323) rfl rfl kc_J13_316 (by decide) (ok_land 10 rfl rfl (ok_lload_n 11 rfl rfl rfl (ok_iconst 12 rfl rfl (by decide) (ok_lushr 13 rfl rfl (ok_ldc2 14 (3689348814741910323) rfl rfl kc_J13_316 (by decide) (ok_land 15 rfl rfl (ok_laddW 16 rfl rfl (ok_lst0 17 rfl rfl (ok_lload_n 18 rfl rfl rfl (ok_lload_n 19 rfl rfl rfl (ok_iconst 20 rfl rfl (by decide) (ok_lushr 21 rfl rfl (ok_laddW 22 rfl rfl (ok_ldc2 23 (1085102592571150095) rfl rfl kc_J13_318 (by decide) (ok_land 24 rfl rfl (ok_lst0 25 rfl rfl (ok_lload_n 26 rfl rfl rfl (ok_lload_n 27 rfl rfl rfl (ok_bipush 28 rfl rfl (by decide) (by decide) (ok_lushr 29 rfl rfl (ok_laddW 30 rfl rfl (ok_lst0 31 rfl rfl (ok_lload_n 32 rfl rfl rfl (ok_lload_n 33 rfl rfl rfl (ok_bipush 34 rfl rfl (by decide) (by decide) (ok_lushr 35 rfl rfl (ok_laddW 36 rfl rfl (ok_lst0 37 rfl rfl (ok_lload_n 38 rfl rfl rfl (ok_lload_n 39 rfl rfl rfl (ok_bipush 40 rfl rfl (by decide) (by decide) (ok_lushr 41 rfl rfl (ok_laddW 42 rfl rfl (ok_lst0 43 rfl rfl (ok_lload_n 44 rfl rfl rfl (ok_l2iW 45 rfl rfl (ok_bipush 46 rfl rfl (by decide) (by decide) (ok_iand 47 rfl rfl (ok_iret 48 rfl rfl rfl ?_))))))))))))))))))))))))))))))))))))))))))))))))
  exact ⟨_, rfl, rfl, rfl⟩
end
section
/-! LOOK: how many cells are above 0, the greatest, the groups -/
noncomputable def cnV (n : Int) (W : Int → Int → Int) : Int := sm (fun i => sm (fun j => ind (1 ≤ W i j)) n.toNat) n.toNat
theorem cnV_cg {n : Int} {W V : Int → Int → Int} (e : ag n W V) : cnV n W = cnV n V := sm_cg (fun i a b => sm_cg (fun j c d => by rw [e i j a (by omega) c (by omega)]))
theorem pc_row {J n r : Int} {W : Int → Int → Int} (hn : 0 ≤ n ∧ n ≤ 8) (hJ : jOf J n (fun i j => 1 ≤ W i j)) (hr : 0 ≤ r ∧ r < 8) : (r < n → pc (rowJ J r) = sm (fun j => ind (1 ≤ W r j)) n.toNat) ∧ (n ≤ r → pc (rowJ J r) = 0) := by
  obtain ⟨h1, h2⟩ := rowJ_sp (J := J) hr
  have e : pc (rowJ J r) = sm (fun c => ind (r < n ∧ c < n ∧ 1 ≤ W r c)) 8 := by
    rw [pcb h1]
    refine sm_cg (fun c a b => ?_)
    have := hJ.2 r c hr.1 hr.2 a (by omega)
    rw [← h2 c a (by omega)] at this
    by_cases w : bt (rowJ J r) c = true
    · rw [if_pos w, ind_t (this.mp w)]
    · rw [if_neg w, ind_f (fun q => w (this.mpr q))]
  constructor
  · intro q
    rw [e, sm_sp _ n hn (fun k a b => ind_f (fun x => by omega))]
    exact sm_cg (fun k a b => ind_cg ⟨fun x => x.2.2, fun x => ⟨q, by omega, x⟩⟩)
  · intro q
    rw [e, sm_sp _ 0 ⟨by decide, by decide⟩ (fun k a b => ind_f (fun x => by omega))]
    rfl
theorem rows_cn {J n : Int} {W : Int → Int → Int} (hn : 0 ≤ n ∧ n ≤ 8) (hJ : jOf J n (fun i j => 1 ≤ W i j)) : sm (fun r => pc (rowJ J r)) 8 = cnV n W := by
  rw [sm_sp _ n hn (fun k a b => (pc_row hn hJ ⟨by omega, b⟩).2 a)]
  exact sm_cg (fun k a b => (pc_row hn hJ ⟨a, by omega⟩).1 (by omega))
theorem t_Ta_countAbove0 {σ : eS} {t : Nat} (ht : tA t) (hT : iT σ t) : MtI shA M_Ta_countAbove0 [vr t] σ (fun σ' z => σ' = σ ∧ z = cnV (σ t 1) (cT σ t)) := by
  refine Mt.of okM_Ta_countAbove0 (Nat.le_of_ble_eq_true rfl) (fun hk hg => ?_)
  refine ok_aload_n 0 rfl rfl rfl (ok_iconst 1 rfl rfl (by decide) (ok_callVL (M' := M_Ta_joinedBy) (as := [_]) 2 rfl rfl ml_X9_65 (t_Ta_joinedBy ht hT) (sT ht) rfl (Nat.le_of_ble_eq_true rfl) ⟨Nat.le_of_ble_eq_true rfl, Nat.le_of_ble_eq_true rfl⟩ rfl (Nat.le_of_ble_eq_true rfl) (fun σ' z hz => ?_)))
  obtain ⟨hs_, hz⟩ := hz
  rw [hs_]; clear hs_ σ'
  refine ok_callSI (M' := M_Jl_bitCount) (as := [_]) 3 rfl rfl ml_X9_69 (t_Jl_bitCount) ⟨Nat.le_of_ble_eq_true rfl, Nat.le_of_ble_eq_true rfl⟩ rfl (Nat.le_of_ble_eq_true rfl) (fun σ' z2 hz2 => ?_)
  obtain ⟨hs_, hz2⟩ := hz2
  rw [hs_]; clear hs_ σ'
  refine ok_iret 4 rfl rfl rfl ?_
  exact ⟨_, rfl, rfl, by rw [hz2]; exact rows_cn ⟨hT.1, hT.2.1⟩ hz⟩
def gcD (n : Int) (W : Int → Int → Int) (D : Int → Int → Prop) (v : Int) : Prop := (0 ≤ v ∧ v ≤ 99999999) ∧ (∀ i j, 0 ≤ i → i < n → 0 ≤ j → j < n → D i j → W i j ≤ v) ∧ (v = 0 ∨ ∃ i j, 0 ≤ i ∧ i < n ∧ 0 ≤ j ∧ j < n ∧ W i j = v)
theorem gcD_m {n v i j : Int} {W : Int → Int → Int} {D D' : Int → Int → Prop} (h : gcD n W D v) (hi : 0 ≤ i ∧ i < n) (hj : 0 ≤ j ∧ j < n) (hw : 0 ≤ W i j ∧ W i j ≤ 99999999) (hD : ∀ x y, 0 ≤ x → x < n → 0 ≤ y → y < n → D' x y → D x y ∨ (x = i ∧ y = j)) : gcD n W D' (max v (W i j)) := by
  obtain ⟨h1, h2, h3⟩ := h
  obtain ⟨c, ec⟩ : ∃ c, c = W i j := ⟨_, rfl⟩
  rw [← ec] at hw ⊢
  refine ⟨by omega, fun x y a b d e q => ?_, ?_⟩
  · rcases hD x y a b d e q with q | ⟨q1, q2⟩
    · have := h2 x y a b d e q; omega
    · rw [q1, q2, ← ec]; omega
  · rcases (by omega : max v c = v ∨ max v c = c) with q | q
    · rw [q]; exact h3
    · rw [q]; exact Or.inr ⟨i, j, hi.1, hi.2, hj.1, hj.2, ec.symm⟩
theorem gcD_w {n v : Int} {W : Int → Int → Int} {D D' : Int → Int → Prop} (h : gcD n W D v) (hD : ∀ x y, 0 ≤ x → x < n → 0 ≤ y → y < n → D' x y → D x y) : gcD n W D' v := ⟨h.1, fun i j a b c d q => h.2.1 i j a b c d (hD i j a b c d q), h.2.2⟩
theorem gcD_un {n v v' : Int} {W V : Int → Int → Int} (e : ag n W V) (h : gcD n W (fun _ _ => True) v) (h' : gcD n V (fun _ _ => True) v') : v = v' := by
  obtain ⟨a1, a2, a3⟩ := h
  obtain ⟨b1, b2, b3⟩ := h'
  have x : v ≤ v' := by
    rcases a3 with q | ⟨i, j, i1, i2, j1, j2, q⟩
    · omega
    · have := b2 i j i1 i2 j1 j2 trivial
      rw [← e i j i1 i2 j1 j2] at this
      omega
  have y : v' ≤ v := by
    rcases b3 with q | ⟨i, j, i1, i2, j1, j2, q⟩
    · omega
    · have := a2 i j i1 i2 j1 j2 trivial
      rw [e i j i1 i2 j1 j2] at this
      omega
  omega
theorem t_Ta_greatestV {σ : eS} {t : Nat} (ht : tA t) (hT : iT σ t) : MtI shA M_Ta_greatestCell [vr t] σ (fun σ' z => σ' = σ ∧ gcD (σ t 1) (cT σ t) (fun _ _ => True) z) := by
  refine Mt.of okM_Ta_greatestCell (Nat.le_of_ble_eq_true rfl) (fun hk hg => ?_)
  have hn := hT.1
  have hn2 := hT.2.1
  refine ok_iconst 0 rfl rfl (by decide) (ok_ist1 1 rfl rfl rfl (ok_iconst 2 rfl rfl (by decide) (ok_ist2 3 rfl rfl rfl ?_)))
  refine lpO2 (fun v i : Int => [some (vr t), some (vi v), some (vi i), none]) (fun _ _ => σ) (fun v i => 0 ≤ i ∧ i ≤ σ t 1 ∧ gcD (σ t 1) (cT σ t) (fun x _ => x < i) v) (fun _ i => (8 - i).toNat) ?_ 0 0 ⟨by omega, by omega, ⟨by omega, by omega⟩, fun i j a b c d q => by omega, Or.inl rfl⟩
  rintro v i ⟨i1, i2, i3⟩ ih
  refine ok_iload_n 4 rfl rfl rfl (ok_aload_n 5 rfl rfl rfl (ok_getI 6 rfl rfl fl_X9_15 (sT ht) rfl (Or.inl rfl) (ok_icmp_ge 7 50 rfl rfl rfl (fun h9 => ?_) (fun h9 => ?_))))
  · refine ok_iload_n 29 rfl rfl rfl (ok_iret 30 rfl rfl rfl ?_)
    exact ⟨_, rfl, rfl, gcD_w i3 (fun x y a b c d _ => by omega)⟩
  · refine ok_iconst 8 rfl rfl (by decide) (ok_ist3 9 rfl rfl rfl ?_)
    have il : i < σ t 1 := by omega
    refine lpO2 (fun v j : Int => [some (vr t), some (vi v), some (vi i), some (vi j)]) (fun _ _ => σ) (fun v j => 0 ≤ j ∧ j ≤ σ t 1 ∧ gcD (σ t 1) (cT σ t) (fun x y => x < i ∨ (x = i ∧ y < j)) v) (fun _ j => (8 - j).toNat) ?_ v 0 ⟨by omega, by omega, gcD_w i3 (fun x y a b c d q => by omega)⟩
    clear i3 v
    rintro v j ⟨j1, j2, j3⟩ ih2
    have vb := j3.1
    refine ok_iload_n 10 rfl rfl rfl (ok_aload_n 11 rfl rfl rfl (ok_getI 12 rfl rfl fl_X9_15 (sT ht) rfl (Or.inl rfl) (ok_icmp_ge 13 44 rfl rfl rfl (fun h19 => ?_) (fun h19 => ?_))))
    · refine ok_inc2 27 rfl rfl rfl (by first | omega | (simp [up_if]; omega) | (simp [up_if] at *; omega)) (ok_goto 28 4 rfl rfl rfl ?_)
      exact ok_fg [some (vr t), some (vi _), some (vi (i + 1)), none] ⟨rfl, rfl, rfl, trivial⟩ (ih _ (i + 1) ⟨by omega, by omega, gcD_w j3 (fun x y a b c d q => by omega)⟩ (by omega))
    · have cb := cT_bd hT (i := i) (j := j) ⟨i1, by omega⟩ ⟨j1, by omega⟩
      have gm := gcD_m (D' := fun x y => x < i ∨ (x = i ∧ y < j + 1)) j3 ⟨i1, il⟩ ⟨j1, by omega⟩ cb (fun x y a b c d q => by omega)
      unfold cT at cb
      refine ok_iload_n 14 rfl rfl rfl (ok_aload_n 15 rfl rfl rfl (ok_getR 16 rfl rfl fl_X9_9 (sT ht) rfl (ok_iload_n 17 rfl rfl rfl (ok_bipush 18 rfl rfl (by decide) (by decide) (ok_imul 19 rfl rfl (by first | omega | (simp [up_if]; omega) | (simp [up_if] at *; omega)) (ok_iload_n 20 rfl rfl rfl (ok_iadd 21 rfl rfl (by first | omega | (simp [up_if]; omega) | (simp [up_if] at *; omega)) (ok_iald 22 rfl rfl (sC ht) (by first | omega | (simp [up_if]; omega) | (simp [up_if] at *; omega)) (ok_mmax 23 rfl rfl ml_X9_42 ⟨Nat.le_of_ble_eq_true rfl, Nat.le_of_ble_eq_true rfl⟩ (ok_ist1 24 rfl rfl rfl (ok_inc3 25 rfl rfl rfl (by first | omega | (simp [up_if]; omega) | (simp [up_if] at *; omega)) (ok_goto 26 14 rfl rfl rfl ?_))))))))))))
      exact ih2 _ (j + 1) ⟨by omega, by omega, gm⟩ (by omega)
def loA (σ : eS) (s w z : Int) : Prop := (¬ (0 ≤ s ∧ s < 4) ∧ z = -2) ∨ ((0 ≤ s ∧ s < 4) ∧ ((w = 0 ∧ z = σ (s.toNat + 2) 1) ∨ (w = 1 ∧ z = if σ (s.toNat + 2) 1 = 0 then 0 else σ (s.toNat + 2) 2) ∨ (w = 2 ∧ z = σ (s.toNat + 2) 3) ∨ (w = 3 ∧ z = cnV (σ (s.toNat + 2) 1) (cT σ (s.toNat + 2))) ∨ (w = 4 ∧ gcD (σ (s.toNat + 2) 1) (cT σ (s.toNat + 2)) (fun _ _ => True) z) ∨ (w = 5 ∧ z = gpV (σ (s.toNat + 2) 1) (cT σ (s.toNat + 2))) ∨ ((w < 0 ∨ 5 < w) ∧ z = -2)))
def loB (σ : eS) (s w z : Int) : Prop := (¬ (0 ≤ s ∧ s < 4) ∧ z = -2) ∨ ((0 ≤ s ∧ s < 4) ∧ ((w = 0 ∧ z = σ 1 s) ∨ (w = 1 ∧ z = σ 2 s) ∨ (w = 2 ∧ ((evB σ s ∧ z = rowB σ s 0) ∨ (¬ evB σ s ∧ z = -1))) ∨ (w = 3 ∧ z = cnV (σ 1 s) (cB σ s)) ∨ (w = 4 ∧ gcD (σ 1 s) (cB σ s) (fun _ _ => True) z) ∨ (w = 5 ∧ z = gpV (σ 1 s) (cB σ s)) ∨ ((w < 0 ∨ 5 < w) ∧ z = -2)))
theorem t_Ev_look {σ : eS} {s w : Int} (h : IA σ) : MtI shA M_Ev_look [vr 0, vi s, vi w] σ (fun σ' z => σ' = σ ∧ loA σ s w z) := by
  refine Mt.of okM_Ev_look (Nat.le_of_ble_eq_true rfl) (fun hk hg => ?_)
  refine ok_aload_n 0 rfl rfl rfl (ok_iload_n 1 rfl rfl rfl (ok_callVR (M' := M_Ev_slotAt) (as := [_]) 2 rfl rfl ml_X11_86 (s_Ev_slotAt) rfl rfl (Nat.le_of_ble_eq_true rfl) ⟨Nat.le_of_ble_eq_true rfl, Nat.le_of_ble_eq_true rfl⟩ rfl (Nat.le_of_ble_eq_true rfl) (fun σ' z hz => ?_)))
  obtain ⟨hs_, hz⟩ := hz
  rw [hs_]; clear hs_ σ'
  rcases hz with ⟨q, q2⟩ | ⟨q1, q2, q⟩
  · subst q
    refine ok_ast3 3 rfl rfl rfl (ok_aload_n 4 rfl rfl rfl (ok_ifnonnullN 5 rfl rfl (ok_bipush 6 rfl rfl (by decide) (by decide) (ok_iret 7 rfl rfl rfl ?_))))
    exact ⟨_, rfl, rfl, Or.inl ⟨q2, rfl⟩⟩
  · subst q
    have ht := sl_tA ⟨q1, q2⟩
    have hT := (h.2.1 _ ht).1
    refine ok_ast3 3 rfl rfl rfl (ok_aload_n 4 rfl rfl rfl (ok_ifnonnull 5 13 rfl rfl rfl (ok_iload_n 8 rfl rfl rfl ?_)))
    rcases (by omega : w = 0 ∨ w = 1 ∨ w = 2 ∨ w = 3 ∨ w = 4 ∨ w = 5 ∨ (w < 0 ∨ 5 < w)) with q_ | q_ | q_ | q_ | q_ | q_ | q_
    · subst q_
      refine ok_tin 9 (len := 38) 52 rfl rfl (by decide) (by decide) rfl rfl ?_
      refine ok_aload_n 10 rfl rfl rfl (ok_getI 11 rfl rfl fl_X11_103 (sT ht) rfl (Or.inl rfl) (ok_iret 12 rfl rfl rfl ?_))
      exact ⟨_, rfl, rfl, Or.inr ⟨⟨q1, q2⟩, Or.inl ⟨rfl, rfl⟩⟩⟩
    · subst q_
      refine ok_tin 9 (len := 38) 57 rfl rfl (by decide) (by decide) rfl rfl ?_
      refine ok_aload_n 13 rfl rfl rfl (ok_getI 14 rfl rfl fl_X11_103 (sT ht) rfl (Or.inl rfl) (ok_if_ne 15 68 rfl rfl rfl (fun h61 => ?_) (fun h61 => ?_)))
      · refine ok_aload_n 18 rfl rfl rfl (ok_getI 19 rfl rfl fl_X11_106 (sT ht) rfl (Or.inl rfl) (ok_iret 20 rfl rfl rfl ?_))
        refine ⟨_, rfl, rfl, Or.inr ⟨⟨q1, q2⟩, Or.inr (Or.inl ⟨rfl, ?_⟩)⟩⟩
        first | rw [if_pos (by omega)] | rw [if_neg (by omega)]
      · refine ok_iconst 16 rfl rfl (by decide) (ok_goto 17 72 rfl rfl rfl (ok_iret 20 rfl rfl rfl ?_))
        refine ⟨_, rfl, rfl, Or.inr ⟨⟨q1, q2⟩, Or.inr (Or.inl ⟨rfl, ?_⟩)⟩⟩
        first | rw [if_pos (by omega)] | rw [if_neg (by omega)]
    · subst q_
      refine ok_tin 9 (len := 38) 73 rfl rfl (by decide) (by decide) rfl rfl ?_
      refine ok_aload_n 21 rfl rfl rfl (ok_getI 22 rfl rfl fl_X11_109 (sT ht) rfl (Or.inl rfl) (ok_iret 23 rfl rfl rfl ?_))
      exact ⟨_, rfl, rfl, Or.inr ⟨⟨q1, q2⟩, Or.inr (Or.inr (Or.inl ⟨rfl, rfl⟩))⟩⟩
    · subst q_
      refine ok_tin 9 (len := 38) 78 rfl rfl (by decide) (by decide) rfl rfl ?_
      refine ok_aload_n 24 rfl rfl rfl (ok_callVI (M' := M_Ta_countAbove0) (as := []) 25 rfl rfl ml_X11_112 (t_Ta_countAbove0 ht hT) (sT ht) rfl (Nat.le_of_ble_eq_true rfl) ⟨Nat.le_of_ble_eq_true rfl, Nat.le_of_ble_eq_true rfl⟩ rfl (Nat.le_of_ble_eq_true rfl) (fun σ' z1 x1 => ?_))
      obtain ⟨hs_, x1⟩ := x1
      rw [hs_]; clear hs_ σ'
      refine ok_iret 26 rfl rfl rfl ?_
      exact ⟨_, rfl, rfl, Or.inr ⟨⟨q1, q2⟩, Or.inr (Or.inr (Or.inr (Or.inl ⟨rfl, x1⟩)))⟩⟩
    · subst q_
      refine ok_tin 9 (len := 38) 83 rfl rfl (by decide) (by decide) rfl rfl ?_
      refine ok_aload_n 27 rfl rfl rfl (ok_callVI (M' := M_Ta_greatestCell) (as := []) 28 rfl rfl ml_X11_116 (t_Ta_greatestV ht hT) (sT ht) rfl (Nat.le_of_ble_eq_true rfl) ⟨Nat.le_of_ble_eq_true rfl, Nat.le_of_ble_eq_true rfl⟩ rfl (Nat.le_of_ble_eq_true rfl) (fun σ' z1 x1 => ?_))
      obtain ⟨hs_, x1⟩ := x1
      rw [hs_]; clear hs_ σ'
      refine ok_iret 29 rfl rfl rfl ?_
      exact ⟨_, rfl, rfl, Or.inr ⟨⟨q1, q2⟩, Or.inr (Or.inr (Or.inr (Or.inr (Or.inl ⟨rfl, x1⟩))))⟩⟩
    · subst q_
      refine ok_tin 9 (len := 38) 88 rfl rfl (by decide) (by decide) rfl rfl ?_
      refine ok_aload_n 30 rfl rfl rfl (ok_iconst 31 rfl rfl (by decide) (ok_callVL (M' := M_Ta_joinedBy) (as := [_]) 32 rfl rfl ml_X11_119 (t_Ta_joinedBy ht hT) (sT ht) rfl (Nat.le_of_ble_eq_true rfl) ⟨Nat.le_of_ble_eq_true rfl, Nat.le_of_ble_eq_true rfl⟩ rfl (Nat.le_of_ble_eq_true rfl) (fun σ' z1 x1 => ?_)))
      obtain ⟨hs_, x1⟩ := x1
      rw [hs_]; clear hs_ σ'
      refine ok_aload_n 33 rfl rfl rfl (ok_getI 34 rfl rfl fl_X11_103 (sT ht) rfl (Or.inl rfl) (ok_callSI (M' := M_Jo_countGroups) (as := [_, _]) 35 rfl rfl ml_X11_123 (t_Jo_countGroups ⟨hT.1, hT.2.1⟩ x1) ⟨Nat.le_of_ble_eq_true rfl, Nat.le_of_ble_eq_true rfl⟩ rfl (Nat.le_of_ble_eq_true rfl) (fun σ' z2 x2 => ?_)))
      obtain ⟨hs_, x2⟩ := x2
      rw [hs_]; clear hs_ σ'
      refine ok_iret 36 rfl rfl rfl ?_
      exact ⟨_, rfl, rfl, Or.inr ⟨⟨q1, q2⟩, Or.inr (Or.inr (Or.inr (Or.inr (Or.inr (Or.inl ⟨rfl, x2.1⟩)))))⟩⟩
    · refine ok_tout 9 (len := 38) 101 rfl rfl q_ rfl ?_
      refine ok_bipush 37 rfl rfl (by decide) (by decide) (ok_iret 38 rfl rfl rfl ?_)
      exact ⟨_, rfl, rfl, Or.inr ⟨⟨q1, q2⟩, Or.inr (Or.inr (Or.inr (Or.inr (Or.inr (Or.inr ⟨q_, rfl⟩)))))⟩⟩
theorem sm_mul (f : Int → Int) (n : Nat) : ∀ m : Nat, sm f (n * m) = sm (fun i => sm (fun j => f ((n : Int) * i + j)) n) m
  | 0 => rfl
  | m + 1 => by
    have e := sm_s (fun i => sm (fun j => f ((n : Int) * i + j)) n) (j := (m : Int)) (by omega)
    rw [show ((m : Int) + 1).toNat = m + 1 by omega, show ((m : Int)).toNat = m by omega] at e
    rw [e, ← sm_mul f n m, Nat.mul_succ, sm_add f (n * m) n]
    congr 1
theorem cntB_cn {σ : eS} {s : Int} (hB : iB1 σ) (hs : 0 ≤ s ∧ s < 4) : cntB σ s = cnV (σ 1 s) (cB σ s) := by
  obtain ⟨g1, g2, -⟩ := hB.1 s hs.1 hs.2
  unfold cntB cnV
  rw [show (σ 1 s * σ 1 s).toNat = (σ 1 s).toNat * (σ 1 s).toNat from Int.toNat_mul g1 g1, sm_mul]
  refine sm_cg (fun i a b => sm_cg (fun j c d => ?_))
  have e : 64 * s + (((σ 1 s).toNat : Int) * i + j) = 64 * s + σ 1 s * i + j := by rw [Int.toNat_of_nonneg g1]; omega
  rw [e]
  show _ = ind (1 ≤ σ 3 (64 * s + σ 1 s * i + j))
  by_cases w : 0 < σ 3 (64 * s + σ 1 s * i + j)
  · rw [if_pos w, ind_t (by omega)]
  · rw [if_neg w, ind_f (by omega)]
theorem t_Mo_look {σ : eS} {s w : Int} (hB : iB1 σ) : MtI shB M_Mo_look [vr 0, vi s, vi w] σ (fun σ' z => fr (fun c _ => c = 8) σ σ' ∧ loB σ s w z) := by
  refine Mt.of okM_Mo_look (Nat.le_of_ble_eq_true rfl) (fun hk hg => ?_)
  by_cases hs : 0 ≤ s ∧ s < 4
  · obtain ⟨n, en⟩ : ∃ x, x = σ 1 s := ⟨_, rfl⟩
    obtain ⟨g1, g2, -⟩ := hB.1 s hs.1 hs.2
    rw [← en] at g1 g2
    obtain ⟨q1, q2⟩ := sq8 ⟨g1, g2⟩
    refine ok_iload_n 0 rfl rfl rfl (ok_callSI (M' := M_Mo_isSlot) (as := [_]) 1 rfl rfl ml_X12_103 (s_Mo_isSlot_y hs) ⟨Nat.le_of_ble_eq_true rfl, Nat.le_of_ble_eq_true rfl⟩ rfl (Nat.le_of_ble_eq_true rfl) (fun σ' z hz => ?_))
    rw [hz.1, hz.2]
    clear hz z σ'
    refine ok_if_ne 2 10 rfl rfl rfl (fun h4 => ?_) (fun h4 => ?_)
    · refine ok_iconst 5 rfl rfl (by decide) (ok_ist3 6 rfl rfl rfl (ok_iconst 7 rfl rfl (by decide) (ok_ist4 8 rfl rfl rfl ?_)))
      refine lpO2 (fun m k : Int => [some (vr 0), some (vi s), some (vi w), some (vi m), some (vi k)]) (fun _ _ => σ) (fun m k => 0 ≤ k ∧ k ≤ n * n ∧ gcD n (cB σ s) (fun x y => n * x + y < k) m) (fun _ k => (n * n - k).toNat) ?_ 0 0 ⟨by omega, by omega, ⟨by omega, by omega⟩, fun x y a b c d q => by have := ix8 (n := n) (i := x) (j := y) ⟨g1, g2⟩ ⟨a, b⟩ ⟨c, d⟩; omega, Or.inl rfl⟩
      rintro m k ⟨k1, k2, k3⟩ ih
      have mb := k3.1
      refine ok_iload 9 rfl rfl rfl (ok_aload_n 10 rfl rfl rfl (ok_getR 11 rfl rfl fl_X12_7 rfl rfl (ok_iload_n 12 rfl rfl rfl (ok_iald 13 rfl rfl rfl (by first | omega | (simp [up_if]; omega) | (simp [up_if] at *; omega)) (ok_aload_n 14 rfl rfl rfl (ok_getR 15 rfl rfl fl_X12_7 rfl rfl (ok_iload_n 16 rfl rfl rfl (ok_iald 17 rfl rfl rfl (by first | omega | (simp [up_if]; omega) | (simp [up_if] at *; omega)) (ok_imul 18 rfl rfl (by rw [← en]; omega) ?_)))))))))
      rw [← en]
      refine ok_icmp_ge 19 56 rfl rfl rfl (fun h30 => ?_) (fun h30 => ?_)
      · have hw : w = 0 ∨ w = 1 ∨ w = 2 ∨ w = 3 ∨ w = 4 ∨ w = 5 ∨ (w < 0 ∨ 5 < w) := by omega
        have hgc : gcD n (cB σ s) (fun _ _ => True) m := gcD_w k3 (fun x y a b c d _ => by have := ix8 (n := n) (i := x) (j := y) ⟨g1, g2⟩ ⟨a, b⟩ ⟨c, d⟩; omega)
        refine ok_iload_n 33 rfl rfl rfl ?_
        rcases hw with rfl | rfl | rfl | rfl | rfl | rfl | hw
        · refine ok_tin (len := 39) 34 96 rfl rfl (by omega) (by omega) rfl rfl ?_
          refine ok_aload_n 35 rfl rfl rfl (ok_getR 36 rfl rfl fl_X12_7 rfl rfl (ok_iload_n 37 rfl rfl rfl (ok_iald 38 rfl rfl rfl (by first | omega | (simp [up_if]; omega) | (simp [up_if] at *; omega)) (ok_iret 39 rfl rfl rfl ?_))))
          exact ⟨_, rfl, fr.rf, Or.inr ⟨hs, Or.inl ⟨rfl, rfl⟩⟩⟩
        · refine ok_tin (len := 39) 34 103 rfl rfl (by omega) (by omega) rfl rfl ?_
          refine ok_aload_n 40 rfl rfl rfl (ok_getR 41 rfl rfl fl_X12_13 rfl rfl (ok_iload_n 42 rfl rfl rfl (ok_iald 43 rfl rfl rfl (by first | omega | (simp [up_if]; omega) | (simp [up_if] at *; omega)) (ok_iret 44 rfl rfl rfl ?_))))
          exact ⟨_, rfl, fr.rf, Or.inr ⟨hs, Or.inr (Or.inl ⟨rfl, rfl⟩)⟩⟩
        · refine ok_tin (len := 39) 34 110 rfl rfl (by omega) (by omega) rfl rfl ?_
          refine ok_aload_n 45 rfl rfl rfl (ok_iload_n 46 rfl rfl rfl (ok_callVI (M' := M_Mo_isEven) (as := [_]) 47 rfl rfl ml_X12_202 (s_Mo_isEven hB) rfl rfl (Nat.le_of_ble_eq_true rfl) ⟨Nat.le_of_ble_eq_true rfl, Nat.le_of_ble_eq_true rfl⟩ rfl (Nat.le_of_ble_eq_true rfl) (fun σ' z hz => ?_)))
          obtain ⟨hs_, hz⟩ := hz
          rw [hs_]; clear hs_ σ'
          refine ok_if_eq 48 128 rfl rfl rfl (fun h115 => ?_) (fun h115 => ?_)
          · have hr : ¬ evB σ s := by
              rcases hz with q | q
              · omega
              · exact q.2
            refine ok_iconst 55 rfl rfl (by decide) (ok_iret 56 rfl rfl rfl ?_)
            first | exact ⟨_, rfl, fr.rf, Or.inr ⟨hs, Or.inr (Or.inr (Or.inl ⟨rfl, Or.inl ⟨hr, rfl⟩⟩))⟩⟩ | exact ⟨_, rfl, fr.rf, Or.inr ⟨hs, Or.inr (Or.inr (Or.inl ⟨rfl, Or.inr ⟨hr, rfl⟩⟩))⟩⟩
          · have hr : evB σ s := by
              rcases hz with q | q
              · exact q.2
              · omega
            have hb := rowB_bd hB hs (i := 0) ⟨by omega, hr.1.2.2⟩
            refine ok_aload_n 49 rfl rfl rfl (ok_iload_n 50 rfl rfl rfl (ok_iconst 51 rfl rfl (by decide) (ok_callVL (M' := M_Mo_rowOf) (as := [_, _]) 52 rfl rfl ml_X12_114 (s_Mo_rowOf hB hs ⟨by omega, hr.1.2.2⟩) rfl rfl (Nat.le_of_ble_eq_true rfl) ⟨Nat.le_of_ble_eq_true rfl, Nat.le_of_ble_eq_true rfl⟩ rfl (Nat.le_of_ble_eq_true rfl) (fun σ' z hz => ?_))))
            rw [hz.1, hz.2]
            clear hz z σ'
            refine ok_l2i 53 rfl rfl (by first | omega | (simp [up_if]; omega) | (simp [up_if] at *; omega)) (ok_goto 54 129 rfl rfl rfl (ok_iret 56 rfl rfl rfl ?_))
            first | exact ⟨_, rfl, fr.rf, Or.inr ⟨hs, Or.inr (Or.inr (Or.inl ⟨rfl, Or.inl ⟨hr, rfl⟩⟩))⟩⟩ | exact ⟨_, rfl, fr.rf, Or.inr ⟨hs, Or.inr (Or.inr (Or.inl ⟨rfl, Or.inr ⟨hr, rfl⟩⟩))⟩⟩
        · refine ok_tin (len := 39) 34 130 rfl rfl (by omega) (by omega) rfl rfl ?_
          refine ok_aload_n 57 rfl rfl rfl (ok_iload_n 58 rfl rfl rfl (ok_callVI (M' := M_Mo_aboveNought) (as := [_]) 59 rfl rfl ml_X12_205 (s_Mo_aboveNought hB hs) rfl rfl (Nat.le_of_ble_eq_true rfl) ⟨Nat.le_of_ble_eq_true rfl, Nat.le_of_ble_eq_true rfl⟩ rfl (Nat.le_of_ble_eq_true rfl) (fun σ' z hz => ?_)))
          rw [hz.1, hz.2]
          clear hz z σ'
          refine ok_iret 60 rfl rfl rfl ?_
          exact ⟨_, rfl, fr.rf, Or.inr ⟨hs, Or.inr (Or.inr (Or.inr (Or.inl ⟨rfl, cntB_cn hB hs⟩)))⟩⟩
        · refine ok_tin (len := 39) 34 136 rfl rfl (by omega) (by omega) rfl rfl ?_
          refine ok_iload_n 61 rfl rfl rfl (ok_iret 62 rfl rfl rfl ?_)
          exact ⟨_, rfl, fr.rf, Or.inr ⟨hs, Or.inr (Or.inr (Or.inr (Or.inr (Or.inl ⟨rfl, by rw [← en]; exact hgc⟩))))⟩⟩
        · refine ok_tin (len := 39) 34 138 rfl rfl (by omega) (by omega) rfl rfl ?_
          refine ok_aload_n 63 rfl rfl rfl (ok_iload_n 64 rfl rfl rfl (ok_callVI (M' := M_Mo_groupsOf) (as := [_]) 65 rfl rfl ml_X12_208 (t_Mo_groupsOf hB hs) rfl rfl (Nat.le_of_ble_eq_true rfl) ⟨Nat.le_of_ble_eq_true rfl, Nat.le_of_ble_eq_true rfl⟩ rfl (Nat.le_of_ble_eq_true rfl) (fun σ' z hz => ?_)))
          refine ok_iret 66 rfl rfl rfl ?_
          exact ⟨_, rfl, hz.1, Or.inr ⟨hs, Or.inr (Or.inr (Or.inr (Or.inr (Or.inr (Or.inl ⟨rfl, hz.2⟩)))))⟩⟩
        · refine ok_tout (len := 39) 34 144 rfl rfl hw rfl ?_
          refine ok_bipush 67 rfl rfl (by decide) (by decide) (ok_iret 68 rfl rfl rfl ?_)
          exact ⟨_, rfl, fr.rf, Or.inr ⟨hs, Or.inr (Or.inr (Or.inr (Or.inr (Or.inr (Or.inr ⟨hw, rfl⟩)))))⟩⟩
      · have n1 : 1 ≤ n := by
          rcases (by omega : n = 0 ∨ 1 ≤ n) with q | q
          · rw [q] at h30; omega
          · exact q
        obtain ⟨i, ei⟩ : ∃ i, i = k / n := ⟨_, rfl⟩
        obtain ⟨j, ej⟩ : ∃ j, j = k % n := ⟨_, rfl⟩
        have e1 : n * i + j = k := by rw [ei, ej]; exact Int.mul_ediv_add_emod k n
        have j1 : 0 ≤ j ∧ j < n := by rw [ej]; exact ⟨Int.emod_nonneg _ (by omega), Int.emod_lt_of_pos _ (by omega)⟩
        have i1 : 0 ≤ i ∧ i < n := by rw [ei]; exact ⟨Int.ediv_nonneg k1 (by omega), Int.ediv_lt_of_lt_mul (by omega) (by omega)⟩
        have cb := cB_bd hB hs (i := i) (j := j) ⟨i1.1, by omega⟩ ⟨j1.1, by omega⟩
        have ec : cB σ s i j = σ 3 (64 * s + k) := by unfold cB; rw [← en, show 64 * s + n * i + j = 64 * s + k by omega]
        have gm := gcD_m (D' := fun x y => n * x + y < k + 1) k3 i1 j1 cb (fun x y a b c d q => by
          rcases (by omega : n * x + y < k ∨ n * x + y = n * i + j) with u | u
          · exact Or.inl u
          · exact Or.inr (ix_inj ⟨n1, g2⟩ ⟨c, d⟩ j1 u))
        rw [ec] at gm cb
        refine ok_iload_n 20 rfl rfl rfl (ok_aload_n 21 rfl rfl rfl (ok_getR 22 rfl rfl fl_X12_16 rfl rfl (ok_bipush 23 rfl rfl (by decide) (by decide) (ok_iload_n 24 rfl rfl rfl (ok_imul 25 rfl rfl (by first | omega | (simp [up_if]; omega) | (simp [up_if] at *; omega)) (ok_iload 26 rfl rfl rfl (ok_iadd 27 rfl rfl (by first | omega | (simp [up_if]; omega) | (simp [up_if] at *; omega)) (ok_iald 28 rfl rfl rfl (by first | omega | (simp [up_if]; omega) | (simp [up_if] at *; omega)) (ok_mmax 29 rfl rfl ml_X12_196 ⟨Nat.le_of_ble_eq_true rfl, Nat.le_of_ble_eq_true rfl⟩ (ok_ist3 30 rfl rfl rfl (ok_inc4 31 rfl rfl rfl (by first | omega | (simp [up_if]; omega) | (simp [up_if] at *; omega)) (ok_goto 32 15 rfl rfl rfl ?_))))))))))))
        exact ih _ (k + 1) ⟨by omega, by omega, gm⟩ (by omega)
    · omega
  · refine ok_iload_n 0 rfl rfl rfl (ok_callSI (M' := M_Mo_isSlot) (as := [_]) 1 rfl rfl ml_X12_103 (s_Mo_isSlot_n hs) ⟨Nat.le_of_ble_eq_true rfl, Nat.le_of_ble_eq_true rfl⟩ rfl (Nat.le_of_ble_eq_true rfl) (fun σ' z hz => ?_))
    rw [hz.1, hz.2]
    clear hz z σ'
    refine ok_if_ne 2 10 rfl rfl rfl (fun h4 => ?_) (fun h4 => ?_)
    · omega
    · refine ok_bipush 3 rfl rfl (by decide) (by decide) (ok_iret 4 rfl rfl rfl ?_)
      exact ⟨_, rfl, fr.rf, Or.inl ⟨hs, rfl⟩⟩
end
section
/-! SOUGHT: words of four rules, purely -/
def RC (n : Int) (W0 : Int → Int → Int) (rs : Nat → Int) : Nat → (Int → Int → Int) → Int → Prop
  | 0, W, P => ag n W W0 ∧ P = 0
  | j + 1, W, P => ∃ W1 P1, RC n W0 rs j W1 P1 ∧ ((nil0 n W1 ∧ ag n W W1 ∧ P = P1) ∨ (∃ ch w, stp n (rs j) W1 W ch w ∧ P = P1 + 1))
def NW (n : Int) (W0 : Int → Int → Int) (rs : Nat → Int) (z : Int) : Prop := ∃ j W, RC n W0 rs j W z ∧ nil0 n W
section K19
variable {n : Int} {W0 V0 : Int → Int → Int} {rs rs' : Nat → Int}
end K19
def rwd (w : Int) (k : Nat) : Int := if k = 0 then w / 64 % 4 else if k = 1 then w / 16 % 4 else if k = 2 then w / 4 % 4 else w % 4
def BSx (n : Int) (W0 : Int → Int → Int) (x p r : Int) : Prop := (x = 0 ∧ p = 65) ∨ ((0 ≤ r ∧ r < x) ∧ NW n W0 (rwd r) p ∧ p ≤ 64 ∧ ∀ w z, 0 ≤ w → w < x → NW n W0 (rwd w) z → p < z ∨ (p = z ∧ r ≤ w))
section K19b
variable {n x p r : Int} {W0 : Int → Int → Int}
end K19b
end
section
/-! SOUGHT, the class: what was found is kept, and right -/
def KN (σ : eS) : Prop := ∀ s : Int, 0 ≤ s → s < 4 → σ (s.toNat + 2) 6 ≠ 0 → evA σ s ∧ σ (s.toNat + 2) 1 ≤ 4 ∧ BSx (σ (s.toNat + 2) 1) (cT σ (s.toNat + 2)) 256 (σ (s.toNat + 2) 7) (σ (s.toNat + 2) 8)
end
section
section K23
variable {n all : Int} {src snk : Int → Int} {mid : Int → Int → Int}
end K23
/-- bounds of what many fractions over b come to -/
def loB' (b s : Int) : Int := s / b
def hiB' (b s : Int) : Int := if s % b = 0 then s / b else s / b + 1
/-- a way to round: cells that aren't whole may be one more, and all sums keep their bounds -/
def fitR (n b : Int) (R y : Int → Int → Int) : Prop :=
  (∀ i j, 0 ≤ i → i < n → 0 ≤ j → j < n → loB' b (R i j) ≤ y i j ∧ y i j ≤ hiB' b (R i j)) ∧
  (∀ i, 0 ≤ i → i < n → loB' b (sm (fun j => R i j) n.toNat) ≤ sm (fun j => y i j) n.toNat ∧ sm (fun j => y i j) n.toNat ≤ hiB' b (sm (fun j => R i j) n.toNat)) ∧
  (∀ j, 0 ≤ j → j < n → loB' b (sm (fun i => R i j) n.toNat) ≤ sm (fun i => y i j) n.toNat ∧ sm (fun i => y i j) n.toNat ≤ hiB' b (sm (fun i => R i j) n.toNat)) ∧
  loB' b (sm (fun i => sm (fun j => R i j) n.toNat) n.toNat) ≤ sm (fun i => sm (fun j => y i j) n.toNat) n.toNat ∧ sm (fun i => sm (fun j => y i j) n.toNat) n.toNat ≤ hiB' b (sm (fun i => sm (fun j => R i j) n.toNat) n.toNat)
/-- up to the place k (rows of n) no way that agrees before has less there -/
def frst (n b : Int) (R x : Int → Int → Int) (k : Int) : Prop := ∀ i j, 0 ≤ i → i < n → 0 ≤ j → j < n → n * i + j < k → ∀ y, fitR n b R y → (∀ i' j', 0 ≤ i' → i' < n → 0 ≤ j' → j' < n → n * i' + j' < n * i + j → y i' j' = x i' j') → x i j ≤ y i j
end
section
def hF (σ : eS) (v w : Int) : Int := σ 43 (v * 18 + w)
end
section
def rndS (n b : Int) (R : Int → Int → Int) (z : Int) : Prop := ∃ x : Int → Int → Int, fitR n b R x ∧ frst n b R x (n * n) ∧ ∀ i j, 0 ≤ i → i < n → 0 ≤ j → j < n → x i j = if jb z i j = true then 1 else 0
end
section
def KRd (σ : eS) : Prop := ∀ s : Int, 0 ≤ s → s < 4 → σ (s.toNat + 2) 4 ≠ 0 → 0 < σ (s.toNat + 2) 1 ∧ rndS (σ (s.toNat + 2) 1) (σ (s.toNat + 2) 2) (fun i j => cT σ (s.toNat + 2) i j % σ (s.toNat + 2) 2) (σ (s.toNat + 2) 5)
end
section
/-! both sides between calls -/
def IB (τ : eS) : Prop := iB1 τ ∧ iK τ ∧ (0 ≤ τ 0 6 ∧ τ 0 6 ≤ 600) ∧ (0 ≤ τ 0 42 ∧ τ 0 42 ≤ 1400)
/-- the tape stays -/
def tpB (τ τ' : eS) : Prop := τ' 0 6 = τ 0 6 ∧ τ' 0 7 = τ 0 7 ∧ τ' 0 8 = τ 0 8 ∧ ∀ k, τ' 5 k = τ 5 k
/-- the parts stay -/
def miK (τ τ' : eS) : Prop := ∀ (c : Nat) (k : Int), (c = 0 ∧ 27 ≤ k ∧ k ≤ 31) ∨ c = 12 ∨ c = 13 → τ' c k = τ c k
theorem miK_rf (τ : eS) : miK τ τ := fun _ _ _ => rfl
/-- what was shown stays -/
def swK (τ τ' : eS) : Prop := τ' 0 42 = τ 0 42 ∧ ∀ k, τ' 23 k = τ 23 k
theorem swK_rf (τ : eS) : swK τ τ := ⟨rfl, fun _ => rfl⟩
def otK (τ τ' : eS) : Prop := miK τ τ' ∧ swK τ τ'
theorem otK_rf (τ : eS) : otK τ τ := ⟨miK_rf _, swK_rf _⟩
def QB0 (τ τ' : eS) : Prop := IB τ' ∧ tpB τ τ' ∧ otK τ τ'
def QB1 (τ τ' : eS) : Prop := IB τ' ∧ tpB τ τ' ∧ tbK τ τ' ∧ swK τ τ'
def QBw (τ τ' : eS) : Prop := IB τ' ∧ tpB τ τ' ∧ tbK τ τ' ∧ miK τ τ'
def QB (τ τ' : eS) : Prop := IB τ' ∧ tpB τ τ' ∧ tbK τ τ' ∧ otK τ τ'
theorem QB.q0 {τ τ' : eS} (h : QB τ τ') : QB0 τ τ' := ⟨h.1, h.2.1, h.2.2.2⟩
theorem iK_cg {σ τ : eS} (h : iK σ) (e : ∀ c k, (c = 0 ∧ 27 ≤ k ∧ k ≤ 31) ∨ c = 12 ∨ c = 13 → τ c k = σ c k) : iK τ := by
  have e27 := e 0 27 (by omega)
  have e28 := e 0 28 (by omega)
  have e29 := e 0 29 (by omega)
  have e30 := e 0 30 (by omega)
  have e31 := e 0 31 (by omega)
  have e12 : ∀ k, τ 12 k = σ 12 k := fun k => e 12 k (by omega)
  have e13 : ∀ k, τ 13 k = σ 13 k := fun k => e 13 k (by omega)
  unfold iK wtK colK
  simp only [e27, e28, e29, e30, e31, e12, e13]
  exact h
theorem QB_rf {σ : eS} (h : IB σ) : QB σ σ := ⟨h, ⟨rfl, rfl, rfl, fun _ => rfl⟩, fun _ => ⟨rfl, rfl, rfl⟩, otK_rf _⟩
theorem QB_cg {σ τ : eS} {P : Nat → Int → Prop} (h : IB σ) (f : fr P σ τ) (e : ∀ c k, (c = 0 ∧ (k = 6 ∨ k = 7 ∨ k = 8 ∨ k = 42 ∨ (27 ≤ k ∧ k ≤ 31))) ∨ (1 ≤ c ∧ c ≤ 5) ∨ c = 12 ∨ c = 13 ∨ c = 23 → ¬ P c k) : QB σ τ := by
  have e6 := f 0 6 (e 0 6 (by omega))
  have e42 := f 0 42 (e 0 42 (by omega))
  refine ⟨⟨h.1.fr (fun c k q => f c k (e c k (by omega))), iK_cg h.2.1 (fun c k q => f c k (e c k (by omega))), ?_, ?_⟩, ⟨e6, f _ _ (e _ _ (by omega)), f _ _ (e _ _ (by omega)), fun k => f _ _ (e _ _ (by omega))⟩, fun k => ⟨f _ _ (e _ _ (by omega)), f _ _ (e _ _ (by omega)), f _ _ (e _ _ (by omega))⟩, ⟨fun c k w => f c k (e c k (by omega)), e42, fun k => f _ _ (e _ _ (by omega))⟩⟩
  · rw [e6]; exact h.2.2.1
  · rw [e42]; exact h.2.2.2
theorem QB_M {σ τ : eS} {z : Int} (h : IB σ) (q : QM σ τ z) : QB0 σ τ := by
  have e6 := q.1 0 6 (by simp [rgM])
  have e42 := q.1 0 42 (by simp [rgM])
  refine ⟨⟨q.2.1, iK_cg h.2.1 (fun c k w => q.1 c k (by simp only [rgM]; omega)), ?_, ?_⟩, ⟨e6, q.1 _ _ (by simp [rgM]), q.1 _ _ (by simp [rgM]), fun k => q.1 _ _ (by simp [rgM])⟩, ⟨fun c k w => q.1 c k (by simp only [rgM]; omega), e42, fun k => q.1 _ _ (by simp [rgM])⟩⟩
  · rw [e6]; exact h.2.2.1
  · rw [e42]; exact h.2.2.2
theorem QB_P {σ τ : eS} (h : IB σ) (q : QP σ τ) : QB1 σ τ := by
  have e6 := q.1 0 6 (by simp [rgP])
  have e42 := q.1 0 42 (by simp [rgP])
  refine ⟨⟨h.1.fr (fun c k w => q.1 c k (by simp only [rgP]; omega)), q.2 h.2.1, ?_, ?_⟩, ⟨e6, q.1 _ _ (by simp [rgP]), q.1 _ _ (by simp [rgP]), fun k => q.1 _ _ (by simp [rgP])⟩, fun k => ⟨q.1 _ _ (by simp [rgP]), q.1 _ _ (by simp [rgP]), q.1 _ _ (by simp [rgP])⟩, e42, fun k => q.1 _ _ (by simp [rgP])⟩
  · rw [e6]; exact h.2.2.1
  · rw [e42]; exact h.2.2.2
theorem QB_W {σ τ : eS} (h : IB σ) (f : fr rgW σ τ) (g : 0 ≤ τ 0 42 ∧ τ 0 42 ≤ 1216) : QBw σ τ := by
  have e6 := f 0 6 (by simp [rgW])
  refine ⟨⟨h.1.fr (fun c k w => f c k (by simp only [rgW]; omega)), iK_cg h.2.1 (fun c k w => f c k (by simp only [rgW]; omega)), ?_, by omega⟩, ⟨e6, f _ _ (by simp [rgW]), f _ _ (by simp [rgW]), fun k => f _ _ (by simp [rgW])⟩, fun k => ⟨f _ _ (by simp [rgW]), f _ _ (by simp [rgW]), f _ _ (by simp [rgW])⟩, fun c k w => f c k (by simp only [rgW]; omega)⟩
  rw [e6]; exact h.2.2.1
theorem fd_o (σ : eS) (t a b c d e : Int) (x : Nat) (k : Int) (h : ¬ (x = 0 ∧ k = 6)) (h5 : x ≠ 5) : fd σ t a b c d e x k = σ x k := by simp [fd, fo, h, h5]
theorem fd_6 (σ : eS) (t a b c d e : Int) : fd σ t a b c d e 0 6 = t + 20 := by unfold fd; rw [fo_6]; omega
theorem g_Ev_feed {σ : eS} {a b c d e : Int} (h : IA σ) : MtI shA M_Ev_feed [vr 0, vi a, vi b, vi c, vi d, vi e] σ (fun σ' z => IA σ' ∧ ((σ 10 3 + 20 ≤ 600 ∧ fdA σ (σ 10 3) a b c d e σ' ∧ z = σ 10 3 + 20) ∨ (600 < σ 10 3 + 20 ∧ σ' = σ ∧ z = -1))) :=
  (s_Ev_feed h.1).weaken (fun σ' v q => by
    obtain ⟨z, e1, q⟩ := q
    refine ⟨z, e1, ?_, q⟩
    rcases q with ⟨g1, g2, g3⟩ | ⟨g1, g2, g3⟩
    · have f := g2.1
      refine ⟨?_, iTs_cg h.2.1 (fun c k a b d => f c k (by simp only [rgG]; omega)), iCh_cg h.2.2.1 (fun k => f _ k (by simp [rgG])), iMi_cg h.2.2.2.1 (fun c k a b => f c k (by simp only [rgG]; omega)), iSh_cg h.2.2.2.2.1 (fun k => f _ k (by simp [rgG])), iSu_cg h.2.2.2.2.2 (fun k => f _ k (by simp [rgG]))⟩
      have := h.1
      unfold tL at *
      have := g2.2.1
      omega
    · subst g2
      exact h)
theorem g_Mo_feed {σ : eS} {a b c d e : Int} (h : IB σ) : MtI shB M_Mo_feed [vr 0, vi a, vi b, vi c, vi d, vi e] σ (fun σ' z => IB σ' ∧ ((σ 0 6 + 20 ≤ 600 ∧ σ' = fd σ (σ 0 6) a b c d e ∧ z = σ 0 6 + 20) ∨ (600 < σ 0 6 + 20 ∧ σ' = σ ∧ z = -1))) :=
  (s_Mo_feed h.2.2.1).weaken (fun σ' v q => by
    obtain ⟨z, e1, q⟩ := q
    refine ⟨z, e1, ?_, q⟩
    rcases q with ⟨g1, g2, g3⟩ | ⟨g1, g2, g3⟩
    · subst g2
      have h6 := h.2.2.1
      exact ⟨h.1.fr (fun c k w => fd_o _ _ _ _ _ _ _ _ _ (by omega) (by omega)), iK_cg h.2.1 (fun c k w => fd_o _ _ _ _ _ _ _ _ _ (by omega) (by omega)), by rw [fd_6]; omega, by rw [fd_o _ _ _ _ _ _ _ _ _ (by omega) (by omega)]; exact h.2.2.2⟩
    · subst g2
      exact h)
theorem g_Ev_end {σ : eS} {n : Int} (h : IA σ) : MtI shA M_Ev_end [vr 0, vi n] σ (fun σ' z => IA σ' ∧ ((0 ≤ n ∧ n ≤ σ 10 3 ∧ σ' = up σ 10 3 n ∧ z = 1) ∨ (¬ (0 ≤ n ∧ n ≤ σ 10 3) ∧ σ' = σ ∧ z = 0))) :=
  s_Ev_end.weaken (fun σ' v q => by
    obtain ⟨z, e1, q⟩ := q
    refine ⟨z, e1, ?_, q⟩
    rcases q with ⟨g1, g2, g3, g4⟩ | ⟨g1, g2, g3⟩
    · subst g3
      have f : fr (fun c k => c = 10 ∧ k = 3) σ (up σ 10 3 n) := fr_up fr.rf ⟨rfl, rfl⟩
      refine ⟨?_, iTs_cg h.2.1 (fun c k a b d => f c k (by omega)), iCh_cg h.2.2.1 (fun k => f _ k (by omega)), iMi_cg h.2.2.2.1 (fun c k a b => f c k (by omega)), iSh_cg h.2.2.2.2.1 (fun k => f _ k (by omega)), iSu_cg h.2.2.2.2.2 (fun k => f _ k (by omega))⟩
      have := h.1
      unfold tL at *
      rw [up_same]
      omega
    · subst g2
      exact h)
theorem g_Mo_end {σ : eS} {n : Int} (h : IB σ) : MtI shB M_Mo_end [vr 0, vi n] σ (fun σ' z => IB σ' ∧ ((0 ≤ n ∧ n ≤ σ 0 6 ∧ σ' = up σ 0 6 n ∧ z = 1) ∨ (¬ (0 ≤ n ∧ n ≤ σ 0 6) ∧ σ' = σ ∧ z = 0))) :=
  s_Mo_end.weaken (fun σ' v q => by
    obtain ⟨z, e1, q⟩ := q
    refine ⟨z, e1, ?_, q⟩
    rcases q with ⟨g1, g2, g3, g4⟩ | ⟨g1, g2, g3⟩
    · subst g3
      have h6 := h.2.2.1
      refine ⟨h.1.fr (fun c k w => up_ne _ _ _ _ (by omega)), iK_cg h.2.1 (fun c k w => ?_), by rw [up_same]; omega, by rw [up_nk _ _ _ _ (by decide)]; exact h.2.2.2⟩
      rw [up_if, if_neg (by omega)]
    · subst g2
      exact h)
theorem g_Ev_table {σ : eS} {s : Int} (h : IA σ) : MtI shA M_Ev_table [vr 0, vi s] σ (fun σ' z => IA σ' ∧ (σ' 10 3 = 0 ∧ TA σ s σ' z) ∧ otS σ σ') := t_Ev_table h
theorem g_Mo_table {σ : eS} {s : Int} (h : IB σ ∧ byt σ) : MtI shB M_Mo_table [vr 0, vi s] σ (fun σ' z => IB σ' ∧ (σ' 0 6 = 0 ∧ TB σ s σ' z) ∧ otK σ σ') :=
  (t_Mo_table h.1.1 h.1.2.2.1 h.2).weaken (fun σ' v q => by
    obtain ⟨z, e1, ⟨f, g1, g2⟩, g3⟩ := q
    exact ⟨z, e1, ⟨g1, iK_cg h.1.2.1 (fun c k w => f c k (by simp only [rgT]; omega)), by omega, by rw [f 0 42 (by simp [rgT])]; exact h.1.2.2.2⟩, ⟨g2, g3⟩, fun c k w => f c k (by simp only [rgT]; omega), f _ _ (by simp [rgT]), fun k => f _ _ (by simp [rgT])⟩)
theorem g_Ev_cell {σ : eS} {x0 x1 x2 : Int} (h : IA σ) : MtI shA M_Ev_cell [vr 0, vi x0, vi x1, vi x2] σ (fun σ' z => QA σ σ' ∧ ((celA σ x0 x1 x2 ∧ z = cT σ (x0.toNat + 2) x1 x2) ∨ (¬ celA σ x0 x1 x2 ∧ z = -1))) := (s_Ev_cell h).weaken (fun σ' v q => by obtain ⟨z, e1, g1, g2⟩ := q; subst g1; exact ⟨z, e1, QA_rf h, g2⟩)
theorem g_Mo_cell {σ : eS} {x0 x1 x2 : Int} (h : IB σ) : MtI shB M_Mo_cell [vr 0, vi x0, vi x1, vi x2] σ (fun σ' z => QB σ σ' ∧ ((celB σ x0 x1 x2 ∧ z = cB σ x0 x1 x2) ∨ (¬ celB σ x0 x1 x2 ∧ z = -1))) := (s_Mo_cell h.1).weaken (fun σ' v q => by obtain ⟨z, e1, g1, g2⟩ := q; subst g1; exact ⟨z, e1, QB_rf h, g2⟩)
theorem g_Ev_uneven {σ : eS} {x0 : Int} (h : IA σ) : MtI shA M_Ev_uneven [vr 0, vi x0] σ (fun σ' z => QA σ σ' ∧ ((¬ tabA σ x0 ∧ z = -1) ∨ (tabA σ x0 ∧ unev (rowT σ (x0.toNat + 2)) (colT σ (x0.toNat + 2)) (σ (x0.toNat + 2) 1) z))) := (s_Ev_uneven h).weaken (fun σ' v q => by obtain ⟨z, e1, g1, g2⟩ := q; subst g1; exact ⟨z, e1, QA_rf h, g2⟩)
theorem g_Mo_uneven {σ : eS} {x0 : Int} (h : IB σ) : MtI shB M_Mo_uneven [vr 0, vi x0] σ (fun σ' z => QB σ σ' ∧ ((¬ tabB σ x0 ∧ z = -1) ∨ (tabB σ x0 ∧ unev (rowB σ x0) (colB σ x0) (σ 1 x0) z))) := (s_Mo_uneven h.1).weaken (fun σ' v q => by obtain ⟨z, e1, g1, g2⟩ := q; subst g1; exact ⟨z, e1, QB_rf h, g2⟩)
theorem g_Ev_lack {σ : eS} {x0 x1 x2 : Int} (h : IA σ) : MtI shA M_Ev_lack [vr 0, vi x0, vi x1, vi x2] σ (fun σ' z => QA σ σ' ∧ ((¬ okL (tabA σ x0) x1 x2 ∧ z = -1) ∨ (okL (tabA σ x0) x1 x2 ∧ z = lackV (σ (x0.toNat + 2) 1) (fun i j => x1 ≤ cT σ (x0.toNat + 2) i j) x2))) := (t_Ev_lack h).weaken (fun σ' v q => by obtain ⟨z, e1, g1, g2⟩ := q; subst g1; exact ⟨z, e1, QA_rf h, g2⟩)
theorem g_Mo_lack {σ : eS} {x0 x1 x2 : Int} (h : IB σ) : MtI shB M_Mo_lack [vr 0, vi x0, vi x1, vi x2] σ (fun σ' z => QB σ σ' ∧ ((¬ okL (tabB σ x0) x1 x2 ∧ z = -1) ∨ (okL (tabB σ x0) x1 x2 ∧ z = lackV (σ 1 x0) (fun i j => x1 ≤ cB σ x0 i j) x2))) := (t_Mo_lack h.1).weaken (fun σ' v q => by obtain ⟨z, e1, g1, g2⟩ := q; subst g1; exact ⟨z, e1, QB_rf h, g2⟩)
theorem g_Ev_mixing {σ : eS} {x0 : Int} (h : IA σ) : MtI shA M_Ev_mixing [vr 0, vi x0] σ (fun σ' z => QA σ σ' ∧ ((¬ tabA σ x0 ∧ z = -1) ∨ (tabA σ x0 ∧ mxG (σ (x0.toNat + 2) 1) (cT σ (x0.toNat + 2)) z))) := (t_Ev_mixing h).weaken (fun σ' v q => by obtain ⟨z, e1, g1, g2⟩ := q; subst g1; exact ⟨z, e1, QA_rf h, g2⟩)
theorem g_Mo_mixing {σ : eS} {x0 : Int} (h : IB σ) : MtI shB M_Mo_mixing [vr 0, vi x0] σ (fun σ' z => QB σ σ' ∧ ((¬ tabB σ x0 ∧ z = -1) ∨ (tabB σ x0 ∧ mxG (σ 1 x0) (cB σ x0) z))) := (t_Mo_mixing h.1).weaken (fun σ' v q => by obtain ⟨z, e1, g1, g2⟩ := q; exact ⟨z, e1, QB_cg h g1 (fun c k w => by simp only [rgX]; omega), g2⟩)
theorem g_Ev_kin {σ : eS} {x0 x1 : Int} (h : IA σ) : MtI shA M_Ev_kin [vr 0, vi x0, vi x1] σ (fun σ' z => QA σ σ' ∧ ((¬ okKn (tabA σ x0) (σ (x0.toNat + 2) 1) x1 ∧ z = -1) ∨ (okKn (tabA σ x0) (σ (x0.toNat + 2) 1) x1 ∧ kiS (σ (x0.toNat + 2) 1) (cT σ (x0.toNat + 2)) x1 z))) := (t_Ev_kin h).weaken (fun σ' v q => by obtain ⟨z, e1, g1, g2⟩ := q; subst g1; exact ⟨z, e1, QA_rf h, g2⟩)
theorem g_Mo_kin {σ : eS} {x0 x1 : Int} (h : IB σ) : MtI shB M_Mo_kin [vr 0, vi x0, vi x1] σ (fun σ' z => QB σ σ' ∧ ((¬ okKn (tabB σ x0) (σ 1 x0) x1 ∧ z = -1) ∨ (okKn (tabB σ x0) (σ 1 x0) x1 ∧ kiS (σ 1 x0) (cB σ x0) x1 z))) := (t_Mo_kin h.1).weaken (fun σ' v q => by obtain ⟨z, e1, g1, g2⟩ := q; exact ⟨z, e1, QB_cg h g1 (fun c k w => by simp only [rgX]; omega), g2⟩)
theorem g_Ev_part {σ : eS} {x0 x1 : Int} (h : IA σ) : MtI shA M_Ev_part [vr 0, vi x0, vi x1] σ (fun σ' z => QA σ σ' ∧ prS (σ 22 5) (σ 22 4) (kA σ) x0 x1 z) := (t_Ev_part h).weaken (fun σ' v q => by obtain ⟨z, e1, g1, g2⟩ := q; subst g1; exact ⟨z, e1, QA_rf h, g2⟩)
theorem g_Mo_part {σ : eS} {x0 x1 : Int} (h : IB σ) : MtI shB M_Mo_part [vr 0, vi x0, vi x1] σ (fun σ' z => QB σ σ' ∧ ((z = σ 13 (8 * x0 + x1) ∧ 0 ≤ x0 ∧ x0 < σ 0 27 ∧ 0 ≤ x1 ∧ x1 < σ 0 28) ∨ (z = -1 ∧ ¬ (0 ≤ x0 ∧ x0 < σ 0 27 ∧ 0 ≤ x1 ∧ x1 < σ 0 28)))) := (s_Mo_part h.2.1).weaken (fun σ' v q => by obtain ⟨z, e1, g1, g2⟩ := q; subst g1; exact ⟨z, e1, QB_rf h, g2⟩)
theorem g_Ev_weight {σ : eS} {x0 x1 : Int} (h : IA σ) : MtI shA M_Ev_weight [vr 0, vi x0, vi x1] σ (fun σ' z => QA σ σ' ∧ ((1 ≤ σ 22 6 → wtS (σ 22 5) (σ 22 6) (wA σ) x0 x1 z) ∧ (σ 22 5 = 0 → z = -1))) := (t_Ev_weight h).weaken (fun σ' v q => by obtain ⟨z, e1, g1, g2⟩ := q; subst g1; exact ⟨z, e1, QA_rf h, g2⟩)
theorem g_Mo_weight {σ : eS} {x0 x1 : Int} (h : IB σ) : MtI shB M_Mo_weight [vr 0, vi x0, vi x1] σ (fun σ' z => QB σ σ' ∧ wtS (σ 0 27) (σ 0 29) (wB σ) x0 x1 z) := (t_Mo_weight h.2.1).weaken (fun σ' v q => by obtain ⟨z, e1, g1, g2⟩ := q; subst g1; exact ⟨z, e1, QB_rf h, g2⟩)
theorem g_Ev_draw {σ : eS} {x0 : Int} (h : IA σ) : MtI shA M_Ev_draw [vr 0, vi x0] σ (fun σ' z => QA σ σ' ∧ drS (σ 22 5) (wA σ) x0 z) := (t_Ev_draw h).weaken (fun σ' v q => by obtain ⟨z, e1, g1, g2⟩ := q; subst g1; exact ⟨z, e1, QA_rf h, g2⟩)
theorem g_Mo_draw {σ : eS} {x0 : Int} (h : IB σ) : MtI shB M_Mo_draw [vr 0, vi x0] σ (fun σ' z => QB σ σ' ∧ drS (σ 0 27) (wB σ) x0 z) := (t_Mo_draw h.2.1).weaken (fun σ' v q => by obtain ⟨z, e1, g1, g2⟩ := q; subst g1; exact ⟨z, e1, QB_rf h, g2⟩)
theorem g_Ev_joint {σ : eS} {x0 x1 x2 x3 x4 : Int} (h : IA σ) : MtI shA M_Ev_joint [vr 0, vi x0, vi x1, vi x2, vi x3, vi x4] σ (fun σ' z => QA σ σ' ∧ ((1 ≤ σ 22 6 → jtS (σ 22 5) (σ 22 4) (σ 22 6) (wA σ) (kA σ) x0 x1 x2 x3 x4 z) ∧ (σ 22 4 = 0 → z = -1))) := (t_Ev_joint h).weaken (fun σ' v q => by obtain ⟨z, e1, g1, g2⟩ := q; subst g1; exact ⟨z, e1, QA_rf h, g2⟩)
theorem g_Mo_joint {σ : eS} {x0 x1 x2 x3 x4 : Int} (h : IB σ) : MtI shB M_Mo_joint [vr 0, vi x0, vi x1, vi x2, vi x3, vi x4] σ (fun σ' z => QB σ σ' ∧ ((σ 0 27 ≠ 0 → jtS (σ 0 27) (σ 0 28) (σ 0 29) (wB σ) (kB σ) x0 x1 x2 x3 x4 z) ∧ (σ 0 27 = 0 → z = -1))) := (t_Mo_joint h.2.1).weaken (fun σ' v q => by obtain ⟨z, e1, g1, g2⟩ := q; subst g1; exact ⟨z, e1, QB_rf h, g2⟩)
theorem g_Ev_most {σ : eS} {x0 x1 : Int} (h : IA σ) : MtI shA M_Ev_most [vr 0, vi x0, vi x1] σ (fun σ' z => QA σ σ' ∧ mtS (σ 22 5) (σ 22 4) (wA σ) (kA σ) x0 x1 z) := (t_Ev_most h).weaken (fun σ' v q => by obtain ⟨z, e1, g1, g2⟩ := q; subst g1; exact ⟨z, e1, QA_rf h, g2⟩)
theorem g_Mo_most {σ : eS} {x0 x1 : Int} (h : IB σ) : MtI shB M_Mo_most [vr 0, vi x0, vi x1] σ (fun σ' z => QB σ σ' ∧ moS (σ 0 27) (σ 0 28) (wB σ) (kB σ) x0 x1 z) := (t_Mo_most h.2.1).weaken (fun σ' v q => by obtain ⟨z, e1, g1, g2⟩ := q; subst g1; exact ⟨z, e1, QB_rf h, g2⟩)
theorem g_Ev_works {σ : eS} {x0 x1 : Int} (h : IA σ) : MtI shA M_Ev_works [vr 0, vi x0, vi x1] σ (fun σ' z => QA σ σ' ∧ wkS (σ 22 5) (σ 22 3) (wA σ) (kA σ) (σ 22 2 = 2 ∧ 0 ≤ x0 ∧ x0 < σ 22 3) x0 x1 z) := (t_Ev_works h).weaken (fun σ' v q => by obtain ⟨z, e1, g1, g2⟩ := q; subst g1; exact ⟨z, e1, QA_rf h, g2⟩)
theorem g_Mo_works {σ : eS} {x0 x1 : Int} (h : IB σ) : MtI shB M_Mo_works [vr 0, vi x0, vi x1] σ (fun σ' z => QB σ σ' ∧ wkS (σ 0 27) (σ 0 31) (wB σ) (kB σ) (σ 0 30 = 2 ∧ 0 ≤ x0 ∧ x0 < σ 0 31) x0 x1 z) := (t_Mo_works h.2.1).weaken (fun σ' v q => by obtain ⟨z, e1, g1, g2⟩ := q; subst g1; exact ⟨z, e1, QB_rf h, g2⟩)
theorem g_Ev_job {σ : eS} {x0 x1 : Int} (h : IA σ) : MtI shA M_Ev_job [vr 0, vi x0, vi x1] σ (fun σ' _ => QA σ σ') := (s_Ev_job h).weaken (fun σ' v q => by obtain ⟨z, e1, g1, _⟩ := q; subst g1; exact ⟨z, e1, QA_rf h⟩)
theorem g_Mo_job {σ : eS} {x0 x1 : Int} (h : IB σ) : MtI shB M_Mo_job [vr 0, vi x0, vi x1] σ (fun σ' _ => QB σ σ') := (s_Mo_job h.2.1).weaken (fun σ' v q => by obtain ⟨z, e1, g1⟩ := q; subst g1; exact ⟨z, e1, QB_rf h⟩)
theorem g_Ev_out {σ : eS} {x0 : Int} (h : IA σ) : MtI shA M_Ev_out [vr 0, vi x0] σ (fun σ' z => QA σ σ' ∧ ouS (σ 46 1) (fun k => σ 47 k) x0 z) := (t_Ev_out h).weaken (fun σ' v q => by obtain ⟨z, e1, g1, g2⟩ := q; subst g1; exact ⟨z, e1, QA_rf h, g2⟩)
theorem g_Mo_out {σ : eS} {x0 : Int} (h : IB σ) : MtI shB M_Mo_out [vr 0, vi x0] σ (fun σ' z => QB σ σ' ∧ ouS (σ 0 42) (fun k => σ 23 k) x0 z) := (t_Mo_out h.2.2.2).weaken (fun σ' v q => by obtain ⟨z, e1, g1, g2⟩ := q; subst g1; exact ⟨z, e1, QB_rf h, g2⟩)
theorem g_Ev_fault {σ : eS} {x0 : Int} (h : IA σ) : MtI shA M_Ev_fault [vr 0, vi x0] σ (fun σ' z => QA σ σ' ∧ z = if x0 = 0 then σ 10 4 else if x0 = 1 then σ 10 5 else -1) := (s_Ev_fault).weaken (fun σ' v q => by obtain ⟨z, e1, g1, g2⟩ := q; subst g1; exact ⟨z, e1, QA_rf h, g2⟩)
theorem g_Mo_fault {σ : eS} {x0 : Int} (h : IB σ) : MtI shB M_Mo_fault [vr 0, vi x0] σ (fun σ' z => QB σ σ' ∧ z = if x0 = 0 then σ 0 7 else if x0 = 1 then σ 0 8 else -1) := (s_Mo_fault).weaken (fun σ' v q => by obtain ⟨z, e1, g1, g2⟩ := q; subst g1; exact ⟨z, e1, QB_rf h, g2⟩)
theorem g_Ev_kept {σ : eS} {x0 : Int} (h : IA σ) : MtI shA M_Ev_kept [vr 0, vi x0] σ (fun σ' z => QA σ σ' ∧ z = if x0 = 0 then σ 22 2 else if x0 = 1 then σ 22 5 else if x0 = 2 then σ 22 6 else if x0 = 3 then σ 22 3 else if x0 = 4 then σ 10 3 else -1) := (t_Ev_kept).weaken (fun σ' v q => by obtain ⟨z, e1, g1, g2⟩ := q; subst g1; exact ⟨z, e1, QA_rf h, g2⟩)
theorem g_Mo_kept {σ : eS} {x0 : Int} (h : IB σ) : MtI shB M_Mo_kept [vr 0, vi x0] σ (fun σ' z => QB σ σ' ∧ z = if x0 = 0 then σ 0 30 else if x0 = 1 then σ 0 27 else if x0 = 2 then σ 0 29 else if x0 = 3 then (if σ 0 30 = 2 then σ 0 31 else σ 0 28) else if x0 = 4 then σ 0 6 else -1) := (t_Mo_kept).weaken (fun σ' v q => by obtain ⟨z, e1, g1, g2⟩ := q; subst g1; exact ⟨z, e1, QB_rf h, g2⟩)
theorem g_Ev_peel {σ : eS} {x0 x1 : Int} (h : IA σ ∧ iSe σ ∧ σ 16 3 + 64 < 2147483647) : MtI shA M_Ev_peel [vr 0, vi x0, vi x1] σ (fun σ' z => XpA σ x0 x1 σ' z) := t_Ev_peel h.1 h.2.1 h.2.2
theorem g_Mo_peel {σ : eS} {x0 x1 : Int} (h : IB σ) : MtI shB M_Mo_peel [vr 0, vi x0, vi x1] σ (fun σ' z => XpB σ x0 x1 σ' z) := t_Mo_peel h.1
theorem g_Ev_shop {σ : eS} {x0 x1 : Int} (h : IA σ ∧ iSe σ ∧ σ 16 3 + 64 < 2147483647) : MtI shA M_Ev_shop [vr 0, vi x0, vi x1] σ (fun σ' z => XsA σ x0 x1 σ' z) := t_Ev_shop h.1 h.2.1 h.2.2
theorem g_Mo_shop {σ : eS} {x0 x1 : Int} (h : IB σ) : MtI shB M_Mo_shop [vr 0, vi x0, vi x1] σ (fun σ' z => XsB σ x0 x1 σ' z) := t_Mo_shop h.1
theorem g_Ev_paired {σ : eS} {x0 x1 x2 : Int} (h : IA σ ∧ iSe σ ∧ σ 16 3 + 64 < 2147483647) : MtI shA M_Ev_paired [vr 0, vi x0, vi x1, vi x2] σ (fun σ' z => QA σ σ' ∧ ((¬ okPr (tabA σ x0) (σ (x0.toNat + 2) 1) x1 x2 ∧ z = -1) ∨ (okPr (tabA σ x0) (σ (x0.toNat + 2) 1) x1 x2 ∧ paS (σ (x0.toNat + 2) 1) (fun i j => x1 ≤ cT σ (x0.toNat + 2) i j) x2 z))) := t_Ev_paired h
theorem g_Mo_paired {σ : eS} {x0 x1 x2 : Int} (h : IB σ) : MtI shB M_Mo_paired [vr 0, vi x0, vi x1, vi x2] σ (fun σ' z => QB σ σ' ∧ ((¬ okPr (tabB σ x0) (σ 1 x0) x1 x2 ∧ z = -1) ∨ (okPr (tabB σ x0) (σ 1 x0) x1 x2 ∧ paS (σ 1 x0) (fun i j => x1 ≤ cB σ x0 i j) x2 z))) := (t_Mo_paired h.1).weaken (fun σ' v q => by obtain ⟨z, e1, g1, g2⟩ := q; exact ⟨z, e1, QB_cg h g1 (fun c k w => by simp only [rgS]; omega), g2⟩)
theorem g_Ev_ways {σ : eS} {x0 x1 : Int} (h : IA σ) : MtI shA M_Ev_ways [vr 0, vi x0, vi x1] σ (fun σ' z => QA σ σ' ∧ ((¬ okW (tabA σ x0) x1 ∧ z = -1) ∨ (okW (tabA σ x0) x1 ∧ z = wyV (σ (x0.toNat + 2) 1) (fun i j => x1 ≤ cT σ (x0.toNat + 2) i j)))) := t_Ev_ways h
theorem g_Mo_ways {σ : eS} {x0 x1 : Int} (h : IB σ) : MtI shB M_Mo_ways [vr 0, vi x0, vi x1] σ (fun σ' z => QB σ σ' ∧ ((¬ okW (tabB σ x0) x1 ∧ z = -1) ∨ (okW (tabB σ x0) x1 ∧ z = wyV (σ 1 x0) (fun i j => x1 ≤ cB σ x0 i j)))) := (t_Mo_ways h.1).weaken (fun σ' v q => by obtain ⟨z, e1, g1, g2⟩ := q; exact ⟨z, e1, QB_cg h g1 (fun c k w => by simp only [rgU]; omega), g2⟩)
theorem g_Ev_widest {σ : eS} {x0 : Int} (h : IA σ) : MtI shA M_Ev_widest [vr 0, vi x0] σ (fun σ' z => QA σ σ' ∧ ((¬ tabA σ x0 ∧ z = -1) ∨ (tabA σ x0 ∧ wdA (σ (x0.toNat + 2) 1) (fun i j => 0 ≤ cT σ (x0.toNat + 2) i j) (cT σ (x0.toNat + 2)) z))) := t_Ev_widest h
theorem g_Mo_widest {σ : eS} {x0 : Int} (h : IB σ) : MtI shB M_Mo_widest [vr 0, vi x0] σ (fun σ' z => QB σ σ' ∧ ((¬ tabB σ x0 ∧ z = -1) ∨ (tabB σ x0 ∧ wdA (σ 1 x0) (fun i j => 0 ≤ wk (wo σ x0 (σ 1 x0) (σ 1 x0 * σ 1 x0)) i j) (wk (wo σ x0 (σ 1 x0) (σ 1 x0 * σ 1 x0))) z))) := (t_Mo_widest h.1).weaken (fun σ' v q => by obtain ⟨z, e1, g1, g2⟩ := q; exact ⟨z, e1, QB_cg h g1 (fun c k w => by simp only [rgS]; omega), g2⟩)
theorem g_Ev_best {σ : eS} {x0 x1 : Int} (h : IA σ) : MtL shA M_Ev_best [vr 0, vi x0, vi x1] σ (fun σ' z => QA σ σ' ∧ ((¬ okBs (tabA σ x0) (σ (x0.toNat + 2) 1) x1 ∧ z = -1) ∨ (okBs (tabA σ x0) (σ (x0.toNat + 2) 1) x1 ∧ bsA (σ (x0.toNat + 2) 1) (fun i j => 0 ≤ cT σ (x0.toNat + 2) i j) (cT σ (x0.toNat + 2)) x1 z))) := t_Ev_best h
theorem g_Mo_best {σ : eS} {x0 x1 : Int} (h : IB σ) : MtL shB M_Mo_best [vr 0, vi x0, vi x1] σ (fun σ' z => QB σ σ' ∧ ((¬ okBs (tabB σ x0) (σ 1 x0) x1 ∧ z = -1) ∨ (okBs (tabB σ x0) (σ 1 x0) x1 ∧ bsA (σ 1 x0) (fun i j => 0 ≤ wk (wo σ x0 (σ 1 x0) (σ 1 x0 * σ 1 x0)) i j) (wk (wo σ x0 (σ 1 x0) (σ 1 x0 * σ 1 x0))) x1 z))) := (t_Mo_best h.1).weaken (fun σ' v q => by obtain ⟨z, e1, g1, g2⟩ := q; exact ⟨z, e1, QB_cg h g1 (fun c k w => by simp only [rgS]; omega), g2⟩)
theorem g_Ev_permanent {σ : eS} {x0 : Int} (h : IA σ) : MtL shA M_Ev_permanent [vr 0, vi x0] σ (fun σ' z => QA σ σ' ∧ ((¬ tabA σ x0 ∧ z = -1) ∨ (tabA σ x0 ∧ pmA (σ (x0.toNat + 2) 1) (cT σ (x0.toNat + 2)) z))) := t_Ev_permanent h
theorem g_Mo_permanent {σ : eS} {x0 : Int} (h : IB σ) : MtL shB M_Mo_permanent [vr 0, vi x0] σ (fun σ' z => QB σ σ' ∧ ((¬ tabB σ x0 ∧ z = -1) ∨ (tabB σ x0 ∧ pmA (σ 1 x0) (cB σ x0) z))) := (t_Mo_permanent h.1).weaken (fun σ' v q => by obtain ⟨z, e1, g1, g2⟩ := q; exact ⟨z, e1, QB_cg h g1 (fun c k w => by simp only [rgU]; omega), g2⟩)
theorem g_Ev_sought {σ : eS} {x0 x1 : Int} (h : IA σ) : MtI shA M_Ev_sought [vr 0, vi x0, vi x1] σ (fun σ' _ => QAk σ σ') := (s_Ev_sought h).weaken (fun σ' v q => by exact q)
theorem g_Mo_sought {σ : eS} {x0 x1 : Int} (h : IB σ) : MtI shB M_Mo_sought [vr 0, vi x0, vi x1] σ (fun σ' _ => QB σ σ') := (s_Mo_sought h.1).weaken (fun σ' v q => by obtain ⟨z, e1, g1⟩ := q; exact ⟨z, e1, QB_cg h g1 (fun c k w => by simp only [rgS]; omega)⟩)
theorem g_Ev_bound {σ : eS} {x0 x1 : Int} (h : IA σ) : MtI shA M_Ev_bound [vr 0, vi x0, vi x1] σ (fun σ' _ => QA σ σ') := (s_Ev_bound h).weaken (fun σ' v q => by exact q)
theorem g_Mo_bound {σ : eS} {x0 x1 : Int} (h : IB σ) : MtI shB M_Mo_bound [vr 0, vi x0, vi x1] σ (fun σ' _ => QB σ σ') := (s_Mo_bound h.1).weaken (fun σ' v q => by obtain ⟨z, e1, g1⟩ := q; exact ⟨z, e1, QB_cg h g1 (fun c k w => by omega)⟩)
theorem g_Ev_rounded {σ : eS} {x0 x1 x2 : Int} (h : IA σ) : MtI shA M_Ev_rounded [vr 0, vi x0, vi x1, vi x2] σ (fun σ' _ => QAr σ σ') := (s_Ev_rounded h).weaken (fun σ' v q => by exact q)
theorem g_Mo_rounded {σ : eS} {x0 x1 x2 : Int} (h : IB σ) : MtI shB M_Mo_rounded [vr 0, vi x0, vi x1, vi x2] σ (fun σ' _ => QB σ σ') := (s_Mo_rounded h.1).weaken (fun σ' v q => by obtain ⟨z, e1, g1⟩ := q; exact ⟨z, e1, QB_cg h g1 (fun c k w => by simp only [rgN]; omega)⟩)
theorem g_Ev_show {σ : eS} (h : IA σ) : MtI shA M_Ev_show [vr 0] σ (fun σ' z => QAw σ σ' ∧ z = σ' 46 1 ∧ bfl (fun k => σ' 47 k) (σ' 46 1) (shL (wA σ) (kA σ) (σ 22 4) (σ 22 5).toNat)) := t_Ev_show h
theorem g_Mo_show {σ : eS} (h : IB σ) : MtI shB M_Mo_show [vr 0] σ (fun σ' z => QBw σ σ' ∧ z = σ' 0 42 ∧ bfl (fun k => σ' 23 k) (σ' 0 42) (shL (wB σ) (kB σ) (σ 0 28) (σ 0 27).toNat)) := (t_Mo_show h.2.1).weaken (fun σ' v q => by obtain ⟨z, e1, g1, g2, g3⟩ := q; exact ⟨z, e1, QB_W h g1 g2, g3⟩)
theorem g_Ev_mix {σ : eS} {x0 x1 x2 x3 x4 x5 x6 : Int} (h : IA σ) : MtI shA M_Ev_mix [vr 0, vi x0, vi x1, vi x2, vi x3, vi x4, vi x5, vi x6] σ (fun σ' z => QA0 σ σ' ∧ XmA σ x0 x1 x2 x3 x4 x5 x6 σ' z) := t_Ev_mix h
theorem g_Mo_mix {σ : eS} {x0 x1 x2 x3 x4 x5 x6 : Int} (h : IB σ) : MtI shB M_Mo_mix [vr 0, vi x0, vi x1, vi x2, vi x3, vi x4, vi x5, vi x6] σ (fun σ' z => QB0 σ σ' ∧ XmB σ x0 x1 x2 x3 x4 x5 x6 σ' z) := (t_Mo_mix h.1).weaken (fun σ' v q => by obtain ⟨z, e1, g1, g2⟩ := q; exact ⟨z, e1, QB_M h g1, g2⟩)
theorem g_Ev_times {σ : eS} {x0 x1 x2 : Int} (h : IA σ) : MtI shA M_Ev_times [vr 0, vi x0, vi x1, vi x2] σ (fun σ' z => QA0 σ σ' ∧ XtA σ x0 x1 x2 σ' z) := t_Ev_times h
theorem g_Mo_times {σ : eS} {x0 x1 x2 : Int} (h : IB σ) : MtI shB M_Mo_times [vr 0, vi x0, vi x1, vi x2] σ (fun σ' z => QB0 σ σ' ∧ XtB σ x0 x1 x2 σ' z) := (t_Mo_times h.1).weaken (fun σ' v q => by obtain ⟨z, e1, g1, g2⟩ := q; exact ⟨z, e1, QB_M h g1, g2⟩)
theorem g_Ev_turn {σ : eS} {x0 x1 x2 x3 : Int} (h : IA σ) : MtI shA M_Ev_turn [vr 0, vi x0, vi x1, vi x2, vi x3] σ (fun σ' z => QA0 σ σ' ∧ XuA σ x0 x1 x2 x3 σ' z) := t_Ev_turn h
theorem g_Mo_turn {σ : eS} {x0 x1 x2 x3 : Int} (h : IB σ) : MtI shB M_Mo_turn [vr 0, vi x0, vi x1, vi x2, vi x3] σ (fun σ' z => QB0 σ σ' ∧ XuB σ x0 x1 x2 x3 σ' z) := (t_Mo_turn h.1).weaken (fun σ' v q => by obtain ⟨z, e1, g1, g2⟩ := q; exact ⟨z, e1, QB_M h g1, g2⟩)
end
section
/-! both sides side by side: the tapes -/
def TP (σ τ : eS) : Prop := σ 10 3 = τ 0 6 ∧ aB (σ 11) (τ 5) (τ 0 6) ∧ byt τ ∧ σ 10 4 = τ 0 7 ∧ σ 10 5 = τ 0 8
theorem TP_keep {σ τ σ' τ' : eS} (h : TP σ τ) (a : tpS σ σ') (b : tpB τ τ') : TP σ' τ' := by
  obtain ⟨a1, a2⟩ := a
  obtain ⟨b1, b2, b3, b4⟩ := b
  obtain ⟨h1, h2, h3, h4, h5⟩ := h
  refine ⟨by rw [a1, b1, h1], fun i x y => ?_, fun k x y => ?_, by rw [a1, b2, h4], by rw [a1, b3, h5]⟩
  · rw [a2, b4]; exact h2 i x (by omega)
  · rw [b4]; exact h3 k x (by omega)
theorem TP_feed {σ τ σ' τ' : eS} {zA zB a b c d e : Int} (h : TP σ τ) (qA : (σ 10 3 + 20 ≤ 600 ∧ fdA σ (σ 10 3) a b c d e σ' ∧ zA = σ 10 3 + 20) ∨ (600 < σ 10 3 + 20 ∧ σ' = σ ∧ zA = -1)) (qB : (τ 0 6 + 20 ≤ 600 ∧ τ' = fd τ (τ 0 6) a b c d e ∧ zB = τ 0 6 + 20) ∨ (600 < τ 0 6 + 20 ∧ τ' = τ ∧ zB = -1)) : TP σ' τ' ∧ zA = zB := by
  obtain ⟨h1, h2, h3, h4, h5⟩ := id h
  rcases qA with ⟨a1, a2, a3⟩ | ⟨a1, a2, a3⟩ <;> rcases qB with ⟨b1, b2, b3⟩ | ⟨b1, b2, b3⟩
  · rw [h1] at a2
    subst b2
    refine ⟨⟨by rw [a2.2.1, fd_6], ?_, fun k x y => ?_, ?_, ?_⟩, by omega⟩
    · rw [fd_6]; exact fd_al h2 a2
    · rw [fd_6] at y; exact fd_nn h3 k x y
    · rw [a2.1 10 4 (by simp [rgG]), fd_o _ _ _ _ _ _ _ _ _ (by omega) (by omega)]; exact h4
    · rw [a2.1 10 5 (by simp [rgG]), fd_o _ _ _ _ _ _ _ _ _ (by omega) (by omega)]; exact h5
  · omega
  · omega
  · subst a2; subst b2; exact ⟨h, by omega⟩
theorem TP_end {σ τ σ' τ' : eS} {zA zB n : Int} (h : TP σ τ) (qA : (0 ≤ n ∧ n ≤ σ 10 3 ∧ σ' = up σ 10 3 n ∧ zA = 1) ∨ (¬ (0 ≤ n ∧ n ≤ σ 10 3) ∧ σ' = σ ∧ zA = 0)) (qB : (0 ≤ n ∧ n ≤ τ 0 6 ∧ τ' = up τ 0 6 n ∧ zB = 1) ∨ (¬ (0 ≤ n ∧ n ≤ τ 0 6) ∧ τ' = τ ∧ zB = 0)) : TP σ' τ' ∧ zA = zB := by
  obtain ⟨h1, h2, h3, h4, h5⟩ := id h
  rcases qA with ⟨a1, a2, a3, a4⟩ | ⟨a1, a2, a3⟩ <;> rcases qB with ⟨b1, b2, b3, b4⟩ | ⟨b1, b2, b3⟩
  · subst a3; subst b3
    refine ⟨⟨by rw [up_same, up_same], fun i x y => ?_, fun k x y => ?_, ?_, ?_⟩, by omega⟩
    · rw [up_same] at y
      rw [up_ne _ _ _ _ (by decide), up_ne _ _ _ _ (by decide)]
      exact h2 i x (by omega)
    · rw [up_same] at y
      rw [up_ne _ _ _ _ (by decide)]
      exact h3 k x (by omega)
    · rw [up_nk _ _ _ _ (by decide), up_nk _ _ _ _ (by decide)]; exact h4
    · rw [up_nk _ _ _ _ (by decide), up_nk _ _ _ _ (by decide)]; exact h5
  · omega
  · omega
  · subst a2; subst b2; exact ⟨h, by omega⟩
theorem aO_of {σ τ : eS} (h : TP σ τ) : aO (RAr σ) (RB τ) := by
  unfold RAr RB
  rw [h.1]
  exact PR_al h.2.1 _ _ _ _
theorem TP_table {σ τ σ' τ' : eS} {zA zB s : Int} (h : TP σ τ) (qA : σ' 10 3 = 0 ∧ TA σ s σ' zA) (qB : τ' 0 6 = 0 ∧ TB τ s τ' zB) : TP σ' τ' ∧ zA = zB := by
  have al := aO_of h
  obtain ⟨h1, h2, h3, h4, h5⟩ := id h
  obtain ⟨a6, qA⟩ := qA
  obtain ⟨b6, qB⟩ := qB
  have key : zA = zB ∧ σ' 10 4 = τ' 0 7 ∧ σ' 10 5 = τ' 0 8 := by
    rcases qA with ⟨a0, a1, a2, a3, -⟩ | ⟨a0, aS, a1, -⟩ <;> rcases qB with ⟨b0, b1, b2, b3, -⟩ | ⟨b0, b1, -⟩
    · omega
    · omega
    · omega
    · rw [h1] at a1
      exact tbO_un al aS a1 b1
  exact ⟨⟨by omega, fun i x y => by omega, fun k x y => by omega, key.2.1, key.2.2⟩, key.1⟩
end
section
/-! both sides side by side: the tables -/
def tbE (σ τ : eS) (s : Int) : Prop := σ (s.toNat + 2) 1 = τ 1 s ∧ (τ 1 s ≠ 0 → σ (s.toNat + 2) 2 = τ 2 s) ∧ (τ 1 s = 0 → τ 2 s = 0) ∧ ∀ i j, 0 ≤ i → i < τ 1 s → 0 ≤ j → j < τ 1 s → cT σ (s.toNat + 2) i j = cB τ s i j
def TT (σ τ : eS) : Prop := ∀ s : Int, 0 ≤ s → s < 4 → tbE σ τ s
theorem TT_keepW {σ τ σ' τ' : eS} (h : TT σ τ) (a : tbV σ σ') (b : tbK τ τ') : TT σ' τ' := fun s s1 s2 => by
  obtain ⟨h1, h2, h3, h4⟩ := h s s1 s2
  have e1 : σ' (s.toNat + 2) 1 = σ (s.toNat + 2) 1 := a _ _ (by omega) (by omega) (fun _ => by omega)
  have e2 : σ' (s.toNat + 2) 2 = σ (s.toNat + 2) 2 := a _ _ (by omega) (by omega) (fun _ => by omega)
  refine ⟨by rw [e1, (b s).1, h1], fun q => ?_, fun q => ?_, fun i j p q r w => ?_⟩
  · rw [(b s).1] at q; rw [e2, (b s).2.1]; exact h2 q
  · rw [(b s).1] at q; rw [(b s).2.1]; exact h3 q
  · rw [(b s).1] at q w
    rw [cB_cg b]
    unfold cT
    rw [a _ _ (by omega) (by omega) (fun _ => by omega)]
    exact h4 i j p q r w
theorem TT_keep {σ τ σ' τ' : eS} (h : TT σ τ) (a : tbS σ σ') (b : tbK τ τ') : TT σ' τ' := TT_keepW h a.v b
theorem TT_set {σ τ σ' τ' : eS} {s0 n b b' : Int} {f : Int → Int → Int} (hI : iB1 τ) (h0 : 0 ≤ s0 ∧ s0 < 4) (hn : 0 ≤ n ∧ n ≤ 8) (h : TT σ τ) (a1 : σ' (s0.toNat + 2) 1 = n) (a2 : σ' (s0.toNat + 2) 2 = b) (a3 : ∀ i j, 0 ≤ i → i < n → 0 ≤ j → j < n → σ' (s0.toNat + 2 + 4) (i * 8 + j) = f i j) (a4 : tbX σ σ' (s0.toNat + 2)) (b1 : ∀ k, τ' 1 k = if k = s0 then n else τ 1 k) (b2 : ∀ k, τ' 2 k = if k = s0 then b' else τ 2 k) (hb : n ≠ 0 → b = b') (hb0 : n = 0 → b' = 0) (b3 : ∀ k, ¬ (64 * s0 ≤ k ∧ k < 64 * s0 + n * n) → τ' 3 k = τ 3 k) (b4 : ∀ i j, 0 ≤ i → i < n → 0 ≤ j → j < n → τ' 3 (64 * s0 + (n * i + j)) = f i j) : TT σ' τ' := fun s s1 s2 => by
  by_cases q : s = s0
  · subst q
    have e1 : τ' 1 s = n := by rw [b1, if_pos rfl]
    have e2 : τ' 2 s = b' := by rw [b2, if_pos rfl]
    refine ⟨by rw [a1, e1], fun w => ?_, fun w => ?_, fun i j p q r w => ?_⟩
    · rw [a2, e2]; exact hb (by omega)
    · rw [e2]; exact hb0 (by omega)
    · rw [e1] at q w
      unfold cT cB
      rw [a3 i j p q r w, e1, Int.add_assoc, b4 i j p q r w]
  · obtain ⟨h1, h2, h3, h4⟩ := h s s1 s2
    obtain ⟨g1, g2, -⟩ := hI.1 s s1 s2
    have e1 : τ' 1 s = τ 1 s := by rw [b1, if_neg q]
    have e2 : τ' 2 s = τ 2 s := by rw [b2, if_neg q]
    have c1 : σ' (s.toNat + 2) 1 = σ (s.toNat + 2) 1 := a4.1 _ _ (by omega) (by omega) (by omega) (by omega)
    have c2 : σ' (s.toNat + 2) 2 = σ (s.toNat + 2) 2 := a4.1 _ _ (by omega) (by omega) (by omega) (by omega)
    have sq := sq8 hn
    refine ⟨by rw [c1, e1, h1], fun w => ?_, fun w => ?_, fun i j p q' r w => ?_⟩
    · rw [e1] at w; rw [c2, e2]; exact h2 w
    · rw [e1] at w; rw [e2]; exact h3 w
    · rw [e1] at q' w
      obtain ⟨y1, y2, y3, y4⟩ := ix8 (n := τ 1 s) (i := i) (j := j) ⟨g1, g2⟩ ⟨p, q'⟩ ⟨r, w⟩
      have := h4 i j p q' r w
      unfold cT cB at this ⊢
      rw [a4.1 _ _ (by omega) (by omega) (by omega) (by omega), e1, b3 _ (by omega)]
      exact this
theorem MAB {σ τ σ' τ' : eS} {s n b zA zB : Int} {f f' : Int → Int → Int} (hI : iB1 τ) (hs : 0 ≤ s ∧ s < 4) (hn : 1 ≤ n ∧ n ≤ 8) (h : TT σ τ) (hA : MA σ (s.toNat + 2) n b f σ' zA) (hB : MB τ s n b f' τ' zB) (e : ∀ i j, 0 ≤ i → i < n → 0 ≤ j → j < n → f i j = f' i j) : TT σ' τ' ∧ zA = zB := by
  obtain ⟨g, g1, g2⟩ := hA
  obtain ⟨g', g3, g4⟩ := hB
  have eg := isG_un g1 g3 e
  subst eg
  have ef := fitM_cg (g := g) (b := b) e
  rcases g2 with ⟨a1, a2, a3⟩ | ⟨a1, a2, a3, a4, a5, a6⟩ <;> rcases g4 with ⟨b1, b2, b3⟩ | ⟨b1, b2, b3, b4, b5, b6⟩
  · exact ⟨TT_keep h a3 b3, by omega⟩
  · exact absurd (ef.mpr b2) a2
  · exact absurd (ef.mp a2) b2
  · exact ⟨TT_set (f := fun i j => f i j / g) hI hs ⟨by omega, by omega⟩ h a3 a4 a5 a6 b3 b4 (fun _ => rfl) (fun q => by omega) b5 (fun i j p q r w => by rw [b6 i j p q r w, e i j p q r w]), by omega⟩
theorem tab_al {σ τ : eS} (hI : iB1 τ) (h : TT σ τ) (s : Int) : tabA σ s ↔ tabB τ s := by
  unfold tabA tabB
  constructor
  · rintro ⟨a, b, c⟩
    have := (h s a b).1
    have := (hI.1 s a b).1
    exact ⟨a, b, by omega⟩
  · rintro ⟨a, b, c⟩
    have := (h s a b).1
    exact ⟨a, b, by omega⟩
theorem like_al {σ τ : eS} (hI : iB1 τ) (h : TT σ τ) (s o w : Int) : likeA σ s o w ↔ likeB τ s o w := by
  unfold likeA likeB tabB
  constructor
  · rintro ⟨a1, a2, a3, a4, a5, a6, a7, a8⟩
    have := (h s a1 a2).1
    have := (h o a3 a4).1
    have := (hI.1 s a1 a2).1
    exact ⟨⟨a1, a2, by omega⟩, ⟨a3, a4, by omega⟩, ⟨a5, a6⟩, by omega⟩
  · rintro ⟨⟨a1, a2, a3⟩, ⟨b1, b2, b3⟩, ⟨c1, c2⟩, d⟩
    have := (h s a1 a2).1
    have := (h o b1 b2).1
    exact ⟨a1, a2, b1, b2, c1, c2, by omega, by omega⟩
theorem TT_times {σ τ σ' τ' : eS} {s o w zA zB : Int} (hI : iB1 τ) (h : TT σ τ) (qA : XtA σ s o w σ' zA) (qB : XtB τ s o w τ' zB) : TT σ' τ' ∧ zA = zB := by
  have hl := like_al hI h s o w
  rcases qA with ⟨a1, a2, a3⟩ | ⟨a1, a2⟩ <;> rcases qB with ⟨b1, b2, b3⟩ | ⟨b1, b2⟩
  · exact ⟨TT_keep h a2 b2, by omega⟩
  · exact absurd (hl.mpr b1) a3
  · exact absurd (hl.mp a1) b3
  · obtain ⟨⟨s1, s2, s3⟩, ⟨o1, o2, o3⟩, w1, e⟩ := b1
    obtain ⟨h1, h2, -, h4⟩ := h s s1 s2
    obtain ⟨k1, k2, -, k4⟩ := h o o1 o2
    have g := hI.1 s s1 s2
    rw [h1, h2 (by omega), k2 (by omega)] at a2
    refine MAB hI w1 ⟨by omega, by omega⟩ h a2 b2 (fun i j p q r x => ?_)
    unfold pdF pdB
    rw [h1]
    refine sm_cg (fun k k0 kn => ?_)
    rw [h4 i k p q k0 (by omega), k4 k j k0 (by omega) r (by omega)]
theorem TT_turn {σ τ σ' τ' : eS} {s w r o zA zB : Int} (hI : iB1 τ) (h : TT σ τ) (qA : XuA σ s w r o σ' zA) (qB : XuB τ s w r o τ' zB) : TT σ' τ' ∧ zA = zB := by
  by_cases hs : 0 ≤ s ∧ s < 4
  · obtain ⟨h1, h2, -, h4⟩ := h s hs.1 hs.2
    have g := hI.1 s hs.1 hs.2
    unfold XuA at qA
    rw [h1] at qA
    rcases qA with ⟨a1, a2, a3⟩ | ⟨a1, a2⟩ <;> rcases qB with ⟨b1, b2, b3⟩ | ⟨b1, b2⟩
    · exact ⟨TT_keep h a2 b2, by omega⟩
    · exact absurd b1 a3
    · exact absurd a1 b3
    · obtain ⟨⟨-, -, c1⟩, c2, c3, c4⟩ := b1
      rw [h2 c1] at a2
      refine MAB hI c2 ⟨by omega, by omega⟩ h a2 b2 (fun i j p q r' x => ?_)
      obtain ⟨t1, t2, -, -⟩ := tn_tg (n := τ 1 s) c3 c4 ⟨p, q⟩ ⟨r', x⟩
      unfold tuF tuB
      exact h4 _ _ t1.1 t1.2 t2.1 t2.2
  · rcases qA with ⟨a1, a2, a3⟩ | ⟨a1, a2⟩
    · rcases qB with ⟨b1, b2, b3⟩ | ⟨b1, b2⟩
      · exact ⟨TT_keep h a2 b2, by omega⟩
      · exact absurd ⟨b1.1.1, b1.1.2.1⟩ hs
    · exact absurd ⟨a1.1.1, a1.1.2.1⟩ hs
theorem TT_mix {σ τ σ' τ' : eS} {s x y o u v w zA zB : Int} (hI : iB1 τ) (h : TT σ τ) (qA : XmA σ s x y o u v w σ' zA) (qB : XmB τ s x y o u v w τ' zB) : TT σ' τ' ∧ zA = zB := by
  have hl := like_al hI h s o w
  rcases qA with ⟨a1, a2, a3⟩ | ⟨a1, a2⟩ <;> rcases qB with ⟨b1, b2, b3⟩ | ⟨b1, b2⟩
  · exact ⟨TT_keep h a2 b2, by omega⟩
  · exact absurd ⟨b1.1, b1.2.1, hl.mpr b1.2.2⟩ a3
  · exact absurd ⟨a1.1, a1.2.1, hl.mp a1.2.2⟩ b3
  · obtain ⟨-, -, ⟨s1, s2, s3⟩, ⟨o1, o2, o3⟩, w1, e⟩ := b1
    obtain ⟨h1, h2, -, h4⟩ := h s s1 s2
    obtain ⟨k1, k2, -, k4⟩ := h o o1 o2
    have g := hI.1 s s1 s2
    unfold MXA at a2
    unfold MXB at b2
    rw [h1, h2 (by omega), k2 (by omega)] at a2
    obtain ⟨L, eL⟩ : ∃ L, L = lcS (y * τ 2 s) (v * τ 2 o) 1000000000 := ⟨_, rfl⟩
    rw [← eL] at a2 b2
    have ef : ∀ i j, 0 ≤ i → i < τ 1 s → 0 ≤ j → j < τ 1 s → mxF σ (s.toNat + 2) (o.toNat + 2) x (L / (y * τ 2 s)) u (L / (v * τ 2 o)) i j = mxB τ s o x (L / (y * τ 2 s)) u (L / (v * τ 2 o)) i j := fun i j p q r c => by
      unfold mxF mxB
      rw [h4 i j p q r c, k4 i j p (by omega) r (by omega)]
    rcases a2 with ⟨c1, c2, c3⟩ | ⟨c1, ⟨c2, c3, i, j, c4, c5, c6, c7, c8⟩ | ⟨c2, c3⟩⟩ <;> rcases b2 with ⟨d1, d2, d3⟩ | ⟨d1, ⟨d2, d3, i', j', d4, d5, d6, d7, d8⟩ | ⟨d2, d3⟩⟩
    · exact ⟨TT_keep h c2 d2, by omega⟩
    · omega
    · omega
    · omega
    · exact ⟨TT_keep h c3 d3, by omega⟩
    · have := d2 i j c4 c5 c6 c7
      rw [ef i j c4 c5 c6 c7] at c8
      omega
    · omega
    · have := c2 i' j' d4 d5 d6 d7
      rw [ef i' j' d4 d5 d6 d7] at this
      omega
    · exact MAB hI w1 ⟨by omega, by omega⟩ h c3 d3 ef
theorem TT_table {σ τ σ' τ' : eS} {zA zB s : Int} (hI : iB1 τ) (hA : IA σ') (h : TP σ τ) (ht : TT σ τ) (qA : σ' 10 3 = 0 ∧ TA σ s σ' zA) (qB : τ' 0 6 = 0 ∧ TB τ s τ' zB) : TT σ' τ' := by
  have al := aO_of h
  have key := (TP_table h qA qB).1
  have e4 := key.2.2.2.1
  obtain ⟨-, qA⟩ := qA
  obtain ⟨-, qB⟩ := qB
  rcases qA with ⟨a0, a1, a2, a3, a4⟩ | ⟨a0, aS, a1, a2⟩ <;> rcases qB with ⟨b0, b1, b2, b3, b4⟩ | ⟨b0, b1, b2⟩
  · exact TT_keep ht a4 b4
  · exact absurd b0 a0
  · exact absurd a0 b0
  · rcases a2 with ⟨a2, a3⟩ | ⟨a2, ⟨c1, c2, c3⟩, a4⟩ <;> rcases b2 with ⟨b2, b3⟩ | ⟨b2, d1, d2, d3, d4⟩
    · exact TT_keep ht a3 b3
    · omega
    · omega
    · have r0 : (RAr σ).1 = 0 := by
        rcases a1 with ⟨w, -, w2, -⟩ | ⟨w, -⟩ | ⟨w, -⟩
        · omega
        · exact w
        · exact w
      obtain ⟨e1, e2, e3, e5⟩ := oG_cg al aS r0
      have hT := (hA.2.1 _ (sl_tA a0)).1
      have n1 := hT.1
      have n2 := hT.2.1
      rw [c1] at n1 n2
      rw [← e1] at d1 d2 d3 d4
      rw [← e2] at d2 d4
      refine TT_set (n := oN (RAr σ)) (f := fun i j => oAb (RAr σ) (i * 8 + j) * (oB (RAr σ) / oUn (RAr σ) (i * 8 + j))) hI a0 ⟨n1, n2⟩ ht c1 c2 c3 a4 d1 d2 (fun q => by rw [if_neg q]) (fun q => by rw [if_pos q]) d3 (fun i j p q r w => ?_)
      rw [d4 i j p q r w, (e5 i j p q r w).1, (e5 i j p q r w).2]
/-! what is read off the tables -/
theorem row_al {σ τ : eS} {s i : Int} (h : tbE σ τ s) (hi : 0 ≤ i ∧ i < τ 1 s) : rowT σ (s.toNat + 2) i = rowB τ s i := by
  unfold rowT rowB
  rw [h.1]
  exact sm_cg (fun k a b => h.2.2.2 i k hi.1 hi.2 a (by omega))
theorem col_al {σ τ : eS} {s j : Int} (h : tbE σ τ s) (hj : 0 ≤ j ∧ j < τ 1 s) : colT σ (s.toNat + 2) j = colB τ s j := by
  unfold colT colB
  rw [h.1]
  exact sm_cg (fun k a b => h.2.2.2 k j a (by omega) hj.1 hj.2)
theorem unev_un {row col row' col' : Int → Int} {n z z' : Int} (hn : 0 < n) (h : unev row col n z) (h' : unev row' col' n z') (er : ∀ i, 0 ≤ i → i < n → row i = row' i) (ec : ∀ i, 0 ≤ i → i < n → col i = col' i) : z = z' := by
  have e0 := er 0 (by omega) hn
  rcases h with ⟨i, a1, a2, a3, a4, a5⟩ | ⟨a0, ⟨j, a1, a2, a3, a4, a5⟩ | ⟨a1, a2⟩⟩ <;> rcases h' with ⟨i', b1, b2, b3, b4, b5⟩ | ⟨b0, ⟨j', b1, b2, b3, b4, b5⟩ | ⟨b1, b2⟩⟩
  · have x1 := er i (by omega) a2
    have x2 := er i' (by omega) b2
    rcases (by omega : i < i' ∨ i = i' ∨ i' < i) with q | q | q
    · have := b5 i a1 q; omega
    · omega
    · have := a5 i' b1 q; omega
  · have x1 := er i (by omega) a2
    have := b0 i a1 a2
    omega
  · have x1 := er i (by omega) a2
    have := b0 i a1 a2
    omega
  · have x1 := er i' (by omega) b2
    have := a0 i' b1 b2
    omega
  · have x1 := ec j a1 a2
    have x2 := ec j' b1 b2
    rcases (by omega : j < j' ∨ j = j' ∨ j' < j) with q | q | q
    · have := b5 j a1 q; omega
    · omega
    · have := a5 j' b1 q; omega
  · have x1 := ec j a1 a2
    have := b2 j a1 a2
    omega
  · have x1 := er i' (by omega) b2
    have := a0 i' b1 b2
    omega
  · have x1 := ec j' b1 b2
    have := a2 j' b1 b2
    omega
  · omega
theorem cell_al {σ τ : eS} {s i j zA zB : Int} (hI : iB1 τ) (h : TT σ τ) (qA : (celA σ s i j ∧ zA = cT σ (s.toNat + 2) i j) ∨ (¬ celA σ s i j ∧ zA = -1)) (qB : (celB τ s i j ∧ zB = cB τ s i j) ∨ (¬ celB τ s i j ∧ zB = -1)) : zA = zB := by
  have hl : celA σ s i j ↔ celB τ s i j := by
    unfold celA celB tabB
    constructor
    · rintro ⟨a1, a2, a3, a4, a5, a6⟩
      have := (h s a1 a2).1
      exact ⟨⟨a1, a2, by omega⟩, a3, by omega, a5, by omega⟩
    · rintro ⟨⟨a1, a2, a3⟩, a4, a5, a6, a7⟩
      have := (h s a1 a2).1
      exact ⟨a1, a2, a4, by omega, a6, by omega⟩
  rcases qA with ⟨a1, a2⟩ | ⟨a1, a2⟩ <;> rcases qB with ⟨b1, b2⟩ | ⟨b1, b2⟩
  · obtain ⟨⟨s1, s2, s3⟩, c1, c2, c3, c4⟩ := b1
    rw [a2, b2]
    exact (h s s1 s2).2.2.2 i j c1 c2 c3 c4
  · exact absurd (hl.mp a1) b1
  · exact absurd (hl.mpr b1) a1
  · omega
theorem uneven_al {σ τ : eS} {s zA zB : Int} (hI : iB1 τ) (h : TT σ τ) (qA : (¬ tabA σ s ∧ zA = -1) ∨ (tabA σ s ∧ unev (rowT σ (s.toNat + 2)) (colT σ (s.toNat + 2)) (σ (s.toNat + 2) 1) zA)) (qB : (¬ tabB τ s ∧ zB = -1) ∨ (tabB τ s ∧ unev (rowB τ s) (colB τ s) (τ 1 s) zB)) : zA = zB := by
  have hl := tab_al hI h s
  rcases qA with ⟨a1, a2⟩ | ⟨a1, a2⟩ <;> rcases qB with ⟨b1, b2⟩ | ⟨b1, b2⟩
  · omega
  · exact absurd (hl.mpr b1) a1
  · exact absurd (hl.mp a1) b1
  · obtain ⟨s1, s2, s3⟩ := b1
    have e := h s s1 s2
    rw [e.1] at a2
    exact unev_un s3 a2 b2 (fun i a b => row_al e ⟨a, b⟩) (fun i a b => col_al e ⟨a, b⟩)
end
section
/-! answers read off alike tables -/
section AL0
theorem lackV_cg {n : Int} {op op' : Int → Int → Prop} {w : Int} (hn : n ≤ 8) (e : ∀ i j, 0 ≤ i → i < n → 0 ≤ j → j < n → (op i j ↔ op' i j)) : lackV n op w = lackV n op' w := by
  have ec : ∀ s, cP n op s = cP n op' s := fun s => by
    unfold cP
    congr 1
    funext z
    exact propext ⟨fun q => cOp_cg q e, fun q => cOp_cg q (fun i j a b c d => (e i j a b c d).symm)⟩
  have ef : lkF n op = lkF n op' := by funext s; unfold lkF; rw [ec]
  unfold lackV
  rw [ef, ec]
end AL0
section AL
variable {σ τ : eS} {zA zB : Int}
theorem tb_n (hI : iB1 τ) {s : Int} (ht : tabB τ s) : 1 ≤ τ 1 s ∧ τ 1 s ≤ 8 := ⟨by have := ht.2.2; omega, (hI.1 s ht.1 ht.2.1).2.1⟩
theorem lack_al {x0 x1 x2 : Int} (hI : iB1 τ) (h : TT σ τ) (qA : (¬ okL (tabA σ x0) x1 x2 ∧ zA = -1) ∨ (okL (tabA σ x0) x1 x2 ∧ zA = lackV (σ (x0.toNat + 2) 1) (fun i j => x1 ≤ cT σ (x0.toNat + 2) i j) x2)) (qB : (¬ okL (tabB τ x0) x1 x2 ∧ zB = -1) ∨ (okL (tabB τ x0) x1 x2 ∧ zB = lackV (τ 1 x0) (fun i j => x1 ≤ cB τ x0 i j) x2)) : zA = zB := by
  have hl := tab_al hI h x0
  rcases qA with ⟨a1, a2⟩ | ⟨a1, a2⟩ <;> rcases qB with ⟨b1, b2⟩ | ⟨b1, b2⟩
  · omega
  · exact absurd (⟨hl.mpr b1.1, b1.2⟩) a1
  · exact absurd (⟨hl.mp a1.1, a1.2⟩) b1
  · have n := tb_n hI b1.1
    obtain ⟨e1, -, -, e4⟩ := h x0 b1.1.1 b1.1.2.1
    rw [e1] at a2
    rw [a2, b2]
    exact lackV_cg n.2 (fun i j p q r w => by rw [e4 i j p q r w])
theorem perm_al {x0 : Int} (hI : iB1 τ) (h : TT σ τ) (qA : (¬ tabA σ x0 ∧ zA = -1) ∨ (tabA σ x0 ∧ pmA (σ (x0.toNat + 2) 1) (cT σ (x0.toNat + 2)) zA)) (qB : (¬ tabB τ x0 ∧ zB = -1) ∨ (tabB τ x0 ∧ pmA (τ 1 x0) (cB τ x0) zB)) : zA = zB := by
  have hl := tab_al hI h x0
  rcases qA with ⟨a1, a2⟩ | ⟨a1, a2⟩ <;> rcases qB with ⟨b1, b2⟩ | ⟨b1, b2⟩
  · omega
  · exact absurd (hl.mpr b1) a1
  · exact absurd (hl.mp a1) b1
  · have n := tb_n hI b1
    obtain ⟨e1, -, -, e4⟩ := h x0 b1.1 b1.2.1
    rw [e1] at a2
    exact pmA_un n e4 a2 b2
theorem ways_al {x0 x1 : Int} (hI : iB1 τ) (h : TT σ τ) (qA : (¬ okW (tabA σ x0) x1 ∧ zA = -1) ∨ (okW (tabA σ x0) x1 ∧ zA = wyV (σ (x0.toNat + 2) 1) (fun i j => x1 ≤ cT σ (x0.toNat + 2) i j))) (qB : (¬ okW (tabB τ x0) x1 ∧ zB = -1) ∨ (okW (tabB τ x0) x1 ∧ zB = wyV (τ 1 x0) (fun i j => x1 ≤ cB τ x0 i j))) : zA = zB := by
  have hl := tab_al hI h x0
  rcases qA with ⟨a1, a2⟩ | ⟨a1, a2⟩ <;> rcases qB with ⟨b1, b2⟩ | ⟨b1, b2⟩
  · omega
  · exact absurd (⟨hl.mpr b1.1, b1.2⟩) a1
  · exact absurd (⟨hl.mp a1.1, a1.2⟩) b1
  · have n := tb_n hI b1.1
    obtain ⟨e1, -, -, e4⟩ := h x0 b1.1.1 b1.1.2.1
    rw [e1] at a2
    rw [a2, b2]
    unfold wyV
    have b := bit2 (n := τ 1 x0) ⟨by omega, n.2⟩
    refine PMv_cg ⟨by omega, n.2⟩ (fun i j p q r w => ?_) ⟨by omega, by omega⟩
    have e := e4 i j p q r w
    by_cases c : x1 ≤ cT σ (x0.toNat + 2) i j
    · rw [if_pos c, if_pos (by show x1 ≤ cB τ x0 i j; omega)]
    · rw [if_neg c, if_neg (by show ¬ x1 ≤ cB τ x0 i j; omega)]
theorem widest_al {x0 : Int} (hI : iB1 τ) (h : TT σ τ) (qA : (¬ tabA σ x0 ∧ zA = -1) ∨ (tabA σ x0 ∧ wdA (σ (x0.toNat + 2) 1) (fun i j => 0 ≤ cT σ (x0.toNat + 2) i j) (cT σ (x0.toNat + 2)) zA)) (qB : (¬ tabB τ x0 ∧ zB = -1) ∨ (tabB τ x0 ∧ wdA (τ 1 x0) (fun i j => 0 ≤ wk (wo τ x0 (τ 1 x0) (τ 1 x0 * τ 1 x0)) i j) (wk (wo τ x0 (τ 1 x0) (τ 1 x0 * τ 1 x0))) zB)) : zA = zB := by
  have hl := tab_al hI h x0
  rcases qA with ⟨a1, a2⟩ | ⟨a1, a2⟩ <;> rcases qB with ⟨b1, b2⟩ | ⟨b1, b2⟩
  · omega
  · exact absurd (hl.mpr b1) a1
  · exact absurd (hl.mp a1) b1
  · have n := tb_n hI b1
    obtain ⟨e1, -, -, e4⟩ := h x0 b1.1 b1.2.1
    rw [e1] at a2
    have ew := wo_wkB hI b1
    exact wdA_un n (fun i j p q r w => by rw [e4 i j p q r w, ew i j p q r w]) (fun i j p q r w => by rw [e4 i j p q r w, ew i j p q r w]) a2 b2
theorem best_al {x0 x1 : Int} (hI : iB1 τ) (h : TT σ τ) (qA : (¬ okBs (tabA σ x0) (σ (x0.toNat + 2) 1) x1 ∧ zA = -1) ∨ (okBs (tabA σ x0) (σ (x0.toNat + 2) 1) x1 ∧ bsA (σ (x0.toNat + 2) 1) (fun i j => 0 ≤ cT σ (x0.toNat + 2) i j) (cT σ (x0.toNat + 2)) x1 zA)) (qB : (¬ okBs (tabB τ x0) (τ 1 x0) x1 ∧ zB = -1) ∨ (okBs (tabB τ x0) (τ 1 x0) x1 ∧ bsA (τ 1 x0) (fun i j => 0 ≤ wk (wo τ x0 (τ 1 x0) (τ 1 x0 * τ 1 x0)) i j) (wk (wo τ x0 (τ 1 x0) (τ 1 x0 * τ 1 x0))) x1 zB)) : zA = zB := by
  have hl := tab_al hI h x0
  have ho : okBs (tabA σ x0) (σ (x0.toNat + 2) 1) x1 ↔ okBs (tabB τ x0) (τ 1 x0) x1 := by
    unfold okBs
    constructor
    · rintro ⟨a, b⟩
      have t := hl.mp a
      rw [(h x0 t.1 t.2.1).1] at b
      exact ⟨t, b⟩
    · rintro ⟨a, b⟩
      rw [← (h x0 a.1 a.2.1).1] at b
      exact ⟨hl.mpr a, b⟩
  rcases qA with ⟨a1, a2⟩ | ⟨a1, a2⟩ <;> rcases qB with ⟨b1, b2⟩ | ⟨b1, b2⟩
  · omega
  · exact absurd (ho.mpr b1) a1
  · exact absurd (ho.mp a1) b1
  · have n := tb_n hI b1.1
    obtain ⟨e1, -, -, e4⟩ := h x0 b1.1.1 b1.1.2.1
    rw [e1] at a2
    have ew := wo_wkB hI b1.1
    exact bsA_un n b1.2 (fun i j p q r w => by rw [e4 i j p q r w, ew i j p q r w]) (fun i j p q r w => by rw [e4 i j p q r w, ew i j p q r w]) a2 b2
end AL
end
