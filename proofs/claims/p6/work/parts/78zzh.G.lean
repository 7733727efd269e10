section
-- part 78zzh.K15
/-! COUNTING the bits of a long -/
def uL (z : Int) : Nat := (Int64.ofInt z).toBitVec.toNat
theorem uL_lt (z : Int) : uL z < 18446744073709551616 := (Int64.ofInt z).toBitVec.isLt
theorem uL_mod (z : Int) : ((uL z : Nat) : Int) = z % 18446744073709551616 := by
  show (((BitVec.ofInt 64 z).toNat : Nat) : Int) = _
  rw [BitVec.toNat_ofInt]
  omega
theorem uL_wl (z : Int) : ((uL (wl z) : Nat) : Int) = z % 18446744073709551616 := by
  have e : uL (wl z) = uL z := by unfold uL wl; rw [Int64.ofInt_toInt]
  rw [e, uL_mod]
theorem uL_and (a b : Int) : uL (land a b) = uL a &&& uL b := by unfold uL land; rw [Int64.ofInt_toInt, Int64.toBitVec_and, BitVec.toNat_and]
theorem uL_shr (a : Int) {k : Int} {n : Nat} (e : k = (n : Int)) (hn : n < 64) : uL (lushr a k) = uL a / 2 ^ n := by
  subst e
  unfold uL lushr
  rw [Int64.ofInt_toInt]
  show ((Int64.ofInt a).toUInt64 >>> ((Int32.ofInt (n : Int)).toInt64.toUInt64 &&& Int64.toUInt64 63)).toBitVec.toNat = (Int64.ofInt a).toUInt64.toBitVec.toNat / 2 ^ n
  rw [UInt64.toBitVec_shiftRight]
  show ((Int64.ofInt a).toUInt64.toBitVec >>> (((Int32.ofInt (n : Int)).toInt64.toUInt64 &&& Int64.toUInt64 63).toBitVec % 64).toNat).toNat = _
  rw [su_64 ⟨n, hn⟩, BitVec.toNat_ushiftRight, Nat.shiftRight_eq_div_pow]
theorem uL_add (a b : Int) : uL (wl (a + b)) = (uL a + uL b) % 18446744073709551616 := by
  have h1 := uL_wl (a + b)
  have h2 := uL_mod a
  have h3 := uL_mod b
  omega
theorem uL_sub {a b : Int} (h : uL b ≤ uL a) : uL (wl (a - b)) = uL a - uL b := by
  have h1 := uL_wl (a - b)
  have h2 := uL_mod a
  have h3 := uL_mod b
  have h4 := uL_lt a
  omega
theorem lb_u (z : Int) (i : Nat) : lb z i = (uL z).testBit i := by
  unfold lb uL
  rw [BitVec.testBit_toNat]
theorem ib_127 : ∀ i : Fin 32, ib 127 i.val = decide (i.val < 7) := by decide +kernel
theorem i127 (z : Int) : iand (wr z) 127 = ((uL z % 128 : Nat) : Int) := by
  have hb : ∀ i, i < 32 → ib (iand (wr z) 127) i = (lb z i && decide (i < 7)) := fun i hi => by rw [ib_and, ib_wr z hi, ib_127 ⟨i, hi⟩]
  have hs := sm_bits (rg_iand (wr z) 127) (fun i a b => by rw [hb i b, decide_eq_false (by omega), Bool.and_false])
  refine bt_ext hs ⟨by omega, by omega⟩ (fun c a b => ?_)
  rw [bt_ib hs ⟨a, b⟩, hb _ (by omega), lb_u]
  show _ = (((uL z % 128 : Nat) : Int)).toNat.testBit c.toNat
  rw [Int.toNat_natCast, show (128 : Nat) = 2 ^ 7 by decide, Nat.testBit_mod_two_pow, Bool.and_comm]
theorem rowJ_u (a : Int) {k : Int} {m : Nat} (hk : 0 ≤ k ∧ k < 8) (e : k = (m : Int)) : rowJ a k = ((uL a / 2 ^ (8 * m) % 256 : Nat) : Int) := by
  obtain ⟨h1, h2⟩ := rowJ_sp (J := a) hk
  refine bt_ext h1 ⟨by omega, by omega⟩ (fun c p q => ?_)
  rw [h2 c p q]
  show lb a (k * 8 + c).toNat = (((uL a / 2 ^ (8 * m) % 256 : Nat) : Int)).toNat.testBit c.toNat
  rw [Int.toNat_natCast, show (256 : Nat) = 2 ^ 8 by decide, Nat.testBit_mod_two_pow, Nat.testBit_div_two_pow, decide_eq_true (by omega), Bool.true_and, lb_u]
  congr 1
  omega
/-- byte by byte -/
def dS (f : Nat → Nat) : Nat → Nat → Nat
  | 0, _ => 0
  | m + 1, X => 256 * dS f m (X / 256) + f (X % 256)
def mS (u : Nat) : Nat → Nat
  | 0 => 0
  | m + 1 => 256 * mS u m + u
theorem and_sp (A B : Nat) : A &&& B = 256 * (A / 256 &&& B / 256) + (A % 256 &&& B % 256) := by
  have h1 : (A &&& B) / 2 ^ 8 = A / 2 ^ 8 &&& B / 2 ^ 8 := Nat.and_div_two_pow
  have h2 : (A &&& B) % 2 ^ 8 = A % 2 ^ 8 &&& B % 2 ^ 8 := Nat.and_mod_two_pow
  rw [← h1, ← h2]
  omega
theorem dS_cg {f g : Nat → Nat} (h : ∀ b, b < 256 → f b = g b) : ∀ m X, dS f m X = dS g m X
  | 0, _ => rfl
  | m + 1, X => by rw [dS, dS, dS_cg h m, h _ (Nat.mod_lt _ (by decide))]
theorem dS_add (f g : Nat → Nat) : ∀ m X, dS f m X + dS g m X = dS (fun b => f b + g b) m X
  | 0, _ => rfl
  | m + 1, X => by
    have := dS_add f g m (X / 256)
    rw [dS, dS, dS]
    omega
theorem dS_id : ∀ m X, X < 256 ^ m → dS (fun b => b) m X = X
  | 0, X, h => by
    have : X = 0 := by simpa using h
    rw [this]; rfl
  | m + 1, X, h => by
    have := dS_id m (X / 256) (by rw [Nat.pow_succ] at h; omega)
    rw [dS, this]
    omega
theorem dS_dS {f g : Nat → Nat} (h : ∀ b, b < 256 → f b < 256) : ∀ m X, dS g m (dS f m X) = dS (fun b => g (f b)) m X
  | 0, _ => rfl
  | m + 1, X => by
    have a := h (X % 256) (Nat.mod_lt _ (by decide))
    have e1 : dS f (m + 1) X / 256 = dS f m (X / 256) := by rw [dS]; omega
    have e2 : dS f (m + 1) X % 256 = f (X % 256) := by rw [dS]; omega
    rw [dS, e1, e2, dS_dS h m]
    rfl
theorem cs2 : ∀ t : Fin 2, ∀ b : Fin 256, (128 * t.val + b.val / 2) &&& 85 = (b.val / 2) &&& 85 := by decide +kernel
theorem cs4 : ∀ t : Fin 4, ∀ b : Fin 256, (64 * t.val + b.val / 4) &&& 51 = (b.val / 4) &&& 51 := by decide +kernel
theorem sh2 : ∀ m X, X / 2 &&& mS 85 m = dS (fun b => b / 2 &&& 85) m X
  | 0, _ => Nat.and_zero _
  | m + 1, X => by
    have h := sh2 m (X / 256)
    rw [and_sp]
    have e1 : mS 85 (m + 1) / 256 = mS 85 m := by rw [mS]; omega
    have e2 : mS 85 (m + 1) % 256 = 85 := by rw [mS]; omega
    have e3 : X / 2 / 256 = X / 256 / 2 := by omega
    have e4 : X / 2 % 256 = 128 * (X / 256 % 2) + X % 256 / 2 := by omega
    rw [e1, e2, e3, e4, h]
    have c := cs2 ⟨X / 256 % 2, Nat.mod_lt _ (by decide)⟩ ⟨X % 256, Nat.mod_lt _ (by decide)⟩
    dsimp only at c
    rw [c]
    rfl
theorem sh4 : ∀ m X, X / 4 &&& mS 51 m = dS (fun b => b / 4 &&& 51) m X
  | 0, _ => Nat.and_zero _
  | m + 1, X => by
    have h := sh4 m (X / 256)
    rw [and_sp]
    have e1 : mS 51 (m + 1) / 256 = mS 51 m := by rw [mS]; omega
    have e2 : mS 51 (m + 1) % 256 = 51 := by rw [mS]; omega
    have e3 : X / 4 / 256 = X / 256 / 4 := by omega
    have e4 : X / 4 % 256 = 64 * (X / 256 % 4) + X % 256 / 4 := by omega
    rw [e1, e2, e3, e4, h]
    have c := cs4 ⟨X / 256 % 4, Nat.mod_lt _ (by decide)⟩ ⟨X % 256, Nat.mod_lt _ (by decide)⟩
    dsimp only at c
    rw [c]
    rfl
theorem sh1 : ∀ m X, X &&& mS 51 m = dS (fun b => b &&& 51) m X
  | 0, _ => Nat.and_zero _
  | m + 1, X => by
    have h := sh1 m (X / 256)
    rw [and_sp]
    have e1 : mS 51 (m + 1) / 256 = mS 51 m := by rw [mS]; omega
    have e2 : mS 51 (m + 1) % 256 = 51 := by rw [mS]; omega
    rw [e1, e2, h]
    rfl
theorem an15 (x : Nat) : x &&& 15 = x % 16 := Nat.and_two_pow_sub_one_eq_mod x 4
theorem dS_lo {f : Nat → Nat} (h : ∀ b, b < 256 → f b % 16 ≤ 4 ∧ f b / 16 ≤ 4) : ∀ m X, dS f m X % 16 ≤ 4
  | 0, _ => by show (0 : Nat) % 16 ≤ 4; decide
  | m + 1, X => by
    have a := h (X % 256) (Nat.mod_lt _ (by decide))
    rw [dS]
    omega
theorem sh16 {f : Nat → Nat} (h : ∀ b, b < 256 → f b % 16 ≤ 4 ∧ f b / 16 ≤ 4) : ∀ m X, (dS f m X + dS f m X / 16) &&& mS 15 m = dS (fun b => (f b + f b / 16) % 16) m X
  | 0, _ => by show (0 + 0 / 16 : Nat) &&& 0 = 0; rfl
  | m + 1, X => by
    have a := h (X % 256) (Nat.mod_lt _ (by decide))
    have l := dS_lo h m (X / 256)
    have ih := sh16 h m (X / 256)
    rw [and_sp]
    have e1 : mS 15 (m + 1) / 256 = mS 15 m := by rw [mS]; omega
    have e2 : mS 15 (m + 1) % 256 = 15 := by rw [mS]; omega
    have e3 : (dS f (m + 1) X + dS f (m + 1) X / 16) / 256 = dS f m (X / 256) + dS f m (X / 256) / 16 := by rw [dS]; omega
    have e4 : (dS f (m + 1) X + dS f (m + 1) X / 16) % 256 = 16 * (dS f m (X / 256) % 16) + (f (X % 256) + f (X % 256) / 16) := by rw [dS]; omega
    rw [e1, e2, e3, e4, ih, an15, dS]
    omega
def f1b (b : Nat) : Nat := b - (b / 2 &&& 85)
def f2b (b : Nat) : Nat := (b &&& 51) + (b / 4 &&& 51)
def fpc (b : Nat) : Nat := (f2b (f1b b) + f2b (f1b b) / 16) % 16
theorem f1b_ok : ∀ b : Fin 256, f1b b.val + (b.val / 2 &&& 85) = b.val ∧ f1b b.val < 256 ∧ f2b (f1b b.val) % 16 ≤ 4 ∧ f2b (f1b b.val) / 16 ≤ 4 := by decide +kernel
theorem fpc_ok : ∀ b : Fin 256, ((fpc b.val : Nat) : Int) = pc (b.val : Int) := by decide +kernel
theorem fpc_le : ∀ b : Fin 256, fpc b.val ≤ 8 := by decide +kernel
theorem pop_a {c0 c1 c2 c3 c4 c5 c6 c7 T T1 : Nat} (h0 : c0 ≤ 8) (h1 : c1 ≤ 8) (h2 : c2 ≤ 8) (h3 : c3 ≤ 8) (h4 : c4 ≤ 8) (h5 : c5 ≤ 8) (h6 : c6 ≤ 8) (h7 : c7 ≤ 8)
    (eT : T = c0 + 256 * c1 + 65536 * c2 + 16777216 * c3 + 4294967296 * c4 + 1099511627776 * c5 + 281474976710656 * c6 + 72057594037927936 * c7) (e1 : T1 = (T + T / 2 ^ 8) % 18446744073709551616) : T1 = (c0 + c1) + 256 * (c1 + c2) + 65536 * (c2 + c3) + 16777216 * (c3 + c4) + 4294967296 * (c4 + c5) + 1099511627776 * (c5 + c6) + 281474976710656 * (c6 + c7) + 72057594037927936 * c7 := by
  have d1 : T / 2 ^ 8 = c1 + 256 * c2 + 65536 * c3 + 16777216 * c4 + 4294967296 * c5 + 1099511627776 * c6 + 281474976710656 * c7 := by clear e1; omega
  rw [d1] at e1
  clear d1
  have b2 : T + (c1 + 256 * c2 + 65536 * c3 + 16777216 * c4 + 4294967296 * c5 + 1099511627776 * c6 + 281474976710656 * c7) < 18446744073709551616 := by clear e1; omega
  rw [Nat.mod_eq_of_lt b2] at e1
  clear b2
  subst eT; subst e1
  omega
theorem pop_b {c0 c1 c2 c3 c4 c5 c6 c7 T T1 : Nat} (h0 : c0 ≤ 16) (h1 : c1 ≤ 16) (h2 : c2 ≤ 16) (h3 : c3 ≤ 16) (h4 : c4 ≤ 16) (h5 : c5 ≤ 16) (h6 : c6 ≤ 16) (h7 : c7 ≤ 16)
    (eT : T = c0 + 256 * c1 + 65536 * c2 + 16777216 * c3 + 4294967296 * c4 + 1099511627776 * c5 + 281474976710656 * c6 + 72057594037927936 * c7) (e1 : T1 = (T + T / 2 ^ 16) % 18446744073709551616) : T1 = (c0 + c2) + 256 * (c1 + c3) + 65536 * (c2 + c4) + 16777216 * (c3 + c5) + 4294967296 * (c4 + c6) + 1099511627776 * (c5 + c7) + 281474976710656 * c6 + 72057594037927936 * c7 := by
  have d1 : T / 2 ^ 16 = c2 + 256 * c3 + 65536 * c4 + 16777216 * c5 + 4294967296 * c6 + 1099511627776 * c7 := by clear e1; omega
  rw [d1] at e1
  clear d1
  have b2 : T + (c2 + 256 * c3 + 65536 * c4 + 16777216 * c5 + 4294967296 * c6 + 1099511627776 * c7) < 18446744073709551616 := by clear e1; omega
  rw [Nat.mod_eq_of_lt b2] at e1
  clear b2
  subst eT; subst e1
  omega
theorem pop_c {c0 c1 c2 c3 c4 c5 c6 c7 T T1 : Nat} (h0 : c0 ≤ 32) (h1 : c1 ≤ 32) (h2 : c2 ≤ 32) (h3 : c3 ≤ 32) (h4 : c4 ≤ 32) (h5 : c5 ≤ 32) (h6 : c6 ≤ 32) (h7 : c7 ≤ 32)
    (eT : T = c0 + 256 * c1 + 65536 * c2 + 16777216 * c3 + 4294967296 * c4 + 1099511627776 * c5 + 281474976710656 * c6 + 72057594037927936 * c7) (e1 : T1 = (T + T / 2 ^ 32) % 18446744073709551616) : T1 % 128 = c0 + c4 := by
  have d1 : T / 2 ^ 32 = c4 + 256 * c5 + 65536 * c6 + 16777216 * c7 := by clear e1; omega
  rw [d1] at e1
  clear d1
  have b2 : T + (c4 + 256 * c5 + 65536 * c6 + 16777216 * c7) < 18446744073709551616 := by clear e1; omega
  rw [Nat.mod_eq_of_lt b2] at e1
  clear b2
  subst eT; subst e1
  omega
theorem pop_sum {c0 c1 c2 c3 c4 c5 c6 c7 T T1 T2 T3 : Nat} (h0 : c0 ≤ 8) (h1 : c1 ≤ 8) (h2 : c2 ≤ 8) (h3 : c3 ≤ 8) (h4 : c4 ≤ 8) (h5 : c5 ≤ 8) (h6 : c6 ≤ 8) (h7 : c7 ≤ 8)
    (eT : T = c0 + 256 * c1 + 65536 * c2 + 16777216 * c3 + 4294967296 * c4 + 1099511627776 * c5 + 281474976710656 * c6 + 72057594037927936 * c7)
    (e1 : T1 = (T + T / 2 ^ 8) % 18446744073709551616) (e2 : T2 = (T1 + T1 / 2 ^ 16) % 18446744073709551616) (e3 : T3 = (T2 + T2 / 2 ^ 32) % 18446744073709551616) : T3 % 128 = c0 + c1 + c2 + c3 + c4 + c5 + c6 + c7 := by
  have g1 := pop_a h0 h1 h2 h3 h4 h5 h6 h7 eT e1
  have g2 := pop_b (Nat.add_le_add h0 h1) (Nat.add_le_add h1 h2) (Nat.add_le_add h2 h3) (Nat.add_le_add h3 h4) (Nat.add_le_add h4 h5) (Nat.add_le_add h5 h6) (Nat.add_le_add h6 h7) (Nat.le_trans h7 (by decide)) g1 e2
  have g3 := pop_c (Nat.add_le_add (Nat.add_le_add h0 h1) (Nat.add_le_add h2 h3)) (Nat.add_le_add (Nat.add_le_add h1 h2) (Nat.add_le_add h3 h4)) (Nat.add_le_add (Nat.add_le_add h2 h3) (Nat.add_le_add h4 h5)) (Nat.add_le_add (Nat.add_le_add h3 h4) (Nat.add_le_add h5 h6)) (Nat.add_le_add (Nat.add_le_add h4 h5) (Nat.add_le_add h6 h7)) (Nat.le_trans (Nat.add_le_add (Nat.add_le_add h5 h6) h7) (by decide)) (Nat.le_trans (Nat.add_le_add h6 h7) (by decide)) (Nat.le_trans h7 (by decide)) g2 e3
  rw [g3]
  clear g1 g2 g3 eT e1 e2 e3 h0 h1 h2 h3 h4 h5 h6 h7
  omega
theorem dS_8 (f : Nat → Nat) (X : Nat) : dS f 8 X = f (X % 256) + 256 * f (X / 256 % 256) + 65536 * f (X / 65536 % 256) + 16777216 * f (X / 16777216 % 256) + 4294967296 * f (X / 4294967296 % 256) + 1099511627776 * f (X / 1099511627776 % 256) + 281474976710656 * f (X / 281474976710656 % 256) + 72057594037927936 * f (X / 72057594037927936 % 256) := by
  simp only [dS, Nat.div_div_eq_div_mul, Nat.reduceMul]
  omega
def bL1 (a : Int) : Int := wl (a - land (lushr a 1) 6148914691236517205)
def bL2 (a : Int) : Int := wl (land a 3689348814741910323 + land (lushr a 2) 3689348814741910323)
def bL3 (a : Int) : Int := land (wl (a + lushr a 4)) 1085102592571150095
def bL4 (a : Int) : Int := wl (a + lushr a 8)
def bL5 (a : Int) : Int := wl (a + lushr a 16)
def bL6 (a : Int) : Int := wl (a + lushr a 32)
theorem uC55 : uL 6148914691236517205 = mS 85 8 := by decide +kernel
theorem uC33 : uL 3689348814741910323 = mS 51 8 := by decide +kernel
theorem uC0f : uL 1085102592571150095 = mS 15 8 := by decide +kernel
theorem bL_pc (a : Int) : iand (wr (bL6 (bL5 (bL4 (bL3 (bL2 (bL1 a))))))) 127 = sm (fun r => pc (rowJ a r)) 8 := by
  have x0 := uL_lt a
  have id0 : dS (fun b => b) 8 (uL a) = uL a := dS_id 8 _ (by show uL a < 256 ^ 8; omega)
  have g1 : dS f1b 8 (uL a) + dS (fun b => b / 2 &&& 85) 8 (uL a) = uL a := by
    rw [dS_add, dS_cg (g := fun b => b) (fun b h => (f1b_ok ⟨b, h⟩).1), id0]
  have s1 : uL (land (lushr a 1) 6148914691236517205) = dS (fun b => b / 2 &&& 85) 8 (uL a) := by
    rw [uL_and, uL_shr a (k := 1) (n := 1) rfl (by decide), uC55]; exact sh2 8 _
  have u1 : uL (bL1 a) = dS f1b 8 (uL a) := by
    unfold bL1
    rw [uL_sub (by omega), s1]; omega
  have u2 : uL (bL2 (bL1 a)) = dS (fun b => f2b (f1b b)) 8 (uL a) := by
    have t1 : uL (land (bL1 a) 3689348814741910323) = dS (fun b => b &&& 51) 8 (uL (bL1 a)) := by rw [uL_and, uC33]; exact sh1 8 _
    have t2 : uL (land (lushr (bL1 a) 2) 3689348814741910323) = dS (fun b => b / 4 &&& 51) 8 (uL (bL1 a)) := by rw [uL_and, uL_shr _ (k := 2) (n := 2) rfl (by decide), uC33]; exact sh4 8 _
    have e : uL (bL2 (bL1 a)) = dS f2b 8 (uL (bL1 a)) % 18446744073709551616 := by
      show uL (wl (land (bL1 a) 3689348814741910323 + land (lushr (bL1 a) 2) 3689348814741910323)) = _
      rw [uL_add, t1, t2, dS_add]; rfl
    rw [e, u1, dS_dS (fun b h => (f1b_ok ⟨b, h⟩).2.1)]
    have lo := fun b (h : b < 256) => (f1b_ok ⟨b, h⟩).2.2
    refine Nat.mod_eq_of_lt ?_
    have bd : ∀ m X, dS (fun b => f2b (f1b b)) m X < 256 ^ m := fun m => by
      induction m with
      | zero => intro X; exact Nat.one_pos
      | succ m ih =>
        intro X
        have h1 := ih (X / 256)
        have h2 := lo (X % 256) (Nat.mod_lt _ (by decide))
        rw [dS, Nat.pow_succ]
        dsimp only at h2
        omega
    exact bd 8 _
  have u3 : uL (bL3 (bL2 (bL1 a))) = dS fpc 8 (uL a) := by
    have lo := fun b (h : b < 256) => (f1b_ok ⟨b, h⟩).2.2
    have q := sh16 (f := fun b => f2b (f1b b)) lo 8 (uL a)
    unfold bL3
    rw [uL_and, uC0f, uL_add, uL_shr _ (k := 4) (n := 4) rfl (by decide), u2]
    obtain ⟨Z, eZ⟩ : ∃ Z, Z = dS (fun b => f2b (f1b b)) 8 (uL a) := ⟨_, rfl⟩
    have zb : Z % 16 ≤ 4 ∧ Z < 5000000000000000000 := by
      refine ⟨by rw [eZ]; exact dS_lo lo 8 _, ?_⟩
      have hd : ∀ m X, dS (fun b => f2b (f1b b)) m X ≤ 68 * mS 1 m := fun m => by
        induction m with
        | zero => intro X; exact Nat.le_refl _
        | succ m ih =>
          intro X
          have h1 := ih (X / 256)
          have h2 := lo (X % 256) (Nat.mod_lt _ (by decide))
          rw [dS, mS]
          dsimp only at h2
          omega
      have := hd 8 (uL a)
      have e8 : mS 1 8 = 72340172838076673 := by decide
      rw [e8] at this
      omega
    rw [← eZ] at q ⊢
    rw [show (Z + Z / 2 ^ 4) % 18446744073709551616 = Z + Z / 16 by omega]
    exact q
  have c : ∀ k, fpc (uL a / k % 256) ≤ 8 := fun k => fpc_le ⟨uL a / k % 256, Nat.mod_lt _ (by decide)⟩
  have p : ∀ (k : Int) (m : Nat), 0 ≤ k ∧ k < 8 → k = (m : Int) → pc (rowJ a k) = ((fpc (uL a / 2 ^ (8 * m) % 256) : Nat) : Int) := fun k m hk e => by
    rw [rowJ_u a hk e]
    exact (fpc_ok ⟨uL a / 2 ^ (8 * m) % 256, Nat.mod_lt _ (by decide)⟩).symm
  have tot : sm (fun r => pc (rowJ a r)) 8 = pc (rowJ a 0) + pc (rowJ a 1) + pc (rowJ a 2) + pc (rowJ a 3) + pc (rowJ a 4) + pc (rowJ a 5) + pc (rowJ a 6) + pc (rowJ a 7) := by
    show 0 + pc (rowJ a 0) + pc (rowJ a 1) + pc (rowJ a 2) + pc (rowJ a 3) + pc (rowJ a 4) + pc (rowJ a 5) + pc (rowJ a 6) + pc (rowJ a 7) = _
    rw [Int.zero_add]
  rw [i127, tot, p 0 0 ⟨by decide, by decide⟩ rfl, p 1 1 ⟨by decide, by decide⟩ rfl, p 2 2 ⟨by decide, by decide⟩ rfl, p 3 3 ⟨by decide, by decide⟩ rfl, p 4 4 ⟨by decide, by decide⟩ rfl, p 5 5 ⟨by decide, by decide⟩ rfl, p 6 6 ⟨by decide, by decide⟩ rfl, p 7 7 ⟨by decide, by decide⟩ rfl]
  have fin := pop_sum (c (2 ^ (8 * 0))) (c (2 ^ (8 * 1))) (c (2 ^ (8 * 2))) (c (2 ^ (8 * 3))) (c (2 ^ (8 * 4))) (c (2 ^ (8 * 5))) (c (2 ^ (8 * 6))) (c (2 ^ (8 * 7))) (T := uL (bL3 (bL2 (bL1 a)))) (T1 := uL (bL4 (bL3 (bL2 (bL1 a))))) (T2 := uL (bL5 (bL4 (bL3 (bL2 (bL1 a)))))) (T3 := uL (bL6 (bL5 (bL4 (bL3 (bL2 (bL1 a)))))))
    (by
      rw [u3, dS_8]
      show _ = fpc (uL a / 1 % 256) + 256 * fpc (uL a / 256 % 256) + 65536 * fpc (uL a / 65536 % 256) + 16777216 * fpc (uL a / 16777216 % 256) + 4294967296 * fpc (uL a / 4294967296 % 256) + 1099511627776 * fpc (uL a / 1099511627776 % 256) + 281474976710656 * fpc (uL a / 281474976710656 % 256) + 72057594037927936 * fpc (uL a / 72057594037927936 % 256)
      rw [Nat.div_one])
    (by show uL (wl (bL3 (bL2 (bL1 a)) + lushr (bL3 (bL2 (bL1 a))) 8)) = _; rw [uL_add, uL_shr _ (k := 8) (n := 8) rfl (by decide)])
    (by show uL (wl (bL4 (bL3 (bL2 (bL1 a))) + lushr (bL4 (bL3 (bL2 (bL1 a)))) 16)) = _; rw [uL_add, uL_shr _ (k := 16) (n := 16) rfl (by decide)])
    (by show uL (wl (bL5 (bL4 (bL3 (bL2 (bL1 a)))) + lushr (bL5 (bL4 (bL3 (bL2 (bL1 a))))) 32)) = _; rw [uL_add, uL_shr _ (k := 32) (n := 32) rfl (by decide)])
  rw [fin]
  omega
theorem t_Jl_bitCount {σ : eS} {a : Int} : MtI shA M_Jl_bitCount [vl a] σ (fun σ' z => σ' = σ ∧ z = sm (fun r => pc (rowJ a r)) 8) := by
  refine Mt.of okM_Jl_bitCount (Nat.le_of_ble_eq_true rfl) (fun hk hg => ?_)
  rw [← bL_pc a]
  refine ok_lload_n 0 rfl rfl rfl (ok_lload_n 1 rfl rfl rfl (ok_iconst 2 rfl rfl (by decide) (ok_lushr 3 rfl rfl (ok_ldc2 4 (6148914691236517205) rfl rfl kc_J13_314 (by decide) (ok_land 5 rfl rfl (ok_lsubW 6 rfl rfl (ok_lst0 7 rfl rfl (ok_lload_n 8 rfl rfl rfl (ok_ldc2 9 (3689348814741910323) rfl rfl kc_J13_316 (by decide) (ok_land 10 rfl rfl (ok_lload_n 11 rfl rfl rfl (ok_iconst 12 rfl rfl (by decide) (ok_lushr 13 rfl rfl (ok_ldc2 14 (3689348814741910323) rfl rfl kc_J13_316 (by decide) (ok_land 15 rfl rfl (ok_laddW 16 rfl rfl (ok_lst0 17 rfl rfl (ok_lload_n 18 rfl rfl rfl (ok_lload_n 19 rfl rfl rfl (ok_iconst 20 rfl rfl (by decide) (ok_lushr 21 rfl rfl (ok_laddW 22 rfl rfl (ok_ldc2 23 (1085102592571150095) rfl rfl kc_J13_318 (by decide) (ok_land 24 rfl rfl (ok_lst0 25 rfl rfl (ok_lload_n 26 rfl rfl rfl (ok_lload_n 27 rfl rfl rfl (ok_bipush 28 rfl rfl (by decide) (by decide) (ok_lushr 29 rfl rfl (ok_laddW 30 rfl rfl (ok_lst0 31 rfl rfl (ok_lload_n 32 rfl rfl rfl (ok_lload_n 33 rfl rfl rfl (ok_bipush 34 rfl rfl (by decide) (by decide) (ok_lushr 35 rfl rfl (ok_laddW 36 rfl rfl (ok_lst0 37 rfl rfl (ok_lload_n 38 rfl rfl rfl (ok_lload_n 39 rfl rfl rfl (ok_bipush 40 rfl rfl (by decide) (by decide) (ok_lushr 41 rfl rfl (ok_laddW 42 rfl rfl (ok_lst0 43 rfl rfl (ok_lload_n 44 rfl rfl rfl (ok_l2iW 45 rfl rfl (ok_bipush 46 rfl rfl (by decide) (by decide) (ok_iand 47 rfl rfl (ok_iret 48 rfl rfl rfl ?_))))))))))))))))))))))))))))))))))))))))))))))))
  exact ⟨_, rfl, rfl, rfl⟩
end
section
-- part 78zzi.K16
/-! LOOK: how many cells are above 0, the greatest, the groups -/
noncomputable def cnV (n : Int) (W : Int → Int → Int) : Int := sm (fun i => sm (fun j => ind (1 ≤ W i j)) n.toNat) n.toNat
theorem cnV_cg {n : Int} {W V : Int → Int → Int} (e : ag n W V) : cnV n W = cnV n V := sm_cg (fun i a b => sm_cg (fun j c d => by rw [e i j a (by omega) c (by omega)]))
theorem cnV_bd {n : Int} {W : Int → Int → Int} (hn : 0 ≤ n ∧ n ≤ 8) : 0 ≤ cnV n W ∧ cnV n W ≤ 64 := by
  have := sm_bd (f := fun i => sm (fun j => ind (1 ≤ W i j)) n.toNat) (B := 8) (by decide) (n := n.toNat) (fun i _ _ => by
    have := sm_bd (f := fun j => ind (1 ≤ W i j)) (B := 1) (by decide) (n := n.toNat) (fun k _ _ => ind_bd _)
    (try dsimp only); omega)
  unfold cnV
  omega
theorem pc_row {J n r : Int} {W : Int → Int → Int} (hn : 0 ≤ n ∧ n ≤ 8) (hJ : jOf J n (fun i j => 1 ≤ W i j)) (hr : 0 ≤ r ∧ r < 8) : (r < n → pc (rowJ J r) = sm (fun j => ind (1 ≤ W r j)) n.toNat) ∧ (n ≤ r → pc (rowJ J r) = 0) := by
  obtain ⟨h1, h2⟩ := rowJ_sp (J := J) hr
  have e : pc (rowJ J r) = sm (fun c => ind (r < n ∧ c < n ∧ 1 ≤ W r c)) 8 := by
    rw [pcb h1]
    refine sm_cg (fun c a b => ?_)
    have := hJ.2 r c hr.1 hr.2 a (by omega)
    rw [← h2 c a (by omega)] at this
    by_cases w : bt (rowJ J r) c = true
    · rw [if_pos w, ind_t (this.mp w)]
    · rw [if_neg w, ind_f (fun q => w (this.mpr q))]
  constructor
  · intro q
    rw [e, sm_sp _ n hn (fun k a b => ind_f (fun x => by omega))]
    exact sm_cg (fun k a b => ind_cg ⟨fun x => x.2.2, fun x => ⟨q, by omega, x⟩⟩)
  · intro q
    rw [e, sm_sp _ 0 ⟨by decide, by decide⟩ (fun k a b => ind_f (fun x => by omega))]
    rfl
theorem rows_cn {J n : Int} {W : Int → Int → Int} (hn : 0 ≤ n ∧ n ≤ 8) (hJ : jOf J n (fun i j => 1 ≤ W i j)) : sm (fun r => pc (rowJ J r)) 8 = cnV n W := by
  rw [sm_sp _ n hn (fun k a b => (pc_row hn hJ ⟨by omega, b⟩).2 a)]
  exact sm_cg (fun k a b => (pc_row hn hJ ⟨a, by omega⟩).1 (by omega))
theorem t_Ta_countAbove0 {σ : eS} {t : Nat} (ht : tA t) (hT : iT σ t) : MtI shA M_Ta_countAbove0 [vr t] σ (fun σ' z => σ' = σ ∧ z = cnV (σ t 1) (cT σ t)) := by
  refine Mt.of okM_Ta_countAbove0 (Nat.le_of_ble_eq_true rfl) (fun hk hg => ?_)
  refine ok_aload_n 0 rfl rfl rfl (ok_iconst 1 rfl rfl (by decide) (ok_callVL (M' := M_Ta_joinedBy) (as := [_]) 2 rfl rfl ml_X9_65 (t_Ta_joinedBy ht hT) (sT ht) rfl (Nat.le_of_ble_eq_true rfl) ⟨Nat.le_of_ble_eq_true rfl, Nat.le_of_ble_eq_true rfl⟩ rfl (Nat.le_of_ble_eq_true rfl) (fun σ' z hz => ?_)))
  obtain ⟨hs_, hz⟩ := hz
  rw [hs_]; clear hs_ σ'
  refine ok_callSI (M' := M_Jl_bitCount) (as := [_]) 3 rfl rfl ml_X9_69 (t_Jl_bitCount) ⟨Nat.le_of_ble_eq_true rfl, Nat.le_of_ble_eq_true rfl⟩ rfl (Nat.le_of_ble_eq_true rfl) (fun σ' z2 hz2 => ?_)
  obtain ⟨hs_, hz2⟩ := hz2
  rw [hs_]; clear hs_ σ'
  refine ok_iret 4 rfl rfl rfl ?_
  exact ⟨_, rfl, rfl, by rw [hz2]; exact rows_cn ⟨hT.1, hT.2.1⟩ hz⟩
def gcD (n : Int) (W : Int → Int → Int) (D : Int → Int → Prop) (v : Int) : Prop := (0 ≤ v ∧ v ≤ 99999999) ∧ (∀ i j, 0 ≤ i → i < n → 0 ≤ j → j < n → D i j → W i j ≤ v) ∧ (v = 0 ∨ ∃ i j, 0 ≤ i ∧ i < n ∧ 0 ≤ j ∧ j < n ∧ W i j = v)
theorem gcD_m {n v i j : Int} {W : Int → Int → Int} {D D' : Int → Int → Prop} (h : gcD n W D v) (hi : 0 ≤ i ∧ i < n) (hj : 0 ≤ j ∧ j < n) (hw : 0 ≤ W i j ∧ W i j ≤ 99999999) (hD : ∀ x y, 0 ≤ x → x < n → 0 ≤ y → y < n → D' x y → D x y ∨ (x = i ∧ y = j)) : gcD n W D' (max v (W i j)) := by
  obtain ⟨h1, h2, h3⟩ := h
  obtain ⟨c, ec⟩ : ∃ c, c = W i j := ⟨_, rfl⟩
  rw [← ec] at hw ⊢
  refine ⟨by omega, fun x y a b d e q => ?_, ?_⟩
  · rcases hD x y a b d e q with q | ⟨q1, q2⟩
    · have := h2 x y a b d e q; omega
    · rw [q1, q2, ← ec]; omega
  · rcases (by omega : max v c = v ∨ max v c = c) with q | q
    · rw [q]; exact h3
    · rw [q]; exact Or.inr ⟨i, j, hi.1, hi.2, hj.1, hj.2, ec.symm⟩
theorem gcD_w {n v : Int} {W : Int → Int → Int} {D D' : Int → Int → Prop} (h : gcD n W D v) (hD : ∀ x y, 0 ≤ x → x < n → 0 ≤ y → y < n → D' x y → D x y) : gcD n W D' v := ⟨h.1, fun i j a b c d q => h.2.1 i j a b c d (hD i j a b c d q), h.2.2⟩
theorem gcD_un {n v v' : Int} {W V : Int → Int → Int} (e : ag n W V) (h : gcD n W (fun _ _ => True) v) (h' : gcD n V (fun _ _ => True) v') : v = v' := by
  obtain ⟨a1, a2, a3⟩ := h
  obtain ⟨b1, b2, b3⟩ := h'
  have x : v ≤ v' := by
    rcases a3 with q | ⟨i, j, i1, i2, j1, j2, q⟩
    · omega
    · have := b2 i j i1 i2 j1 j2 trivial
      rw [← e i j i1 i2 j1 j2] at this
      omega
  have y : v' ≤ v := by
    rcases b3 with q | ⟨i, j, i1, i2, j1, j2, q⟩
    · omega
    · have := a2 i j i1 i2 j1 j2 trivial
      rw [e i j i1 i2 j1 j2] at this
      omega
  omega
theorem t_Ta_greatestV {σ : eS} {t : Nat} (ht : tA t) (hT : iT σ t) : MtI shA M_Ta_greatestCell [vr t] σ (fun σ' z => σ' = σ ∧ gcD (σ t 1) (cT σ t) (fun _ _ => True) z) := by
  refine Mt.of okM_Ta_greatestCell (Nat.le_of_ble_eq_true rfl) (fun hk hg => ?_)
  have hn := hT.1
  have hn2 := hT.2.1
  refine ok_iconst 0 rfl rfl (by decide) (ok_ist1 1 rfl rfl rfl (ok_iconst 2 rfl rfl (by decide) (ok_ist2 3 rfl rfl rfl ?_)))
  refine lpO2 (fun v i : Int => [some (vr t), some (vi v), some (vi i), none]) (fun _ _ => σ) (fun v i => 0 ≤ i ∧ i ≤ σ t 1 ∧ gcD (σ t 1) (cT σ t) (fun x _ => x < i) v) (fun _ i => (8 - i).toNat) ?_ 0 0 ⟨by omega, by omega, ⟨by omega, by omega⟩, fun i j a b c d q => by omega, Or.inl rfl⟩
  rintro v i ⟨i1, i2, i3⟩ ih
  refine ok_iload_n 4 rfl rfl rfl (ok_aload_n 5 rfl rfl rfl (ok_getI 6 rfl rfl fl_X9_15 (sT ht) rfl (Or.inl rfl) (ok_icmp_ge 7 50 rfl rfl rfl (fun h9 => ?_) (fun h9 => ?_))))
  · refine ok_iload_n 29 rfl rfl rfl (ok_iret 30 rfl rfl rfl ?_)
    exact ⟨_, rfl, rfl, gcD_w i3 (fun x y a b c d _ => by omega)⟩
  · refine ok_iconst 8 rfl rfl (by decide) (ok_ist3 9 rfl rfl rfl ?_)
    have il : i < σ t 1 := by omega
    refine lpO2 (fun v j : Int => [some (vr t), some (vi v), some (vi i), some (vi j)]) (fun _ _ => σ) (fun v j => 0 ≤ j ∧ j ≤ σ t 1 ∧ gcD (σ t 1) (cT σ t) (fun x y => x < i ∨ (x = i ∧ y < j)) v) (fun _ j => (8 - j).toNat) ?_ v 0 ⟨by omega, by omega, gcD_w i3 (fun x y a b c d q => by omega)⟩
    clear i3 v
    rintro v j ⟨j1, j2, j3⟩ ih2
    have vb := j3.1
    refine ok_iload_n 10 rfl rfl rfl (ok_aload_n 11 rfl rfl rfl (ok_getI 12 rfl rfl fl_X9_15 (sT ht) rfl (Or.inl rfl) (ok_icmp_ge 13 44 rfl rfl rfl (fun h19 => ?_) (fun h19 => ?_))))
    · refine ok_inc2 27 rfl rfl rfl (by first | omega | (simp [up_if]; omega) | (simp [up_if] at *; omega)) (ok_goto 28 4 rfl rfl rfl ?_)
      exact ok_fg [some (vr t), some (vi _), some (vi (i + 1)), none] ⟨rfl, rfl, rfl, trivial⟩ (ih _ (i + 1) ⟨by omega, by omega, gcD_w j3 (fun x y a b c d q => by omega)⟩ (by omega))
    · have cb := cT_bd hT (i := i) (j := j) ⟨i1, by omega⟩ ⟨j1, by omega⟩
      have gm := gcD_m (D' := fun x y => x < i ∨ (x = i ∧ y < j + 1)) j3 ⟨i1, il⟩ ⟨j1, by omega⟩ cb (fun x y a b c d q => by omega)
      unfold cT at cb
      refine ok_iload_n 14 rfl rfl rfl (ok_aload_n 15 rfl rfl rfl (ok_getR 16 rfl rfl fl_X9_9 (sT ht) rfl (ok_iload_n 17 rfl rfl rfl (ok_bipush 18 rfl rfl (by decide) (by decide) (ok_imul 19 rfl rfl (by first | omega | (simp [up_if]; omega) | (simp [up_if] at *; omega)) (ok_iload_n 20 rfl rfl rfl (ok_iadd 21 rfl rfl (by first | omega | (simp [up_if]; omega) | (simp [up_if] at *; omega)) (ok_iald 22 rfl rfl (sC ht) (by first | omega | (simp [up_if]; omega) | (simp [up_if] at *; omega)) (ok_mmax 23 rfl rfl ml_X9_42 ⟨Nat.le_of_ble_eq_true rfl, Nat.le_of_ble_eq_true rfl⟩ (ok_ist1 24 rfl rfl rfl (ok_inc3 25 rfl rfl rfl (by first | omega | (simp [up_if]; omega) | (simp [up_if] at *; omega)) (ok_goto 26 14 rfl rfl rfl ?_))))))))))))
      exact ih2 _ (j + 1) ⟨by omega, by omega, gm⟩ (by omega)
def loA (σ : eS) (s w z : Int) : Prop := (¬ (0 ≤ s ∧ s < 4) ∧ z = -2) ∨ ((0 ≤ s ∧ s < 4) ∧ ((w = 0 ∧ z = σ (s.toNat + 2) 1) ∨ (w = 1 ∧ z = if σ (s.toNat + 2) 1 = 0 then 0 else σ (s.toNat + 2) 2) ∨ (w = 2 ∧ z = σ (s.toNat + 2) 3) ∨ (w = 3 ∧ z = cnV (σ (s.toNat + 2) 1) (cT σ (s.toNat + 2))) ∨ (w = 4 ∧ gcD (σ (s.toNat + 2) 1) (cT σ (s.toNat + 2)) (fun _ _ => True) z) ∨ (w = 5 ∧ z = gpV (σ (s.toNat + 2) 1) (cT σ (s.toNat + 2))) ∨ ((w < 0 ∨ 5 < w) ∧ z = -2)))
def loB (σ : eS) (s w z : Int) : Prop := (¬ (0 ≤ s ∧ s < 4) ∧ z = -2) ∨ ((0 ≤ s ∧ s < 4) ∧ ((w = 0 ∧ z = σ 1 s) ∨ (w = 1 ∧ z = σ 2 s) ∨ (w = 2 ∧ ((evB σ s ∧ z = rowB σ s 0) ∨ (¬ evB σ s ∧ z = -1))) ∨ (w = 3 ∧ z = cnV (σ 1 s) (cB σ s)) ∨ (w = 4 ∧ gcD (σ 1 s) (cB σ s) (fun _ _ => True) z) ∨ (w = 5 ∧ z = gpV (σ 1 s) (cB σ s)) ∨ ((w < 0 ∨ 5 < w) ∧ z = -2)))
theorem t_Ev_look {σ : eS} {s w : Int} (h : IA σ) : MtI shA M_Ev_look [vr 0, vi s, vi w] σ (fun σ' z => σ' = σ ∧ loA σ s w z) := by
  refine Mt.of okM_Ev_look (Nat.le_of_ble_eq_true rfl) (fun hk hg => ?_)
  refine ok_aload_n 0 rfl rfl rfl (ok_iload_n 1 rfl rfl rfl (ok_callVR (M' := M_Ev_slotAt) (as := [_]) 2 rfl rfl ml_X11_86 (s_Ev_slotAt) rfl rfl (Nat.le_of_ble_eq_true rfl) ⟨Nat.le_of_ble_eq_true rfl, Nat.le_of_ble_eq_true rfl⟩ rfl (Nat.le_of_ble_eq_true rfl) (fun σ' z hz => ?_)))
  obtain ⟨hs_, hz⟩ := hz
  rw [hs_]; clear hs_ σ'
  rcases hz with ⟨q, q2⟩ | ⟨q1, q2, q⟩
  · subst q
    refine ok_ast3 3 rfl rfl rfl (ok_aload_n 4 rfl rfl rfl (ok_ifnonnullN 5 rfl rfl (ok_bipush 6 rfl rfl (by decide) (by decide) (ok_iret 7 rfl rfl rfl ?_))))
    exact ⟨_, rfl, rfl, Or.inl ⟨q2, rfl⟩⟩
  · subst q
    have ht := sl_tA ⟨q1, q2⟩
    have hT := (h.2.1 _ ht).1
    refine ok_ast3 3 rfl rfl rfl (ok_aload_n 4 rfl rfl rfl (ok_ifnonnull 5 13 rfl rfl rfl (ok_iload_n 8 rfl rfl rfl ?_)))
    rcases (by omega : w = 0 ∨ w = 1 ∨ w = 2 ∨ w = 3 ∨ w = 4 ∨ w = 5 ∨ (w < 0 ∨ 5 < w)) with q_ | q_ | q_ | q_ | q_ | q_ | q_
    · subst q_
      refine ok_tin 9 (len := 38) 52 rfl rfl (by decide) (by decide) rfl rfl ?_
      refine ok_aload_n 10 rfl rfl rfl (ok_getI 11 rfl rfl fl_X11_103 (sT ht) rfl (Or.inl rfl) (ok_iret 12 rfl rfl rfl ?_))
      exact ⟨_, rfl, rfl, Or.inr ⟨⟨q1, q2⟩, Or.inl ⟨rfl, rfl⟩⟩⟩
    · subst q_
      refine ok_tin 9 (len := 38) 57 rfl rfl (by decide) (by decide) rfl rfl ?_
      refine ok_aload_n 13 rfl rfl rfl (ok_getI 14 rfl rfl fl_X11_103 (sT ht) rfl (Or.inl rfl) (ok_if_ne 15 68 rfl rfl rfl (fun h61 => ?_) (fun h61 => ?_)))
      · refine ok_aload_n 18 rfl rfl rfl (ok_getI 19 rfl rfl fl_X11_106 (sT ht) rfl (Or.inl rfl) (ok_iret 20 rfl rfl rfl ?_))
        refine ⟨_, rfl, rfl, Or.inr ⟨⟨q1, q2⟩, Or.inr (Or.inl ⟨rfl, ?_⟩)⟩⟩
        first | rw [if_pos (by omega)] | rw [if_neg (by omega)]
      · refine ok_iconst 16 rfl rfl (by decide) (ok_goto 17 72 rfl rfl rfl (ok_iret 20 rfl rfl rfl ?_))
        refine ⟨_, rfl, rfl, Or.inr ⟨⟨q1, q2⟩, Or.inr (Or.inl ⟨rfl, ?_⟩)⟩⟩
        first | rw [if_pos (by omega)] | rw [if_neg (by omega)]
    · subst q_
      refine ok_tin 9 (len := 38) 73 rfl rfl (by decide) (by decide) rfl rfl ?_
      refine ok_aload_n 21 rfl rfl rfl (ok_getI 22 rfl rfl fl_X11_109 (sT ht) rfl (Or.inl rfl) (ok_iret 23 rfl rfl rfl ?_))
      exact ⟨_, rfl, rfl, Or.inr ⟨⟨q1, q2⟩, Or.inr (Or.inr (Or.inl ⟨rfl, rfl⟩))⟩⟩
    · subst q_
      refine ok_tin 9 (len := 38) 78 rfl rfl (by decide) (by decide) rfl rfl ?_
      refine ok_aload_n 24 rfl rfl rfl (ok_callVI (M' := M_Ta_countAbove0) (as := []) 25 rfl rfl ml_X11_112 (t_Ta_countAbove0 ht hT) (sT ht) rfl (Nat.le_of_ble_eq_true rfl) ⟨Nat.le_of_ble_eq_true rfl, Nat.le_of_ble_eq_true rfl⟩ rfl (Nat.le_of_ble_eq_true rfl) (fun σ' z1 x1 => ?_))
      obtain ⟨hs_, x1⟩ := x1
      rw [hs_]; clear hs_ σ'
      refine ok_iret 26 rfl rfl rfl ?_
      exact ⟨_, rfl, rfl, Or.inr ⟨⟨q1, q2⟩, Or.inr (Or.inr (Or.inr (Or.inl ⟨rfl, x1⟩)))⟩⟩
    · subst q_
      refine ok_tin 9 (len := 38) 83 rfl rfl (by decide) (by decide) rfl rfl ?_
      refine ok_aload_n 27 rfl rfl rfl (ok_callVI (M' := M_Ta_greatestCell) (as := []) 28 rfl rfl ml_X11_116 (t_Ta_greatestV ht hT) (sT ht) rfl (Nat.le_of_ble_eq_true rfl) ⟨Nat.le_of_ble_eq_true rfl, Nat.le_of_ble_eq_true rfl⟩ rfl (Nat.le_of_ble_eq_true rfl) (fun σ' z1 x1 => ?_))
      obtain ⟨hs_, x1⟩ := x1
      rw [hs_]; clear hs_ σ'
      refine ok_iret 29 rfl rfl rfl ?_
      exact ⟨_, rfl, rfl, Or.inr ⟨⟨q1, q2⟩, Or.inr (Or.inr (Or.inr (Or.inr (Or.inl ⟨rfl, x1⟩))))⟩⟩
    · subst q_
      refine ok_tin 9 (len := 38) 88 rfl rfl (by decide) (by decide) rfl rfl ?_
      refine ok_aload_n 30 rfl rfl rfl (ok_iconst 31 rfl rfl (by decide) (ok_callVL (M' := M_Ta_joinedBy) (as := [_]) 32 rfl rfl ml_X11_119 (t_Ta_joinedBy ht hT) (sT ht) rfl (Nat.le_of_ble_eq_true rfl) ⟨Nat.le_of_ble_eq_true rfl, Nat.le_of_ble_eq_true rfl⟩ rfl (Nat.le_of_ble_eq_true rfl) (fun σ' z1 x1 => ?_)))
      obtain ⟨hs_, x1⟩ := x1
      rw [hs_]; clear hs_ σ'
      refine ok_aload_n 33 rfl rfl rfl (ok_getI 34 rfl rfl fl_X11_103 (sT ht) rfl (Or.inl rfl) (ok_callSI (M' := M_Jo_countGroups) (as := [_, _]) 35 rfl rfl ml_X11_123 (t_Jo_countGroups ⟨hT.1, hT.2.1⟩ x1) ⟨Nat.le_of_ble_eq_true rfl, Nat.le_of_ble_eq_true rfl⟩ rfl (Nat.le_of_ble_eq_true rfl) (fun σ' z2 x2 => ?_)))
      obtain ⟨hs_, x2⟩ := x2
      rw [hs_]; clear hs_ σ'
      refine ok_iret 36 rfl rfl rfl ?_
      exact ⟨_, rfl, rfl, Or.inr ⟨⟨q1, q2⟩, Or.inr (Or.inr (Or.inr (Or.inr (Or.inr (Or.inl ⟨rfl, x2.1⟩)))))⟩⟩
    · refine ok_tout 9 (len := 38) 101 rfl rfl q_ rfl ?_
      refine ok_bipush 37 rfl rfl (by decide) (by decide) (ok_iret 38 rfl rfl rfl ?_)
      exact ⟨_, rfl, rfl, Or.inr ⟨⟨q1, q2⟩, Or.inr (Or.inr (Or.inr (Or.inr (Or.inr (Or.inr ⟨q_, rfl⟩)))))⟩⟩
theorem sm_mul (f : Int → Int) (n : Nat) : ∀ m : Nat, sm f (n * m) = sm (fun i => sm (fun j => f ((n : Int) * i + j)) n) m
  | 0 => rfl
  | m + 1 => by
    have e := sm_s (fun i => sm (fun j => f ((n : Int) * i + j)) n) (j := (m : Int)) (by omega)
    rw [show ((m : Int) + 1).toNat = m + 1 by omega, show ((m : Int)).toNat = m by omega] at e
    rw [e, ← sm_mul f n m, Nat.mul_succ, sm_add f (n * m) n]
    congr 1
theorem cntB_cn {σ : eS} {s : Int} (hB : iB1 σ) (hs : 0 ≤ s ∧ s < 4) : cntB σ s = cnV (σ 1 s) (cB σ s) := by
  obtain ⟨g1, g2, -⟩ := hB.1 s hs.1 hs.2
  unfold cntB cnV
  rw [show (σ 1 s * σ 1 s).toNat = (σ 1 s).toNat * (σ 1 s).toNat from Int.toNat_mul g1 g1, sm_mul]
  refine sm_cg (fun i a b => sm_cg (fun j c d => ?_))
  have e : 64 * s + (((σ 1 s).toNat : Int) * i + j) = 64 * s + σ 1 s * i + j := by rw [Int.toNat_of_nonneg g1]; omega
  rw [e]
  show _ = ind (1 ≤ σ 3 (64 * s + σ 1 s * i + j))
  by_cases w : 0 < σ 3 (64 * s + σ 1 s * i + j)
  · rw [if_pos w, ind_t (by omega)]
  · rw [if_neg w, ind_f (by omega)]
theorem t_Mo_look {σ : eS} {s w : Int} (hB : iB1 σ) : MtI shB M_Mo_look [vr 0, vi s, vi w] σ (fun σ' z => fr (fun c _ => c = 8) σ σ' ∧ loB σ s w z) := by
  refine Mt.of okM_Mo_look (Nat.le_of_ble_eq_true rfl) (fun hk hg => ?_)
  by_cases hs : 0 ≤ s ∧ s < 4
  · obtain ⟨n, en⟩ : ∃ x, x = σ 1 s := ⟨_, rfl⟩
    obtain ⟨g1, g2, -⟩ := hB.1 s hs.1 hs.2
    rw [← en] at g1 g2
    obtain ⟨q1, q2⟩ := sq8 ⟨g1, g2⟩
    refine ok_iload_n 0 rfl rfl rfl (ok_callSI (M' := M_Mo_isSlot) (as := [_]) 1 rfl rfl ml_X12_103 (s_Mo_isSlot_y hs) ⟨Nat.le_of_ble_eq_true rfl, Nat.le_of_ble_eq_true rfl⟩ rfl (Nat.le_of_ble_eq_true rfl) (fun σ' z hz => ?_))
    rw [hz.1, hz.2]
    clear hz z σ'
    refine ok_if_ne 2 10 rfl rfl rfl (fun h4 => ?_) (fun h4 => ?_)
    · refine ok_iconst 5 rfl rfl (by decide) (ok_ist3 6 rfl rfl rfl (ok_iconst 7 rfl rfl (by decide) (ok_ist4 8 rfl rfl rfl ?_)))
      refine lpO2 (fun m k : Int => [some (vr 0), some (vi s), some (vi w), some (vi m), some (vi k)]) (fun _ _ => σ) (fun m k => 0 ≤ k ∧ k ≤ n * n ∧ gcD n (cB σ s) (fun x y => n * x + y < k) m) (fun _ k => (n * n - k).toNat) ?_ 0 0 ⟨by omega, by omega, ⟨by omega, by omega⟩, fun x y a b c d q => by have := ix8 (n := n) (i := x) (j := y) ⟨g1, g2⟩ ⟨a, b⟩ ⟨c, d⟩; omega, Or.inl rfl⟩
      rintro m k ⟨k1, k2, k3⟩ ih
      have mb := k3.1
      refine ok_iload 9 rfl rfl rfl (ok_aload_n 10 rfl rfl rfl (ok_getR 11 rfl rfl fl_X12_7 rfl rfl (ok_iload_n 12 rfl rfl rfl (ok_iald 13 rfl rfl rfl (by first | omega | (simp [up_if]; omega) | (simp [up_if] at *; omega)) (ok_aload_n 14 rfl rfl rfl (ok_getR 15 rfl rfl fl_X12_7 rfl rfl (ok_iload_n 16 rfl rfl rfl (ok_iald 17 rfl rfl rfl (by first | omega | (simp [up_if]; omega) | (simp [up_if] at *; omega)) (ok_imul 18 rfl rfl (by rw [← en]; omega) ?_)))))))))
      rw [← en]
      refine ok_icmp_ge 19 56 rfl rfl rfl (fun h30 => ?_) (fun h30 => ?_)
      · have hw : w = 0 ∨ w = 1 ∨ w = 2 ∨ w = 3 ∨ w = 4 ∨ w = 5 ∨ (w < 0 ∨ 5 < w) := by omega
        have hgc : gcD n (cB σ s) (fun _ _ => True) m := gcD_w k3 (fun x y a b c d _ => by have := ix8 (n := n) (i := x) (j := y) ⟨g1, g2⟩ ⟨a, b⟩ ⟨c, d⟩; omega)
        refine ok_iload_n 33 rfl rfl rfl ?_
        rcases hw with rfl | rfl | rfl | rfl | rfl | rfl | hw
        · refine ok_tin (len := 39) 34 96 rfl rfl (by omega) (by omega) rfl rfl ?_
          refine ok_aload_n 35 rfl rfl rfl (ok_getR 36 rfl rfl fl_X12_7 rfl rfl (ok_iload_n 37 rfl rfl rfl (ok_iald 38 rfl rfl rfl (by first | omega | (simp [up_if]; omega) | (simp [up_if] at *; omega)) (ok_iret 39 rfl rfl rfl ?_))))
          exact ⟨_, rfl, fr.rf, Or.inr ⟨hs, Or.inl ⟨rfl, rfl⟩⟩⟩
        · refine ok_tin (len := 39) 34 103 rfl rfl (by omega) (by omega) rfl rfl ?_
          refine ok_aload_n 40 rfl rfl rfl (ok_getR 41 rfl rfl fl_X12_13 rfl rfl (ok_iload_n 42 rfl rfl rfl (ok_iald 43 rfl rfl rfl (by first | omega | (simp [up_if]; omega) | (simp [up_if] at *; omega)) (ok_iret 44 rfl rfl rfl ?_))))
          exact ⟨_, rfl, fr.rf, Or.inr ⟨hs, Or.inr (Or.inl ⟨rfl, rfl⟩)⟩⟩
        · refine ok_tin (len := 39) 34 110 rfl rfl (by omega) (by omega) rfl rfl ?_
          refine ok_aload_n 45 rfl rfl rfl (ok_iload_n 46 rfl rfl rfl (ok_callVI (M' := M_Mo_isEven) (as := [_]) 47 rfl rfl ml_X12_202 (s_Mo_isEven hB) rfl rfl (Nat.le_of_ble_eq_true rfl) ⟨Nat.le_of_ble_eq_true rfl, Nat.le_of_ble_eq_true rfl⟩ rfl (Nat.le_of_ble_eq_true rfl) (fun σ' z hz => ?_)))
          obtain ⟨hs_, hz⟩ := hz
          rw [hs_]; clear hs_ σ'
          refine ok_if_eq 48 128 rfl rfl rfl (fun h115 => ?_) (fun h115 => ?_)
          · have hr : ¬ evB σ s := by
              rcases hz with q | q
              · omega
              · exact q.2
            refine ok_iconst 55 rfl rfl (by decide) (ok_iret 56 rfl rfl rfl ?_)
            first | exact ⟨_, rfl, fr.rf, Or.inr ⟨hs, Or.inr (Or.inr (Or.inl ⟨rfl, Or.inl ⟨hr, rfl⟩⟩))⟩⟩ | exact ⟨_, rfl, fr.rf, Or.inr ⟨hs, Or.inr (Or.inr (Or.inl ⟨rfl, Or.inr ⟨hr, rfl⟩⟩))⟩⟩
          · have hr : evB σ s := by
              rcases hz with q | q
              · exact q.2
              · omega
            have hb := rowB_bd hB hs (i := 0) ⟨by omega, hr.1.2.2⟩
            refine ok_aload_n 49 rfl rfl rfl (ok_iload_n 50 rfl rfl rfl (ok_iconst 51 rfl rfl (by decide) (ok_callVL (M' := M_Mo_rowOf) (as := [_, _]) 52 rfl rfl ml_X12_114 (s_Mo_rowOf hB hs ⟨by omega, hr.1.2.2⟩) rfl rfl (Nat.le_of_ble_eq_true rfl) ⟨Nat.le_of_ble_eq_true rfl, Nat.le_of_ble_eq_true rfl⟩ rfl (Nat.le_of_ble_eq_true rfl) (fun σ' z hz => ?_))))
            rw [hz.1, hz.2]
            clear hz z σ'
            refine ok_l2i 53 rfl rfl (by first | omega | (simp [up_if]; omega) | (simp [up_if] at *; omega)) (ok_goto 54 129 rfl rfl rfl (ok_iret 56 rfl rfl rfl ?_))
            first | exact ⟨_, rfl, fr.rf, Or.inr ⟨hs, Or.inr (Or.inr (Or.inl ⟨rfl, Or.inl ⟨hr, rfl⟩⟩))⟩⟩ | exact ⟨_, rfl, fr.rf, Or.inr ⟨hs, Or.inr (Or.inr (Or.inl ⟨rfl, Or.inr ⟨hr, rfl⟩⟩))⟩⟩
        · refine ok_tin (len := 39) 34 130 rfl rfl (by omega) (by omega) rfl rfl ?_
          refine ok_aload_n 57 rfl rfl rfl (ok_iload_n 58 rfl rfl rfl (ok_callVI (M' := M_Mo_aboveNought) (as := [_]) 59 rfl rfl ml_X12_205 (s_Mo_aboveNought hB hs) rfl rfl (Nat.le_of_ble_eq_true rfl) ⟨Nat.le_of_ble_eq_true rfl, Nat.le_of_ble_eq_true rfl⟩ rfl (Nat.le_of_ble_eq_true rfl) (fun σ' z hz => ?_)))
          rw [hz.1, hz.2]
          clear hz z σ'
          refine ok_iret 60 rfl rfl rfl ?_
          exact ⟨_, rfl, fr.rf, Or.inr ⟨hs, Or.inr (Or.inr (Or.inr (Or.inl ⟨rfl, cntB_cn hB hs⟩)))⟩⟩
        · refine ok_tin (len := 39) 34 136 rfl rfl (by omega) (by omega) rfl rfl ?_
          refine ok_iload_n 61 rfl rfl rfl (ok_iret 62 rfl rfl rfl ?_)
          exact ⟨_, rfl, fr.rf, Or.inr ⟨hs, Or.inr (Or.inr (Or.inr (Or.inr (Or.inl ⟨rfl, by rw [← en]; exact hgc⟩))))⟩⟩
        · refine ok_tin (len := 39) 34 138 rfl rfl (by omega) (by omega) rfl rfl ?_
          refine ok_aload_n 63 rfl rfl rfl (ok_iload_n 64 rfl rfl rfl (ok_callVI (M' := M_Mo_groupsOf) (as := [_]) 65 rfl rfl ml_X12_208 (t_Mo_groupsOf hB hs) rfl rfl (Nat.le_of_ble_eq_true rfl) ⟨Nat.le_of_ble_eq_true rfl, Nat.le_of_ble_eq_true rfl⟩ rfl (Nat.le_of_ble_eq_true rfl) (fun σ' z hz => ?_)))
          refine ok_iret 66 rfl rfl rfl ?_
          exact ⟨_, rfl, hz.1, Or.inr ⟨hs, Or.inr (Or.inr (Or.inr (Or.inr (Or.inr (Or.inl ⟨rfl, hz.2⟩)))))⟩⟩
        · refine ok_tout (len := 39) 34 144 rfl rfl hw rfl ?_
          refine ok_bipush 67 rfl rfl (by decide) (by decide) (ok_iret 68 rfl rfl rfl ?_)
          exact ⟨_, rfl, fr.rf, Or.inr ⟨hs, Or.inr (Or.inr (Or.inr (Or.inr (Or.inr (Or.inr ⟨hw, rfl⟩)))))⟩⟩
      · have n1 : 1 ≤ n := by
          rcases (by omega : n = 0 ∨ 1 ≤ n) with q | q
          · rw [q] at h30; omega
          · exact q
        obtain ⟨i, ei⟩ : ∃ i, i = k / n := ⟨_, rfl⟩
        obtain ⟨j, ej⟩ : ∃ j, j = k % n := ⟨_, rfl⟩
        have e1 : n * i + j = k := by rw [ei, ej]; exact Int.mul_ediv_add_emod k n
        have j1 : 0 ≤ j ∧ j < n := by rw [ej]; exact ⟨Int.emod_nonneg _ (by omega), Int.emod_lt_of_pos _ (by omega)⟩
        have i1 : 0 ≤ i ∧ i < n := by rw [ei]; exact ⟨Int.ediv_nonneg k1 (by omega), Int.ediv_lt_of_lt_mul (by omega) (by omega)⟩
        have cb := cB_bd hB hs (i := i) (j := j) ⟨i1.1, by omega⟩ ⟨j1.1, by omega⟩
        have ec : cB σ s i j = σ 3 (64 * s + k) := by unfold cB; rw [← en, show 64 * s + n * i + j = 64 * s + k by omega]
        have gm := gcD_m (D' := fun x y => n * x + y < k + 1) k3 i1 j1 cb (fun x y a b c d q => by
          rcases (by omega : n * x + y < k ∨ n * x + y = n * i + j) with u | u
          · exact Or.inl u
          · exact Or.inr (ix_inj ⟨n1, g2⟩ ⟨c, d⟩ j1 u))
        rw [ec] at gm cb
        refine ok_iload_n 20 rfl rfl rfl (ok_aload_n 21 rfl rfl rfl (ok_getR 22 rfl rfl fl_X12_16 rfl rfl (ok_bipush 23 rfl rfl (by decide) (by decide) (ok_iload_n 24 rfl rfl rfl (ok_imul 25 rfl rfl (by first | omega | (simp [up_if]; omega) | (simp [up_if] at *; omega)) (ok_iload 26 rfl rfl rfl (ok_iadd 27 rfl rfl (by first | omega | (simp [up_if]; omega) | (simp [up_if] at *; omega)) (ok_iald 28 rfl rfl rfl (by first | omega | (simp [up_if]; omega) | (simp [up_if] at *; omega)) (ok_mmax 29 rfl rfl ml_X12_196 ⟨Nat.le_of_ble_eq_true rfl, Nat.le_of_ble_eq_true rfl⟩ (ok_ist3 30 rfl rfl rfl (ok_inc4 31 rfl rfl rfl (by first | omega | (simp [up_if]; omega) | (simp [up_if] at *; omega)) (ok_goto 32 15 rfl rfl rfl ?_))))))))))))
        exact ih _ (k + 1) ⟨by omega, by omega, gm⟩ (by omega)
    · omega
  · refine ok_iload_n 0 rfl rfl rfl (ok_callSI (M' := M_Mo_isSlot) (as := [_]) 1 rfl rfl ml_X12_103 (s_Mo_isSlot_n hs) ⟨Nat.le_of_ble_eq_true rfl, Nat.le_of_ble_eq_true rfl⟩ rfl (Nat.le_of_ble_eq_true rfl) (fun σ' z hz => ?_))
    rw [hz.1, hz.2]
    clear hz z σ'
    refine ok_if_ne 2 10 rfl rfl rfl (fun h4 => ?_) (fun h4 => ?_)
    · omega
    · refine ok_bipush 3 rfl rfl (by decide) (by decide) (ok_iret 4 rfl rfl rfl ?_)
      exact ⟨_, rfl, fr.rf, Or.inl ⟨hs, rfl⟩⟩
end
section
-- part 78zzj.K17
/-! FEWEST PARTS with up to three rows: what all even and all odd choices have -/
def lz (W : Int → Int → Int) (a b : Int) : Int := W ((2 * (b + 3 - a)) % 3) (((2 * (b + 3 - a)) % 3 + a) % 3)
theorem t_Mo_lies {σ : eS} {s a b : Int} (hB : iB1 σ) (hs : 0 ≤ s ∧ s < 4) (h3 : σ 1 s = 3) (ha : 0 ≤ a ∧ a ≤ 2) (hb : 0 ≤ b ∧ b ≤ 2) : MtL shB M_Mo_lies [vr 0, vi s, vi a, vi b] σ (fun σ' z => σ' = σ ∧ z = lz (cB σ s) a b ∧ 0 ≤ z ∧ z ≤ 99999999) := by
  refine Mt.of okM_Mo_lies (Nat.le_of_ble_eq_true rfl) (fun hk hg => ?_)
  refine ok_iconst 0 rfl rfl (by decide) (ok_ist4 1 rfl rfl rfl ?_)
  refine lpO (fun i : Int => [some (vr 0), some (vi s), some (vi a), some (vi b), some (vi i)]) (fun _ => σ) (fun i => 0 ≤ i ∧ i ≤ 3 ∧ i ≤ (2 * (b + 3 - a)) % 3) (fun i => (3 - i).toNat) ?_ 0 ⟨by omega, by omega, by omega⟩
  rintro i ⟨i1, i2, i3⟩ ih
  refine ok_iload 2 rfl rfl rfl (ok_iconst 3 rfl rfl (by decide) (ok_icmp_ge 4 47 rfl rfl rfl (fun h6 => ?_) (fun h6 => ?_)))
  · refine ok_lconst (w := 0) 31 rfl rfl rfl (by decide) (ok_lret 32 rfl rfl rfl ?_)
    exfalso; omega
  · refine ok_iload 5 rfl rfl rfl (ok_iload_n 6 rfl rfl rfl (ok_iadd 7 rfl rfl (by first | omega | (simp [up_if]; omega) | (simp [up_if] at *; omega)) (ok_iconst 8 rfl rfl (by decide) (ok_irem 9 rfl rfl (by first | omega | (simp [up_if]; omega) | (simp [up_if] at *; omega)) (by first | omega | (simp [up_if]; omega) | (simp [up_if] at *; omega)) (ok_iload_n 10 rfl rfl rfl (ok_iload 11 rfl rfl rfl (ok_isub 12 rfl rfl (by first | omega | (simp [up_if]; omega) | (simp [up_if] at *; omega)) (ok_iconst 13 rfl rfl (by decide) (ok_iadd 14 rfl rfl (by first | omega | (simp [up_if]; omega) | (simp [up_if] at *; omega)) (ok_iconst 15 rfl rfl (by decide) (ok_irem 16 rfl rfl (by first | omega | (simp [up_if]; omega) | (simp [up_if] at *; omega)) (by first | omega | (simp [up_if]; omega) | (simp [up_if] at *; omega)) (ok_icmp_ne 17 41 rfl rfl rfl (fun h23 => ?_) (fun h23 => ?_)))))))))))))
    · refine ok_inc4 29 rfl rfl rfl (by first | omega | (simp [up_if]; omega) | (simp [up_if] at *; omega)) (ok_goto 30 3 rfl rfl rfl ?_)
      exact ih (i + 1) ⟨by omega, by omega, by omega⟩ (by omega)
    · refine ok_aload_n 18 rfl rfl rfl (ok_iload_n 19 rfl rfl rfl (ok_iload 20 rfl rfl rfl (ok_iload 21 rfl rfl rfl (ok_iload_n 22 rfl rfl rfl (ok_iadd 23 rfl rfl (by first | omega | (simp [up_if]; omega) | (simp [up_if] at *; omega)) (ok_iconst 24 rfl rfl (by decide) (ok_irem 25 rfl rfl (by first | omega | (simp [up_if]; omega) | (simp [up_if] at *; omega)) (by first | omega | (simp [up_if]; omega) | (simp [up_if] at *; omega)) (ok_callVI (M' := M_Mo_at) (as := [_, _, _]) 26 rfl rfl ml_X12_107 (s_Mo_at hB hs ⟨by omega, by omega⟩ ⟨by omega, by omega⟩) rfl rfl (Nat.le_of_ble_eq_true rfl) ⟨Nat.le_of_ble_eq_true rfl, Nat.le_of_ble_eq_true rfl⟩ rfl (Nat.le_of_ble_eq_true rfl) (fun σ' z hz => ?_)))))))))
      rw [hz.1, hz.2]; clear hz z σ'
      have hc := cB_bd hB hs (i := i) (j := (i + a) % 3) ⟨by omega, by omega⟩ ⟨by omega, by omega⟩
      have ei : i = (2 * (b + 3 - a)) % 3 := by omega
      refine ok_i2l 27 rfl rfl (ok_lret 28 rfl rfl rfl ?_)
      exact ⟨_, rfl, rfl, by unfold lz; rw [← ei], hc.1, hc.2⟩
def evn (W : Int → Int → Int) (t a : Int) : Int := lz W a 0 - lz W 0 0 + t
def odn (W : Int → Int → Int) (t a : Int) : Int := lz W 0 a - t
def vlT (W : Int → Int → Int) (t i : Int) : Prop := ∀ a, 0 ≤ a → a < i → 0 ≤ evn W t a ∧ 0 ≤ odn W t a
def nmT (W : Int → Int → Int) (t : Int) (i : Nat) : Int := sm (fun a => (if 0 < evn W t a then 1 else 0) + (if 0 < odn W t a then 1 else 0)) i
def ttK (W : Int → Int → Int) (k : Int) : Int := if k < 3 then lz W 0 k else lz W 0 0 - lz W (k - 3) 0
theorem vlT_s {W : Int → Int → Int} {t i : Int} (hi : 0 ≤ i) : vlT W t (i + 1) ↔ (vlT W t i ∧ 0 ≤ evn W t i ∧ 0 ≤ odn W t i) := by
  constructor
  · intro h; exact ⟨fun a x y => h a x (by omega), h i hi (by omega)⟩
  · rintro ⟨h, g⟩ a x y
    rcases (by omega : a < i ∨ a = i) with q | q
    · exact h a x q
    · rw [q]; exact g
theorem nmT_bd (W : Int → Int → Int) (t : Int) (i : Nat) : 0 ≤ nmT W t i ∧ nmT W t i ≤ 2 * i := by
  exact sm_bd (B := 2) (by decide) (fun k _ _ => by (try dsimp only); split <;> split <;> omega)
def bsK (W : Int → Int → Int) (k b : Int) : Prop := (b = -1 ∧ ∀ x, 0 ≤ x → x < k → ¬ vlT W (ttK W x) 3) ∨ ((∃ x, 0 ≤ x ∧ x < k ∧ vlT W (ttK W x) 3 ∧ b = nmT W (ttK W x) 3) ∧ ∀ x, 0 ≤ x → x < k → vlT W (ttK W x) 3 → b ≤ nmT W (ttK W x) 3)
theorem bsK_new {W : Int → Int → Int} {k b : Int} (hk : 0 ≤ k) (h : bsK W k b) (hv : vlT W (ttK W k) 3) (hb : b = -1 ∨ nmT W (ttK W k) 3 < b) : bsK W (k + 1) (nmT W (ttK W k) 3) := by
  refine Or.inr ⟨⟨k, hk, by omega, hv, rfl⟩, fun x a c q => ?_⟩
  rcases (by omega : x < k ∨ x = k) with u | u
  · rcases h with ⟨-, h⟩ | ⟨⟨y, -, -, -, e⟩, h⟩
    · exact absurd q (h x a u)
    · have h1 := h x a u q
      have h2 := (nmT_bd W (ttK W y) 3).1
      omega
  · rw [u]; exact Int.le_refl _
theorem bsK_no {W : Int → Int → Int} {k b : Int} (h : bsK W k b) (hv : ¬ vlT W (ttK W k) 3) : bsK W (k + 1) b := by
  have nx : ∀ x, x < k + 1 → vlT W (ttK W x) 3 → x < k := fun x a q => by
    rcases (by omega : x < k ∨ x = k) with u | u
    · exact u
    · rw [u] at q; exact absurd q hv
  rcases h with ⟨e, h⟩ | ⟨⟨y, y1, y2, y3⟩, h⟩
  · exact Or.inl ⟨e, fun x a c q => h x a (nx x c q) q⟩
  · exact Or.inr ⟨⟨y, y1, by omega, y3⟩, fun x a c q => h x a (nx x c q) q⟩
theorem bsK_old {W : Int → Int → Int} {k b : Int} (h : bsK W k b) (hb : b ≠ -1) (hle : b ≤ nmT W (ttK W k) 3) : bsK W (k + 1) b := by
  rcases h with ⟨e, h⟩ | ⟨⟨y, y1, y2, y3⟩, h⟩
  · exact absurd e hb
  · refine Or.inr ⟨⟨y, y1, by omega, y3⟩, fun x a c q => ?_⟩
    rcases (by omega : x < k ∨ x = k) with u | u
    · exact h x a u q
    · rw [u]; exact hle
theorem bsK_un {W : Int → Int → Int} {b c : Int} (h : bsK W 6 b) (g : bsK W 6 c) : b = c := by
  rcases h with ⟨e, h⟩ | ⟨⟨x, x1, x2, x3, x4⟩, h⟩ <;> rcases g with ⟨e', g⟩ | ⟨⟨y, y1, y2, y3, y4⟩, g⟩
  · omega
  · exact absurd y3 (h y y1 y2)
  · exact absurd x3 (g x x1 x2)
  · have := h y y1 y2 y3
    have := g x x1 x2 x3
    omega
theorem lz_ag {W V : Int → Int → Int} (e : ag 3 W V) (a b : Int) : lz W a b = lz V a b := by
  unfold lz
  exact e _ _ (by omega) (by omega) (by omega) (by omega)
theorem bsK_ag {W V : Int → Int → Int} {b : Int} (e : ag 3 W V) (h : bsK W 6 b) : bsK V 6 b := by
  have e1 : ∀ t a, evn V t a = evn W t a := fun t a => by unfold evn; rw [lz_ag e, lz_ag e]
  have e2 : ∀ t a, odn V t a = odn W t a := fun t a => by unfold odn; rw [lz_ag e]
  have e3 : ∀ k, ttK V k = ttK W k := fun k => by unfold ttK; rw [lz_ag e, lz_ag e, lz_ag e]
  have e4 : ∀ t i, vlT V t i ↔ vlT W t i := fun t i => by unfold vlT; simp only [e1, e2]
  have e5 : ∀ t i, nmT V t i = nmT W t i := fun t i => by unfold nmT; simp only [e1, e2]
  unfold bsK
  simp only [e3, e4, e5]
  exact h
def fwS (n : Int) (W : Int → Int → Int) (z : Int) : Prop := (n = 1 ∧ z = 1) ∨ (n = 2 ∧ z = (if 0 < W 0 0 then 1 else 0) + (if 0 < W 0 1 then 1 else 0)) ∨ (n = 3 ∧ bsK W 6 z)
theorem fwS_un {n z z' : Int} {W V : Int → Int → Int} (e : ag n W V) (h : fwS n W z) (g : fwS n V z') : z = z' := by
  rcases h with ⟨a, h⟩ | ⟨a, h⟩ | ⟨a, h⟩ <;> rcases g with ⟨b, g⟩ | ⟨b, g⟩ | ⟨b, g⟩
  · omega
  · omega
  · omega
  · omega
  · rw [h, g, e 0 0 (by omega) (by omega) (by omega) (by omega), e 0 1 (by omega) (by omega) (by omega) (by omega)]
  · omega
  · omega
  · omega
  · subst a; exact bsK_un (bsK_ag e h) g
theorem t_Mo_fewest {σ : eS} {s : Int} (hB : iB1 σ) (ht : tabB σ s) (h3 : σ 1 s ≤ 3) : MtI shB M_Mo_fewest [vr 0, vi s] σ (fun σ' z => σ' = σ ∧ fwS (σ 1 s) (cB σ s) z) := by
  refine Mt.of okM_Mo_fewest (Nat.le_of_ble_eq_true rfl) (fun hk hg => ?_)
  obtain ⟨t1, t2, t3⟩ := ht
  refine ok_aload_n 0 rfl rfl rfl (ok_getR 1 rfl rfl fl_X12_7 rfl rfl (ok_iload_n 2 rfl rfl rfl (ok_iald 3 rfl rfl rfl (by first | omega | (simp [up_if]; omega) | (simp [up_if] at *; omega)) (ok_iconst 4 rfl rfl (by decide) (ok_icmp_ne 5 12 rfl rfl rfl (fun h7 => ?_) (fun h7 => ?_))))))
  · refine ok_aload_n 8 rfl rfl rfl (ok_getR 9 rfl rfl fl_X12_7 rfl rfl (ok_iload_n 10 rfl rfl rfl (ok_iald 11 rfl rfl rfl (by first | omega | (simp [up_if]; omega) | (simp [up_if] at *; omega)) (ok_iconst 12 rfl rfl (by decide) (ok_icmp_ne 13 60 rfl rfl rfl (fun h19 => ?_) (fun h19 => ?_))))))
    · refine ok_iconst 36 rfl rfl (by decide) (ok_ist2 37 rfl rfl rfl (ok_iconst 38 rfl rfl (by decide) (ok_ist3 39 rfl rfl rfl ?_)))
      have e3 : σ 1 s = 3 := by omega
      obtain ⟨W, eW⟩ : ∃ W, W = cB σ s := ⟨_, rfl⟩
      rw [← eW]
      refine lpO2 (fun b k : Int => [some (vr 0), some (vi s), some (vi b), some (vi k), none, none, none, none, none, none, none, none, none]) (fun _ _ => σ) (fun b k => 0 ≤ k ∧ k ≤ 6 ∧ bsK W k b) (fun _ k => (6 - k).toNat) ?_ (-1) 0 ⟨by omega, by omega, Or.inl ⟨rfl, fun x a b => by omega⟩⟩
      rintro b k ⟨k1, k2, k3⟩ ih
      have tail : ∀ x : Int, x = ttK W k → k < 6 → -99999999 ≤ x → x ≤ 99999999 → Ok shB M_Mo_fewest 102 [some (vr 0), some (vi s), some (vi b), some (vi k), none, none, none, none, none, none, none, none, none] [vl x] σ (fun σ' v => ∃ z, v = some (vi z) ∧ σ' = σ ∧ fwS (σ 1 s) W z) := by
        intro x ex k6 x1 x2
        refine ok_lst4 65 rfl rfl rfl (ok_iconst 66 rfl rfl (by decide) (ok_ist6 67 rfl rfl rfl (ok_iconst 68 rfl rfl (by decide) (ok_ist7 69 rfl rfl rfl (ok_iconst 70 rfl rfl (by decide) (ok_ist8 71 rfl rfl rfl ?_))))))
        refine lpO3 (fun c o i : Int => [some (vr 0), some (vi s), some (vi b), some (vi k), some (vl x), none, some (vi c), some (vi o), some (vi i), none, none, none, none]) (fun _ _ _ => σ) (fun c o i => 0 ≤ i ∧ i ≤ 3 ∧ c = nmT W x i.toNat ∧ ((o = 1 ∧ vlT W x i) ∨ (o = 0 ∧ ¬ vlT W x i))) (fun _ _ i => (3 - i).toNat) ?_ 0 1 0 ⟨by omega, by omega, rfl, Or.inl ⟨rfl, fun a p q => by omega⟩⟩
        rintro c o i ⟨i1, i2, i3, ho⟩ ih2
        have cb := nmT_bd W x i.toNat
        rw [← i3] at cb
        have es : nmT W x (i + 1).toNat = nmT W x i.toNat + ((if 0 < evn W x i then 1 else 0) + (if 0 < odn W x i then 1 else 0)) := sm_s _ i1
        have vs := vlT_s (W := W) (t := x) i1
        refine ok_iload 72 rfl rfl rfl (ok_iconst 73 rfl rfl (by decide) (ok_icmp_ge 74 221 rfl rfl rfl (fun h116 => ?_) (fun h116 => ?_)))
        · have ei : i = 3 := by omega
          subst ei
          rw [ex] at i3 ho
          refine ok_iload 133 rfl rfl rfl (ok_if_eq 134 240 rfl rfl rfl (fun h223 => ?_) (fun h223 => ?_))
          · refine ok_inc3 143 rfl rfl rfl (by first | omega | (simp [up_if]; omega) | (simp [up_if] at *; omega)) (ok_goto 144 64 rfl rfl rfl ?_)
            refine ok_fg [some (vr 0), some (vi s), some (vi _), some (vi (k + 1)), none, none, none, none, none, none, none, none, none] ⟨rfl, rfl, rfl, rfl, trivial⟩ (ih _ (k + 1) ⟨by omega, by omega, ?_⟩ (by omega))
            have i3 : c = nmT W (ttK W k) 3 := i3
            first
              | (refine bsK_no k3 ?_
                 rcases ho with u | u
                 · omega
                 · exact u.2)
              | (rw [i3]
                 refine bsK_new k1 k3 ?_ (by omega)
                 rcases ho with u | u
                 · exact u.2
                 · exact absurd u.1 (by omega))
              | exact bsK_old k3 (by omega) (by omega)
          · refine ok_iload_n 135 rfl rfl rfl (ok_iconst 136 rfl rfl (by decide) (ok_icmp_eq 137 237 rfl rfl rfl (fun h228 => ?_) (fun h228 => ?_)))
            · refine ok_iload 141 rfl rfl rfl (ok_ist2 142 rfl rfl rfl (ok_inc3 143 rfl rfl rfl (by first | omega | (simp [up_if]; omega) | (simp [up_if] at *; omega)) (ok_goto 144 64 rfl rfl rfl ?_)))
              refine ok_fg [some (vr 0), some (vi s), some (vi _), some (vi (k + 1)), none, none, none, none, none, none, none, none, none] ⟨rfl, rfl, rfl, rfl, trivial⟩ (ih _ (k + 1) ⟨by omega, by omega, ?_⟩ (by omega))
              have i3 : c = nmT W (ttK W k) 3 := i3
              first
                | (refine bsK_no k3 ?_
                   rcases ho with u | u
                   · omega
                   · exact u.2)
                | (rw [i3]
                   refine bsK_new k1 k3 ?_ (by omega)
                   rcases ho with u | u
                   · exact u.2
                   · exact absurd u.1 (by omega))
                | exact bsK_old k3 (by omega) (by omega)
            · refine ok_iload 138 rfl rfl rfl (ok_iload_n 139 rfl rfl rfl (ok_icmp_ge 140 240 rfl rfl rfl (fun h234 => ?_) (fun h234 => ?_)))
              · refine ok_inc3 143 rfl rfl rfl (by first | omega | (simp [up_if]; omega) | (simp [up_if] at *; omega)) (ok_goto 144 64 rfl rfl rfl ?_)
                refine ok_fg [some (vr 0), some (vi s), some (vi _), some (vi (k + 1)), none, none, none, none, none, none, none, none, none] ⟨rfl, rfl, rfl, rfl, trivial⟩ (ih _ (k + 1) ⟨by omega, by omega, ?_⟩ (by omega))
                have i3 : c = nmT W (ttK W k) 3 := i3
                first
                  | (refine bsK_no k3 ?_
                     rcases ho with u | u
                     · omega
                     · exact u.2)
                  | (rw [i3]
                     refine bsK_new k1 k3 ?_ (by omega)
                     rcases ho with u | u
                     · exact u.2
                     · exact absurd u.1 (by omega))
                  | exact bsK_old k3 (by omega) (by omega)
              · refine ok_iload 141 rfl rfl rfl (ok_ist2 142 rfl rfl rfl (ok_inc3 143 rfl rfl rfl (by first | omega | (simp [up_if]; omega) | (simp [up_if] at *; omega)) (ok_goto 144 64 rfl rfl rfl ?_)))
                refine ok_fg [some (vr 0), some (vi s), some (vi _), some (vi (k + 1)), none, none, none, none, none, none, none, none, none] ⟨rfl, rfl, rfl, rfl, trivial⟩ (ih _ (k + 1) ⟨by omega, by omega, ?_⟩ (by omega))
                have i3 : c = nmT W (ttK W k) 3 := i3
                first
                  | (refine bsK_no k3 ?_
                     rcases ho with u | u
                     · omega
                     · exact u.2)
                  | (rw [i3]
                     refine bsK_new k1 k3 ?_ (by omega)
                     rcases ho with u | u
                     · exact u.2
                     · exact absurd u.1 (by omega))
                  | exact bsK_old k3 (by omega) (by omega)
        · refine ok_aload_n 75 rfl rfl rfl (ok_iload_n 76 rfl rfl rfl (ok_iload 77 rfl rfl rfl (ok_iconst 78 rfl rfl (by decide) (ok_callVL (M' := M_Mo_lies) (as := [_, _, _]) 79 rfl rfl ml_X12_314 (t_Mo_lies hB ⟨t1, t2⟩ e3 ⟨by omega, by omega⟩ ⟨by omega, by omega⟩) rfl rfl (Nat.le_of_ble_eq_true rfl) ⟨Nat.le_of_ble_eq_true rfl, Nat.le_of_ble_eq_true rfl⟩ rfl (Nat.le_of_ble_eq_true rfl) (fun σ' y1 g1 => ?_)))))
          obtain ⟨hs_, g1⟩ := g1
          rw [hs_]; clear hs_ σ'
          refine ok_aload_n 80 rfl rfl rfl (ok_iload_n 81 rfl rfl rfl (ok_iconst 82 rfl rfl (by decide) (ok_iconst 83 rfl rfl (by decide) (ok_callVL (M' := M_Mo_lies) (as := [_, _, _]) 84 rfl rfl ml_X12_314 (t_Mo_lies hB ⟨t1, t2⟩ e3 ⟨by omega, by omega⟩ ⟨by omega, by omega⟩) rfl rfl (Nat.le_of_ble_eq_true rfl) ⟨Nat.le_of_ble_eq_true rfl, Nat.le_of_ble_eq_true rfl⟩ rfl (Nat.le_of_ble_eq_true rfl) (fun σ' y2 g2 => ?_)))))
          obtain ⟨hs_, g2⟩ := g2
          rw [hs_]; clear hs_ σ'
          refine ok_lsub 85 rfl rfl (by first | omega | (simp [up_if]; omega) | (simp [up_if] at *; omega)) (ok_lload 86 rfl rfl rfl (ok_ladd 87 rfl rfl (by first | omega | (simp [up_if]; omega) | (simp [up_if] at *; omega)) (ok_lst9 88 rfl rfl rfl (ok_aload_n 89 rfl rfl rfl (ok_iload_n 90 rfl rfl rfl (ok_iconst 91 rfl rfl (by decide) (ok_iload 92 rfl rfl rfl (ok_callVL (M' := M_Mo_lies) (as := [_, _, _]) 93 rfl rfl ml_X12_314 (t_Mo_lies hB ⟨t1, t2⟩ e3 ⟨by omega, by omega⟩ ⟨by omega, by omega⟩) rfl rfl (Nat.le_of_ble_eq_true rfl) ⟨Nat.le_of_ble_eq_true rfl, Nat.le_of_ble_eq_true rfl⟩ rfl (Nat.le_of_ble_eq_true rfl) (fun σ' y3 g3 => ?_)))))))))
          obtain ⟨hs_, g3⟩ := g3
          rw [hs_]; clear hs_ σ'
          rw [← eW] at g1 g2 g3
          have eE : evn W x i = y1 - y2 + x := by unfold evn; rw [g1.1, g2.1]
          have eO : odn W x i = y3 - x := by unfold odn; rw [g3.1]
          refine ok_lload 94 rfl rfl rfl (ok_lsub 95 rfl rfl (by first | omega | (simp [up_if]; omega) | (simp [up_if] at *; omega)) (ok_lst11 96 rfl rfl rfl (ok_iload 97 rfl rfl rfl (ok_if_eq 98 176 rfl rfl rfl (fun h155 => ?_) (fun h155 => ?_)))))
          · refine ok_iconst 109 rfl rfl (by decide) (ok_ist7 110 rfl rfl rfl (ok_iload 111 rfl rfl rfl (ok_lload 112 rfl rfl rfl (ok_lconst (w := 0) 113 rfl rfl rfl (by decide) (ok_lcmp_le 114 115 192 rfl rfl rfl rfl rfl (fun h184 => ?_) (fun h184 => ?_))))))
            · refine ok_iconst 118 rfl rfl (by decide) (ok_callSI (M' := M_Mo_one) (as := [_]) 119 rfl rfl ml_X12_192 (s_Mo_one) ⟨Nat.le_of_ble_eq_true rfl, Nat.le_of_ble_eq_true rfl⟩ rfl (Nat.le_of_ble_eq_true rfl) (fun σ' z1 a1 => ?_))
              obtain ⟨hs_, a1⟩ := a1
              rw [hs_]; clear hs_ σ'
              have q1 : z1 = if 0 < evn W x i then 1 else 0 := by rw [a1]; first | rw [if_pos rfl, if_neg (by omega)] | rw [if_neg (by decide), if_pos (by omega)]
              have q1b : 0 ≤ z1 ∧ z1 ≤ 1 := by rw [a1]; split <;> omega
              refine ok_lload 120 rfl rfl rfl (ok_lconst (w := 0) 121 rfl rfl rfl (by decide) (ok_lcmp_le 122 123 207 rfl rfl rfl rfl rfl (fun h199 => ?_) (fun h199 => ?_)))
              · refine ok_iconst 126 rfl rfl (by decide) (ok_callSI (M' := M_Mo_one) (as := [_]) 127 rfl rfl ml_X12_192 (s_Mo_one) ⟨Nat.le_of_ble_eq_true rfl, Nat.le_of_ble_eq_true rfl⟩ rfl (Nat.le_of_ble_eq_true rfl) (fun σ' z2 a2 => ?_))
                obtain ⟨hs_, a2⟩ := a2
                rw [hs_]; clear hs_ σ'
                have q2 : z2 = if 0 < odn W x i then 1 else 0 := by rw [a2]; first | rw [if_pos rfl, if_neg (by omega)] | rw [if_neg (by decide), if_pos (by omega)]
                have q2b : 0 ≤ z2 ∧ z2 ≤ 1 := by rw [a2]; split <;> omega
                refine ok_iadd 128 rfl rfl (by first | omega | (simp [up_if]; omega) | (simp [up_if] at *; omega)) (ok_iadd 129 rfl rfl (by first | omega | (simp [up_if]; omega) | (simp [up_if] at *; omega)) (ok_ist6 130 rfl rfl rfl (ok_inc8 131 rfl rfl rfl (by first | omega | (simp [up_if]; omega) | (simp [up_if] at *; omega)) (ok_goto 132 113 rfl rfl rfl ?_))))
                refine ok_fg [some (vr 0), some (vi s), some (vi b), some (vi k), some (vl x), none, some (vi _), some (vi _), some (vi (i + 1)), none, none, none, none] ⟨rfl, rfl, rfl, rfl, rfl, rfl, rfl, rfl, trivial⟩ (ih2 _ _ (i + 1) ⟨by omega, by omega, by rw [es, ← i3, q1, q2], ?_⟩ (by omega))
                first
                  | exact Or.inl ⟨rfl, vs.mpr ⟨by rcases ho with u | u; exact u.2; exact absurd u.1 h155, by omega, by omega⟩⟩
                  | exact Or.inr ⟨rfl, fun q => by obtain ⟨w1, w2, w3⟩ := vs.mp q; first | omega | (rcases ho with u | u; omega; exact u.2 w1)⟩
              · refine ok_iconst 124 rfl rfl (by decide) (ok_goto 125 208 rfl rfl rfl (ok_callSI (M' := M_Mo_one) (as := [_]) 127 rfl rfl ml_X12_192 (s_Mo_one) ⟨Nat.le_of_ble_eq_true rfl, Nat.le_of_ble_eq_true rfl⟩ rfl (Nat.le_of_ble_eq_true rfl) (fun σ' z2 a2 => ?_)))
                obtain ⟨hs_, a2⟩ := a2
                rw [hs_]; clear hs_ σ'
                have q2 : z2 = if 0 < odn W x i then 1 else 0 := by rw [a2]; first | rw [if_pos rfl, if_neg (by omega)] | rw [if_neg (by decide), if_pos (by omega)]
                have q2b : 0 ≤ z2 ∧ z2 ≤ 1 := by rw [a2]; split <;> omega
                refine ok_iadd 128 rfl rfl (by first | omega | (simp [up_if]; omega) | (simp [up_if] at *; omega)) (ok_iadd 129 rfl rfl (by first | omega | (simp [up_if]; omega) | (simp [up_if] at *; omega)) (ok_ist6 130 rfl rfl rfl (ok_inc8 131 rfl rfl rfl (by first | omega | (simp [up_if]; omega) | (simp [up_if] at *; omega)) (ok_goto 132 113 rfl rfl rfl ?_))))
                refine ok_fg [some (vr 0), some (vi s), some (vi b), some (vi k), some (vl x), none, some (vi _), some (vi _), some (vi (i + 1)), none, none, none, none] ⟨rfl, rfl, rfl, rfl, rfl, rfl, rfl, rfl, trivial⟩ (ih2 _ _ (i + 1) ⟨by omega, by omega, by rw [es, ← i3, q1, q2], ?_⟩ (by omega))
                first
                  | exact Or.inl ⟨rfl, vs.mpr ⟨by rcases ho with u | u; exact u.2; exact absurd u.1 h155, by omega, by omega⟩⟩
                  | exact Or.inr ⟨rfl, fun q => by obtain ⟨w1, w2, w3⟩ := vs.mp q; first | omega | (rcases ho with u | u; omega; exact u.2 w1)⟩
            · refine ok_iconst 116 rfl rfl (by decide) (ok_goto 117 193 rfl rfl rfl (ok_callSI (M' := M_Mo_one) (as := [_]) 119 rfl rfl ml_X12_192 (s_Mo_one) ⟨Nat.le_of_ble_eq_true rfl, Nat.le_of_ble_eq_true rfl⟩ rfl (Nat.le_of_ble_eq_true rfl) (fun σ' z1 a1 => ?_)))
              obtain ⟨hs_, a1⟩ := a1
              rw [hs_]; clear hs_ σ'
              have q1 : z1 = if 0 < evn W x i then 1 else 0 := by rw [a1]; first | rw [if_pos rfl, if_neg (by omega)] | rw [if_neg (by decide), if_pos (by omega)]
              have q1b : 0 ≤ z1 ∧ z1 ≤ 1 := by rw [a1]; split <;> omega
              refine ok_lload 120 rfl rfl rfl (ok_lconst (w := 0) 121 rfl rfl rfl (by decide) (ok_lcmp_le 122 123 207 rfl rfl rfl rfl rfl (fun h199 => ?_) (fun h199 => ?_)))
              · refine ok_iconst 126 rfl rfl (by decide) (ok_callSI (M' := M_Mo_one) (as := [_]) 127 rfl rfl ml_X12_192 (s_Mo_one) ⟨Nat.le_of_ble_eq_true rfl, Nat.le_of_ble_eq_true rfl⟩ rfl (Nat.le_of_ble_eq_true rfl) (fun σ' z2 a2 => ?_))
                obtain ⟨hs_, a2⟩ := a2
                rw [hs_]; clear hs_ σ'
                have q2 : z2 = if 0 < odn W x i then 1 else 0 := by rw [a2]; first | rw [if_pos rfl, if_neg (by omega)] | rw [if_neg (by decide), if_pos (by omega)]
                have q2b : 0 ≤ z2 ∧ z2 ≤ 1 := by rw [a2]; split <;> omega
                refine ok_iadd 128 rfl rfl (by first | omega | (simp [up_if]; omega) | (simp [up_if] at *; omega)) (ok_iadd 129 rfl rfl (by first | omega | (simp [up_if]; omega) | (simp [up_if] at *; omega)) (ok_ist6 130 rfl rfl rfl (ok_inc8 131 rfl rfl rfl (by first | omega | (simp [up_if]; omega) | (simp [up_if] at *; omega)) (ok_goto 132 113 rfl rfl rfl ?_))))
                refine ok_fg [some (vr 0), some (vi s), some (vi b), some (vi k), some (vl x), none, some (vi _), some (vi _), some (vi (i + 1)), none, none, none, none] ⟨rfl, rfl, rfl, rfl, rfl, rfl, rfl, rfl, trivial⟩ (ih2 _ _ (i + 1) ⟨by omega, by omega, by rw [es, ← i3, q1, q2], ?_⟩ (by omega))
                first
                  | exact Or.inl ⟨rfl, vs.mpr ⟨by rcases ho with u | u; exact u.2; exact absurd u.1 h155, by omega, by omega⟩⟩
                  | exact Or.inr ⟨rfl, fun q => by obtain ⟨w1, w2, w3⟩ := vs.mp q; first | omega | (rcases ho with u | u; omega; exact u.2 w1)⟩
              · refine ok_iconst 124 rfl rfl (by decide) (ok_goto 125 208 rfl rfl rfl (ok_callSI (M' := M_Mo_one) (as := [_]) 127 rfl rfl ml_X12_192 (s_Mo_one) ⟨Nat.le_of_ble_eq_true rfl, Nat.le_of_ble_eq_true rfl⟩ rfl (Nat.le_of_ble_eq_true rfl) (fun σ' z2 a2 => ?_)))
                obtain ⟨hs_, a2⟩ := a2
                rw [hs_]; clear hs_ σ'
                have q2 : z2 = if 0 < odn W x i then 1 else 0 := by rw [a2]; first | rw [if_pos rfl, if_neg (by omega)] | rw [if_neg (by decide), if_pos (by omega)]
                have q2b : 0 ≤ z2 ∧ z2 ≤ 1 := by rw [a2]; split <;> omega
                refine ok_iadd 128 rfl rfl (by first | omega | (simp [up_if]; omega) | (simp [up_if] at *; omega)) (ok_iadd 129 rfl rfl (by first | omega | (simp [up_if]; omega) | (simp [up_if] at *; omega)) (ok_ist6 130 rfl rfl rfl (ok_inc8 131 rfl rfl rfl (by first | omega | (simp [up_if]; omega) | (simp [up_if] at *; omega)) (ok_goto 132 113 rfl rfl rfl ?_))))
                refine ok_fg [some (vr 0), some (vi s), some (vi b), some (vi k), some (vl x), none, some (vi _), some (vi _), some (vi (i + 1)), none, none, none, none] ⟨rfl, rfl, rfl, rfl, rfl, rfl, rfl, rfl, trivial⟩ (ih2 _ _ (i + 1) ⟨by omega, by omega, by rw [es, ← i3, q1, q2], ?_⟩ (by omega))
                first
                  | exact Or.inl ⟨rfl, vs.mpr ⟨by rcases ho with u | u; exact u.2; exact absurd u.1 h155, by omega, by omega⟩⟩
                  | exact Or.inr ⟨rfl, fun q => by obtain ⟨w1, w2, w3⟩ := vs.mp q; first | omega | (rcases ho with u | u; omega; exact u.2 w1)⟩
          · refine ok_lload 99 rfl rfl rfl (ok_lconst (w := 0) 100 rfl rfl rfl (by decide) (ok_lcmp_lt 101 102 176 rfl rfl rfl rfl rfl (fun h161 => ?_) (fun h161 => ?_)))
            · refine ok_iconst 109 rfl rfl (by decide) (ok_ist7 110 rfl rfl rfl (ok_iload 111 rfl rfl rfl (ok_lload 112 rfl rfl rfl (ok_lconst (w := 0) 113 rfl rfl rfl (by decide) (ok_lcmp_le 114 115 192 rfl rfl rfl rfl rfl (fun h184 => ?_) (fun h184 => ?_))))))
              · refine ok_iconst 118 rfl rfl (by decide) (ok_callSI (M' := M_Mo_one) (as := [_]) 119 rfl rfl ml_X12_192 (s_Mo_one) ⟨Nat.le_of_ble_eq_true rfl, Nat.le_of_ble_eq_true rfl⟩ rfl (Nat.le_of_ble_eq_true rfl) (fun σ' z1 a1 => ?_))
                obtain ⟨hs_, a1⟩ := a1
                rw [hs_]; clear hs_ σ'
                have q1 : z1 = if 0 < evn W x i then 1 else 0 := by rw [a1]; first | rw [if_pos rfl, if_neg (by omega)] | rw [if_neg (by decide), if_pos (by omega)]
                have q1b : 0 ≤ z1 ∧ z1 ≤ 1 := by rw [a1]; split <;> omega
                refine ok_lload 120 rfl rfl rfl (ok_lconst (w := 0) 121 rfl rfl rfl (by decide) (ok_lcmp_le 122 123 207 rfl rfl rfl rfl rfl (fun h199 => ?_) (fun h199 => ?_)))
                · refine ok_iconst 126 rfl rfl (by decide) (ok_callSI (M' := M_Mo_one) (as := [_]) 127 rfl rfl ml_X12_192 (s_Mo_one) ⟨Nat.le_of_ble_eq_true rfl, Nat.le_of_ble_eq_true rfl⟩ rfl (Nat.le_of_ble_eq_true rfl) (fun σ' z2 a2 => ?_))
                  obtain ⟨hs_, a2⟩ := a2
                  rw [hs_]; clear hs_ σ'
                  have q2 : z2 = if 0 < odn W x i then 1 else 0 := by rw [a2]; first | rw [if_pos rfl, if_neg (by omega)] | rw [if_neg (by decide), if_pos (by omega)]
                  have q2b : 0 ≤ z2 ∧ z2 ≤ 1 := by rw [a2]; split <;> omega
                  refine ok_iadd 128 rfl rfl (by first | omega | (simp [up_if]; omega) | (simp [up_if] at *; omega)) (ok_iadd 129 rfl rfl (by first | omega | (simp [up_if]; omega) | (simp [up_if] at *; omega)) (ok_ist6 130 rfl rfl rfl (ok_inc8 131 rfl rfl rfl (by first | omega | (simp [up_if]; omega) | (simp [up_if] at *; omega)) (ok_goto 132 113 rfl rfl rfl ?_))))
                  refine ok_fg [some (vr 0), some (vi s), some (vi b), some (vi k), some (vl x), none, some (vi _), some (vi _), some (vi (i + 1)), none, none, none, none] ⟨rfl, rfl, rfl, rfl, rfl, rfl, rfl, rfl, trivial⟩ (ih2 _ _ (i + 1) ⟨by omega, by omega, by rw [es, ← i3, q1, q2], ?_⟩ (by omega))
                  first
                    | exact Or.inl ⟨rfl, vs.mpr ⟨by rcases ho with u | u; exact u.2; exact absurd u.1 h155, by omega, by omega⟩⟩
                    | exact Or.inr ⟨rfl, fun q => by obtain ⟨w1, w2, w3⟩ := vs.mp q; first | omega | (rcases ho with u | u; omega; exact u.2 w1)⟩
                · refine ok_iconst 124 rfl rfl (by decide) (ok_goto 125 208 rfl rfl rfl (ok_callSI (M' := M_Mo_one) (as := [_]) 127 rfl rfl ml_X12_192 (s_Mo_one) ⟨Nat.le_of_ble_eq_true rfl, Nat.le_of_ble_eq_true rfl⟩ rfl (Nat.le_of_ble_eq_true rfl) (fun σ' z2 a2 => ?_)))
                  obtain ⟨hs_, a2⟩ := a2
                  rw [hs_]; clear hs_ σ'
                  have q2 : z2 = if 0 < odn W x i then 1 else 0 := by rw [a2]; first | rw [if_pos rfl, if_neg (by omega)] | rw [if_neg (by decide), if_pos (by omega)]
                  have q2b : 0 ≤ z2 ∧ z2 ≤ 1 := by rw [a2]; split <;> omega
                  refine ok_iadd 128 rfl rfl (by first | omega | (simp [up_if]; omega) | (simp [up_if] at *; omega)) (ok_iadd 129 rfl rfl (by first | omega | (simp [up_if]; omega) | (simp [up_if] at *; omega)) (ok_ist6 130 rfl rfl rfl (ok_inc8 131 rfl rfl rfl (by first | omega | (simp [up_if]; omega) | (simp [up_if] at *; omega)) (ok_goto 132 113 rfl rfl rfl ?_))))
                  refine ok_fg [some (vr 0), some (vi s), some (vi b), some (vi k), some (vl x), none, some (vi _), some (vi _), some (vi (i + 1)), none, none, none, none] ⟨rfl, rfl, rfl, rfl, rfl, rfl, rfl, rfl, trivial⟩ (ih2 _ _ (i + 1) ⟨by omega, by omega, by rw [es, ← i3, q1, q2], ?_⟩ (by omega))
                  first
                    | exact Or.inl ⟨rfl, vs.mpr ⟨by rcases ho with u | u; exact u.2; exact absurd u.1 h155, by omega, by omega⟩⟩
                    | exact Or.inr ⟨rfl, fun q => by obtain ⟨w1, w2, w3⟩ := vs.mp q; first | omega | (rcases ho with u | u; omega; exact u.2 w1)⟩
              · refine ok_iconst 116 rfl rfl (by decide) (ok_goto 117 193 rfl rfl rfl (ok_callSI (M' := M_Mo_one) (as := [_]) 119 rfl rfl ml_X12_192 (s_Mo_one) ⟨Nat.le_of_ble_eq_true rfl, Nat.le_of_ble_eq_true rfl⟩ rfl (Nat.le_of_ble_eq_true rfl) (fun σ' z1 a1 => ?_)))
                obtain ⟨hs_, a1⟩ := a1
                rw [hs_]; clear hs_ σ'
                have q1 : z1 = if 0 < evn W x i then 1 else 0 := by rw [a1]; first | rw [if_pos rfl, if_neg (by omega)] | rw [if_neg (by decide), if_pos (by omega)]
                have q1b : 0 ≤ z1 ∧ z1 ≤ 1 := by rw [a1]; split <;> omega
                refine ok_lload 120 rfl rfl rfl (ok_lconst (w := 0) 121 rfl rfl rfl (by decide) (ok_lcmp_le 122 123 207 rfl rfl rfl rfl rfl (fun h199 => ?_) (fun h199 => ?_)))
                · refine ok_iconst 126 rfl rfl (by decide) (ok_callSI (M' := M_Mo_one) (as := [_]) 127 rfl rfl ml_X12_192 (s_Mo_one) ⟨Nat.le_of_ble_eq_true rfl, Nat.le_of_ble_eq_true rfl⟩ rfl (Nat.le_of_ble_eq_true rfl) (fun σ' z2 a2 => ?_))
                  obtain ⟨hs_, a2⟩ := a2
                  rw [hs_]; clear hs_ σ'
                  have q2 : z2 = if 0 < odn W x i then 1 else 0 := by rw [a2]; first | rw [if_pos rfl, if_neg (by omega)] | rw [if_neg (by decide), if_pos (by omega)]
                  have q2b : 0 ≤ z2 ∧ z2 ≤ 1 := by rw [a2]; split <;> omega
                  refine ok_iadd 128 rfl rfl (by first | omega | (simp [up_if]; omega) | (simp [up_if] at *; omega)) (ok_iadd 129 rfl rfl (by first | omega | (simp [up_if]; omega) | (simp [up_if] at *; omega)) (ok_ist6 130 rfl rfl rfl (ok_inc8 131 rfl rfl rfl (by first | omega | (simp [up_if]; omega) | (simp [up_if] at *; omega)) (ok_goto 132 113 rfl rfl rfl ?_))))
                  refine ok_fg [some (vr 0), some (vi s), some (vi b), some (vi k), some (vl x), none, some (vi _), some (vi _), some (vi (i + 1)), none, none, none, none] ⟨rfl, rfl, rfl, rfl, rfl, rfl, rfl, rfl, trivial⟩ (ih2 _ _ (i + 1) ⟨by omega, by omega, by rw [es, ← i3, q1, q2], ?_⟩ (by omega))
                  first
                    | exact Or.inl ⟨rfl, vs.mpr ⟨by rcases ho with u | u; exact u.2; exact absurd u.1 h155, by omega, by omega⟩⟩
                    | exact Or.inr ⟨rfl, fun q => by obtain ⟨w1, w2, w3⟩ := vs.mp q; first | omega | (rcases ho with u | u; omega; exact u.2 w1)⟩
                · refine ok_iconst 124 rfl rfl (by decide) (ok_goto 125 208 rfl rfl rfl (ok_callSI (M' := M_Mo_one) (as := [_]) 127 rfl rfl ml_X12_192 (s_Mo_one) ⟨Nat.le_of_ble_eq_true rfl, Nat.le_of_ble_eq_true rfl⟩ rfl (Nat.le_of_ble_eq_true rfl) (fun σ' z2 a2 => ?_)))
                  obtain ⟨hs_, a2⟩ := a2
                  rw [hs_]; clear hs_ σ'
                  have q2 : z2 = if 0 < odn W x i then 1 else 0 := by rw [a2]; first | rw [if_pos rfl, if_neg (by omega)] | rw [if_neg (by decide), if_pos (by omega)]
                  have q2b : 0 ≤ z2 ∧ z2 ≤ 1 := by rw [a2]; split <;> omega
                  refine ok_iadd 128 rfl rfl (by first | omega | (simp [up_if]; omega) | (simp [up_if] at *; omega)) (ok_iadd 129 rfl rfl (by first | omega | (simp [up_if]; omega) | (simp [up_if] at *; omega)) (ok_ist6 130 rfl rfl rfl (ok_inc8 131 rfl rfl rfl (by first | omega | (simp [up_if]; omega) | (simp [up_if] at *; omega)) (ok_goto 132 113 rfl rfl rfl ?_))))
                  refine ok_fg [some (vr 0), some (vi s), some (vi b), some (vi k), some (vl x), none, some (vi _), some (vi _), some (vi (i + 1)), none, none, none, none] ⟨rfl, rfl, rfl, rfl, rfl, rfl, rfl, rfl, trivial⟩ (ih2 _ _ (i + 1) ⟨by omega, by omega, by rw [es, ← i3, q1, q2], ?_⟩ (by omega))
                  first
                    | exact Or.inl ⟨rfl, vs.mpr ⟨by rcases ho with u | u; exact u.2; exact absurd u.1 h155, by omega, by omega⟩⟩
                    | exact Or.inr ⟨rfl, fun q => by obtain ⟨w1, w2, w3⟩ := vs.mp q; first | omega | (rcases ho with u | u; omega; exact u.2 w1)⟩
            · refine ok_lload 103 rfl rfl rfl (ok_lconst (w := 0) 104 rfl rfl rfl (by decide) (ok_lcmp_lt 105 106 176 rfl rfl rfl rfl rfl (fun h168 => ?_) (fun h168 => ?_)))
              · refine ok_iconst 109 rfl rfl (by decide) (ok_ist7 110 rfl rfl rfl (ok_iload 111 rfl rfl rfl (ok_lload 112 rfl rfl rfl (ok_lconst (w := 0) 113 rfl rfl rfl (by decide) (ok_lcmp_le 114 115 192 rfl rfl rfl rfl rfl (fun h184 => ?_) (fun h184 => ?_))))))
                · refine ok_iconst 118 rfl rfl (by decide) (ok_callSI (M' := M_Mo_one) (as := [_]) 119 rfl rfl ml_X12_192 (s_Mo_one) ⟨Nat.le_of_ble_eq_true rfl, Nat.le_of_ble_eq_true rfl⟩ rfl (Nat.le_of_ble_eq_true rfl) (fun σ' z1 a1 => ?_))
                  obtain ⟨hs_, a1⟩ := a1
                  rw [hs_]; clear hs_ σ'
                  have q1 : z1 = if 0 < evn W x i then 1 else 0 := by rw [a1]; first | rw [if_pos rfl, if_neg (by omega)] | rw [if_neg (by decide), if_pos (by omega)]
                  have q1b : 0 ≤ z1 ∧ z1 ≤ 1 := by rw [a1]; split <;> omega
                  refine ok_lload 120 rfl rfl rfl (ok_lconst (w := 0) 121 rfl rfl rfl (by decide) (ok_lcmp_le 122 123 207 rfl rfl rfl rfl rfl (fun h199 => ?_) (fun h199 => ?_)))
                  · refine ok_iconst 126 rfl rfl (by decide) (ok_callSI (M' := M_Mo_one) (as := [_]) 127 rfl rfl ml_X12_192 (s_Mo_one) ⟨Nat.le_of_ble_eq_true rfl, Nat.le_of_ble_eq_true rfl⟩ rfl (Nat.le_of_ble_eq_true rfl) (fun σ' z2 a2 => ?_))
                    obtain ⟨hs_, a2⟩ := a2
                    rw [hs_]; clear hs_ σ'
                    have q2 : z2 = if 0 < odn W x i then 1 else 0 := by rw [a2]; first | rw [if_pos rfl, if_neg (by omega)] | rw [if_neg (by decide), if_pos (by omega)]
                    have q2b : 0 ≤ z2 ∧ z2 ≤ 1 := by rw [a2]; split <;> omega
                    refine ok_iadd 128 rfl rfl (by first | omega | (simp [up_if]; omega) | (simp [up_if] at *; omega)) (ok_iadd 129 rfl rfl (by first | omega | (simp [up_if]; omega) | (simp [up_if] at *; omega)) (ok_ist6 130 rfl rfl rfl (ok_inc8 131 rfl rfl rfl (by first | omega | (simp [up_if]; omega) | (simp [up_if] at *; omega)) (ok_goto 132 113 rfl rfl rfl ?_))))
                    refine ok_fg [some (vr 0), some (vi s), some (vi b), some (vi k), some (vl x), none, some (vi _), some (vi _), some (vi (i + 1)), none, none, none, none] ⟨rfl, rfl, rfl, rfl, rfl, rfl, rfl, rfl, trivial⟩ (ih2 _ _ (i + 1) ⟨by omega, by omega, by rw [es, ← i3, q1, q2], ?_⟩ (by omega))
                    first
                      | exact Or.inl ⟨rfl, vs.mpr ⟨by rcases ho with u | u; exact u.2; exact absurd u.1 h155, by omega, by omega⟩⟩
                      | exact Or.inr ⟨rfl, fun q => by obtain ⟨w1, w2, w3⟩ := vs.mp q; first | omega | (rcases ho with u | u; omega; exact u.2 w1)⟩
                  · refine ok_iconst 124 rfl rfl (by decide) (ok_goto 125 208 rfl rfl rfl (ok_callSI (M' := M_Mo_one) (as := [_]) 127 rfl rfl ml_X12_192 (s_Mo_one) ⟨Nat.le_of_ble_eq_true rfl, Nat.le_of_ble_eq_true rfl⟩ rfl (Nat.le_of_ble_eq_true rfl) (fun σ' z2 a2 => ?_)))
                    obtain ⟨hs_, a2⟩ := a2
                    rw [hs_]; clear hs_ σ'
                    have q2 : z2 = if 0 < odn W x i then 1 else 0 := by rw [a2]; first | rw [if_pos rfl, if_neg (by omega)] | rw [if_neg (by decide), if_pos (by omega)]
                    have q2b : 0 ≤ z2 ∧ z2 ≤ 1 := by rw [a2]; split <;> omega
                    refine ok_iadd 128 rfl rfl (by first | omega | (simp [up_if]; omega) | (simp [up_if] at *; omega)) (ok_iadd 129 rfl rfl (by first | omega | (simp [up_if]; omega) | (simp [up_if] at *; omega)) (ok_ist6 130 rfl rfl rfl (ok_inc8 131 rfl rfl rfl (by first | omega | (simp [up_if]; omega) | (simp [up_if] at *; omega)) (ok_goto 132 113 rfl rfl rfl ?_))))
                    refine ok_fg [some (vr 0), some (vi s), some (vi b), some (vi k), some (vl x), none, some (vi _), some (vi _), some (vi (i + 1)), none, none, none, none] ⟨rfl, rfl, rfl, rfl, rfl, rfl, rfl, rfl, trivial⟩ (ih2 _ _ (i + 1) ⟨by omega, by omega, by rw [es, ← i3, q1, q2], ?_⟩ (by omega))
                    first
                      | exact Or.inl ⟨rfl, vs.mpr ⟨by rcases ho with u | u; exact u.2; exact absurd u.1 h155, by omega, by omega⟩⟩
                      | exact Or.inr ⟨rfl, fun q => by obtain ⟨w1, w2, w3⟩ := vs.mp q; first | omega | (rcases ho with u | u; omega; exact u.2 w1)⟩
                · refine ok_iconst 116 rfl rfl (by decide) (ok_goto 117 193 rfl rfl rfl (ok_callSI (M' := M_Mo_one) (as := [_]) 119 rfl rfl ml_X12_192 (s_Mo_one) ⟨Nat.le_of_ble_eq_true rfl, Nat.le_of_ble_eq_true rfl⟩ rfl (Nat.le_of_ble_eq_true rfl) (fun σ' z1 a1 => ?_)))
                  obtain ⟨hs_, a1⟩ := a1
                  rw [hs_]; clear hs_ σ'
                  have q1 : z1 = if 0 < evn W x i then 1 else 0 := by rw [a1]; first | rw [if_pos rfl, if_neg (by omega)] | rw [if_neg (by decide), if_pos (by omega)]
                  have q1b : 0 ≤ z1 ∧ z1 ≤ 1 := by rw [a1]; split <;> omega
                  refine ok_lload 120 rfl rfl rfl (ok_lconst (w := 0) 121 rfl rfl rfl (by decide) (ok_lcmp_le 122 123 207 rfl rfl rfl rfl rfl (fun h199 => ?_) (fun h199 => ?_)))
                  · refine ok_iconst 126 rfl rfl (by decide) (ok_callSI (M' := M_Mo_one) (as := [_]) 127 rfl rfl ml_X12_192 (s_Mo_one) ⟨Nat.le_of_ble_eq_true rfl, Nat.le_of_ble_eq_true rfl⟩ rfl (Nat.le_of_ble_eq_true rfl) (fun σ' z2 a2 => ?_))
                    obtain ⟨hs_, a2⟩ := a2
                    rw [hs_]; clear hs_ σ'
                    have q2 : z2 = if 0 < odn W x i then 1 else 0 := by rw [a2]; first | rw [if_pos rfl, if_neg (by omega)] | rw [if_neg (by decide), if_pos (by omega)]
                    have q2b : 0 ≤ z2 ∧ z2 ≤ 1 := by rw [a2]; split <;> omega
                    refine ok_iadd 128 rfl rfl (by first | omega | (simp [up_if]; omega) | (simp [up_if] at *; omega)) (ok_iadd 129 rfl rfl (by first | omega | (simp [up_if]; omega) | (simp [up_if] at *; omega)) (ok_ist6 130 rfl rfl rfl (ok_inc8 131 rfl rfl rfl (by first | omega | (simp [up_if]; omega) | (simp [up_if] at *; omega)) (ok_goto 132 113 rfl rfl rfl ?_))))
                    refine ok_fg [some (vr 0), some (vi s), some (vi b), some (vi k), some (vl x), none, some (vi _), some (vi _), some (vi (i + 1)), none, none, none, none] ⟨rfl, rfl, rfl, rfl, rfl, rfl, rfl, rfl, trivial⟩ (ih2 _ _ (i + 1) ⟨by omega, by omega, by rw [es, ← i3, q1, q2], ?_⟩ (by omega))
                    first
                      | exact Or.inl ⟨rfl, vs.mpr ⟨by rcases ho with u | u; exact u.2; exact absurd u.1 h155, by omega, by omega⟩⟩
                      | exact Or.inr ⟨rfl, fun q => by obtain ⟨w1, w2, w3⟩ := vs.mp q; first | omega | (rcases ho with u | u; omega; exact u.2 w1)⟩
                  · refine ok_iconst 124 rfl rfl (by decide) (ok_goto 125 208 rfl rfl rfl (ok_callSI (M' := M_Mo_one) (as := [_]) 127 rfl rfl ml_X12_192 (s_Mo_one) ⟨Nat.le_of_ble_eq_true rfl, Nat.le_of_ble_eq_true rfl⟩ rfl (Nat.le_of_ble_eq_true rfl) (fun σ' z2 a2 => ?_)))
                    obtain ⟨hs_, a2⟩ := a2
                    rw [hs_]; clear hs_ σ'
                    have q2 : z2 = if 0 < odn W x i then 1 else 0 := by rw [a2]; first | rw [if_pos rfl, if_neg (by omega)] | rw [if_neg (by decide), if_pos (by omega)]
                    have q2b : 0 ≤ z2 ∧ z2 ≤ 1 := by rw [a2]; split <;> omega
                    refine ok_iadd 128 rfl rfl (by first | omega | (simp [up_if]; omega) | (simp [up_if] at *; omega)) (ok_iadd 129 rfl rfl (by first | omega | (simp [up_if]; omega) | (simp [up_if] at *; omega)) (ok_ist6 130 rfl rfl rfl (ok_inc8 131 rfl rfl rfl (by first | omega | (simp [up_if]; omega) | (simp [up_if] at *; omega)) (ok_goto 132 113 rfl rfl rfl ?_))))
                    refine ok_fg [some (vr 0), some (vi s), some (vi b), some (vi k), some (vl x), none, some (vi _), some (vi _), some (vi (i + 1)), none, none, none, none] ⟨rfl, rfl, rfl, rfl, rfl, rfl, rfl, rfl, trivial⟩ (ih2 _ _ (i + 1) ⟨by omega, by omega, by rw [es, ← i3, q1, q2], ?_⟩ (by omega))
                    first
                      | exact Or.inl ⟨rfl, vs.mpr ⟨by rcases ho with u | u; exact u.2; exact absurd u.1 h155, by omega, by omega⟩⟩
                      | exact Or.inr ⟨rfl, fun q => by obtain ⟨w1, w2, w3⟩ := vs.mp q; first | omega | (rcases ho with u | u; omega; exact u.2 w1)⟩
              · refine ok_iconst 107 rfl rfl (by decide) (ok_goto 108 177 rfl rfl rfl (ok_ist7 110 rfl rfl rfl (ok_iload 111 rfl rfl rfl (ok_lload 112 rfl rfl rfl (ok_lconst (w := 0) 113 rfl rfl rfl (by decide) (ok_lcmp_le 114 115 192 rfl rfl rfl rfl rfl (fun h184 => ?_) (fun h184 => ?_)))))))
                · refine ok_iconst 118 rfl rfl (by decide) (ok_callSI (M' := M_Mo_one) (as := [_]) 119 rfl rfl ml_X12_192 (s_Mo_one) ⟨Nat.le_of_ble_eq_true rfl, Nat.le_of_ble_eq_true rfl⟩ rfl (Nat.le_of_ble_eq_true rfl) (fun σ' z1 a1 => ?_))
                  obtain ⟨hs_, a1⟩ := a1
                  rw [hs_]; clear hs_ σ'
                  have q1 : z1 = if 0 < evn W x i then 1 else 0 := by rw [a1]; first | rw [if_pos rfl, if_neg (by omega)] | rw [if_neg (by decide), if_pos (by omega)]
                  have q1b : 0 ≤ z1 ∧ z1 ≤ 1 := by rw [a1]; split <;> omega
                  refine ok_lload 120 rfl rfl rfl (ok_lconst (w := 0) 121 rfl rfl rfl (by decide) (ok_lcmp_le 122 123 207 rfl rfl rfl rfl rfl (fun h199 => ?_) (fun h199 => ?_)))
                  · refine ok_iconst 126 rfl rfl (by decide) (ok_callSI (M' := M_Mo_one) (as := [_]) 127 rfl rfl ml_X12_192 (s_Mo_one) ⟨Nat.le_of_ble_eq_true rfl, Nat.le_of_ble_eq_true rfl⟩ rfl (Nat.le_of_ble_eq_true rfl) (fun σ' z2 a2 => ?_))
                    obtain ⟨hs_, a2⟩ := a2
                    rw [hs_]; clear hs_ σ'
                    have q2 : z2 = if 0 < odn W x i then 1 else 0 := by rw [a2]; first | rw [if_pos rfl, if_neg (by omega)] | rw [if_neg (by decide), if_pos (by omega)]
                    have q2b : 0 ≤ z2 ∧ z2 ≤ 1 := by rw [a2]; split <;> omega
                    refine ok_iadd 128 rfl rfl (by first | omega | (simp [up_if]; omega) | (simp [up_if] at *; omega)) (ok_iadd 129 rfl rfl (by first | omega | (simp [up_if]; omega) | (simp [up_if] at *; omega)) (ok_ist6 130 rfl rfl rfl (ok_inc8 131 rfl rfl rfl (by first | omega | (simp [up_if]; omega) | (simp [up_if] at *; omega)) (ok_goto 132 113 rfl rfl rfl ?_))))
                    refine ok_fg [some (vr 0), some (vi s), some (vi b), some (vi k), some (vl x), none, some (vi _), some (vi _), some (vi (i + 1)), none, none, none, none] ⟨rfl, rfl, rfl, rfl, rfl, rfl, rfl, rfl, trivial⟩ (ih2 _ _ (i + 1) ⟨by omega, by omega, by rw [es, ← i3, q1, q2], ?_⟩ (by omega))
                    first
                      | exact Or.inl ⟨rfl, vs.mpr ⟨by rcases ho with u | u; exact u.2; exact absurd u.1 h155, by omega, by omega⟩⟩
                      | exact Or.inr ⟨rfl, fun q => by obtain ⟨w1, w2, w3⟩ := vs.mp q; first | omega | (rcases ho with u | u; omega; exact u.2 w1)⟩
                  · refine ok_iconst 124 rfl rfl (by decide) (ok_goto 125 208 rfl rfl rfl (ok_callSI (M' := M_Mo_one) (as := [_]) 127 rfl rfl ml_X12_192 (s_Mo_one) ⟨Nat.le_of_ble_eq_true rfl, Nat.le_of_ble_eq_true rfl⟩ rfl (Nat.le_of_ble_eq_true rfl) (fun σ' z2 a2 => ?_)))
                    obtain ⟨hs_, a2⟩ := a2
                    rw [hs_]; clear hs_ σ'
                    have q2 : z2 = if 0 < odn W x i then 1 else 0 := by rw [a2]; first | rw [if_pos rfl, if_neg (by omega)] | rw [if_neg (by decide), if_pos (by omega)]
                    have q2b : 0 ≤ z2 ∧ z2 ≤ 1 := by rw [a2]; split <;> omega
                    refine ok_iadd 128 rfl rfl (by first | omega | (simp [up_if]; omega) | (simp [up_if] at *; omega)) (ok_iadd 129 rfl rfl (by first | omega | (simp [up_if]; omega) | (simp [up_if] at *; omega)) (ok_ist6 130 rfl rfl rfl (ok_inc8 131 rfl rfl rfl (by first | omega | (simp [up_if]; omega) | (simp [up_if] at *; omega)) (ok_goto 132 113 rfl rfl rfl ?_))))
                    refine ok_fg [some (vr 0), some (vi s), some (vi b), some (vi k), some (vl x), none, some (vi _), some (vi _), some (vi (i + 1)), none, none, none, none] ⟨rfl, rfl, rfl, rfl, rfl, rfl, rfl, rfl, trivial⟩ (ih2 _ _ (i + 1) ⟨by omega, by omega, by rw [es, ← i3, q1, q2], ?_⟩ (by omega))
                    first
                      | exact Or.inl ⟨rfl, vs.mpr ⟨by rcases ho with u | u; exact u.2; exact absurd u.1 h155, by omega, by omega⟩⟩
                      | exact Or.inr ⟨rfl, fun q => by obtain ⟨w1, w2, w3⟩ := vs.mp q; first | omega | (rcases ho with u | u; omega; exact u.2 w1)⟩
                · refine ok_iconst 116 rfl rfl (by decide) (ok_goto 117 193 rfl rfl rfl (ok_callSI (M' := M_Mo_one) (as := [_]) 119 rfl rfl ml_X12_192 (s_Mo_one) ⟨Nat.le_of_ble_eq_true rfl, Nat.le_of_ble_eq_true rfl⟩ rfl (Nat.le_of_ble_eq_true rfl) (fun σ' z1 a1 => ?_)))
                  obtain ⟨hs_, a1⟩ := a1
                  rw [hs_]; clear hs_ σ'
                  have q1 : z1 = if 0 < evn W x i then 1 else 0 := by rw [a1]; first | rw [if_pos rfl, if_neg (by omega)] | rw [if_neg (by decide), if_pos (by omega)]
                  have q1b : 0 ≤ z1 ∧ z1 ≤ 1 := by rw [a1]; split <;> omega
                  refine ok_lload 120 rfl rfl rfl (ok_lconst (w := 0) 121 rfl rfl rfl (by decide) (ok_lcmp_le 122 123 207 rfl rfl rfl rfl rfl (fun h199 => ?_) (fun h199 => ?_)))
                  · refine ok_iconst 126 rfl rfl (by decide) (ok_callSI (M' := M_Mo_one) (as := [_]) 127 rfl rfl ml_X12_192 (s_Mo_one) ⟨Nat.le_of_ble_eq_true rfl, Nat.le_of_ble_eq_true rfl⟩ rfl (Nat.le_of_ble_eq_true rfl) (fun σ' z2 a2 => ?_))
                    obtain ⟨hs_, a2⟩ := a2
                    rw [hs_]; clear hs_ σ'
                    have q2 : z2 = if 0 < odn W x i then 1 else 0 := by rw [a2]; first | rw [if_pos rfl, if_neg (by omega)] | rw [if_neg (by decide), if_pos (by omega)]
                    have q2b : 0 ≤ z2 ∧ z2 ≤ 1 := by rw [a2]; split <;> omega
                    refine ok_iadd 128 rfl rfl (by first | omega | (simp [up_if]; omega) | (simp [up_if] at *; omega)) (ok_iadd 129 rfl rfl (by first | omega | (simp [up_if]; omega) | (simp [up_if] at *; omega)) (ok_ist6 130 rfl rfl rfl (ok_inc8 131 rfl rfl rfl (by first | omega | (simp [up_if]; omega) | (simp [up_if] at *; omega)) (ok_goto 132 113 rfl rfl rfl ?_))))
                    refine ok_fg [some (vr 0), some (vi s), some (vi b), some (vi k), some (vl x), none, some (vi _), some (vi _), some (vi (i + 1)), none, none, none, none] ⟨rfl, rfl, rfl, rfl, rfl, rfl, rfl, rfl, trivial⟩ (ih2 _ _ (i + 1) ⟨by omega, by omega, by rw [es, ← i3, q1, q2], ?_⟩ (by omega))
                    first
                      | exact Or.inl ⟨rfl, vs.mpr ⟨by rcases ho with u | u; exact u.2; exact absurd u.1 h155, by omega, by omega⟩⟩
                      | exact Or.inr ⟨rfl, fun q => by obtain ⟨w1, w2, w3⟩ := vs.mp q; first | omega | (rcases ho with u | u; omega; exact u.2 w1)⟩
                  · refine ok_iconst 124 rfl rfl (by decide) (ok_goto 125 208 rfl rfl rfl (ok_callSI (M' := M_Mo_one) (as := [_]) 127 rfl rfl ml_X12_192 (s_Mo_one) ⟨Nat.le_of_ble_eq_true rfl, Nat.le_of_ble_eq_true rfl⟩ rfl (Nat.le_of_ble_eq_true rfl) (fun σ' z2 a2 => ?_)))
                    obtain ⟨hs_, a2⟩ := a2
                    rw [hs_]; clear hs_ σ'
                    have q2 : z2 = if 0 < odn W x i then 1 else 0 := by rw [a2]; first | rw [if_pos rfl, if_neg (by omega)] | rw [if_neg (by decide), if_pos (by omega)]
                    have q2b : 0 ≤ z2 ∧ z2 ≤ 1 := by rw [a2]; split <;> omega
                    refine ok_iadd 128 rfl rfl (by first | omega | (simp [up_if]; omega) | (simp [up_if] at *; omega)) (ok_iadd 129 rfl rfl (by first | omega | (simp [up_if]; omega) | (simp [up_if] at *; omega)) (ok_ist6 130 rfl rfl rfl (ok_inc8 131 rfl rfl rfl (by first | omega | (simp [up_if]; omega) | (simp [up_if] at *; omega)) (ok_goto 132 113 rfl rfl rfl ?_))))
                    refine ok_fg [some (vr 0), some (vi s), some (vi b), some (vi k), some (vl x), none, some (vi _), some (vi _), some (vi (i + 1)), none, none, none, none] ⟨rfl, rfl, rfl, rfl, rfl, rfl, rfl, rfl, trivial⟩ (ih2 _ _ (i + 1) ⟨by omega, by omega, by rw [es, ← i3, q1, q2], ?_⟩ (by omega))
                    first
                      | exact Or.inl ⟨rfl, vs.mpr ⟨by rcases ho with u | u; exact u.2; exact absurd u.1 h155, by omega, by omega⟩⟩
                      | exact Or.inr ⟨rfl, fun q => by obtain ⟨w1, w2, w3⟩ := vs.mp q; first | omega | (rcases ho with u | u; omega; exact u.2 w1)⟩
      refine ok_iload_n 40 rfl rfl rfl (ok_bipush 41 rfl rfl (by decide) (by decide) (ok_icmp_ge 42 246 rfl rfl rfl (fun h67 => ?_) (fun h67 => ?_)))
      · refine ok_iload_n 145 rfl rfl rfl (ok_iret 146 rfl rfl rfl ?_)
        exact ⟨_, rfl, rfl, Or.inr (Or.inr ⟨e3, by rw [show (6 : Int) = k by omega]; exact k3⟩)⟩
      · refine ok_iload_n 43 rfl rfl rfl (ok_iconst 44 rfl rfl (by decide) (ok_icmp_ge 45 85 rfl rfl rfl (fun h72 => ?_) (fun h72 => ?_)))
        · refine ok_aload_n 52 rfl rfl rfl (ok_iload_n 53 rfl rfl rfl (ok_iconst 54 rfl rfl (by decide) (ok_iconst 55 rfl rfl (by decide) (ok_callVL (M' := M_Mo_lies) (as := [_, _, _]) 56 rfl rfl ml_X12_314 (t_Mo_lies hB ⟨t1, t2⟩ e3 ⟨by omega, by omega⟩ ⟨by omega, by omega⟩) rfl rfl (Nat.le_of_ble_eq_true rfl) ⟨Nat.le_of_ble_eq_true rfl, Nat.le_of_ble_eq_true rfl⟩ rfl (Nat.le_of_ble_eq_true rfl) (fun σ' y hy => ?_)))))
          obtain ⟨hs_, hy⟩ := hy
          rw [hs_]; clear hs_ σ'
          refine ok_aload_n 57 rfl rfl rfl (ok_iload_n 58 rfl rfl rfl (ok_iload_n 59 rfl rfl rfl (ok_iconst 60 rfl rfl (by decide) (ok_isub 61 rfl rfl (by first | omega | (simp [up_if]; omega) | (simp [up_if] at *; omega)) (ok_iconst 62 rfl rfl (by decide) (ok_callVL (M' := M_Mo_lies) (as := [_, _, _]) 63 rfl rfl ml_X12_314 (t_Mo_lies hB ⟨t1, t2⟩ e3 ⟨by omega, by omega⟩ ⟨by omega, by omega⟩) rfl rfl (Nat.le_of_ble_eq_true rfl) ⟨Nat.le_of_ble_eq_true rfl, Nat.le_of_ble_eq_true rfl⟩ rfl (Nat.le_of_ble_eq_true rfl) (fun σ' y9 h9 => ?_)))))))
          obtain ⟨hs_, h9⟩ := h9
          rw [hs_]; clear hs_ σ'
          refine ok_lsub 64 rfl rfl (by first | omega | (simp [up_if]; omega) | (simp [up_if] at *; omega)) ?_
          first
            | exact tail _ (by unfold ttK; rw [if_pos (by omega), hy.1, eW]) (by omega) (by omega) (by omega)
            | exact tail _ (by unfold ttK; rw [if_neg (by omega), hy.1, h9.1, eW]) (by omega) (by omega) (by omega)
        · refine ok_aload_n 46 rfl rfl rfl (ok_iload_n 47 rfl rfl rfl (ok_iconst 48 rfl rfl (by decide) (ok_iload_n 49 rfl rfl rfl (ok_callVL (M' := M_Mo_lies) (as := [_, _, _]) 50 rfl rfl ml_X12_314 (t_Mo_lies hB ⟨t1, t2⟩ e3 ⟨by omega, by omega⟩ ⟨by omega, by omega⟩) rfl rfl (Nat.le_of_ble_eq_true rfl) ⟨Nat.le_of_ble_eq_true rfl, Nat.le_of_ble_eq_true rfl⟩ rfl (Nat.le_of_ble_eq_true rfl) (fun σ' y hy => ?_)))))
          obtain ⟨hs_, hy⟩ := hy
          rw [hs_]; clear hs_ σ'
          refine ok_goto 51 102 rfl rfl rfl ?_
          first
            | exact tail _ (by unfold ttK; rw [if_pos (by omega), hy.1, eW]) (by omega) (by omega) (by omega)
            | exact tail _ (by unfold ttK; rw [if_neg (by omega), hy.1, h9.1, eW]) (by omega) (by omega) (by omega)
    · refine ok_aload_n 14 rfl rfl rfl (ok_iload_n 15 rfl rfl rfl (ok_iconst 16 rfl rfl (by decide) (ok_iconst 17 rfl rfl (by decide) (ok_callVI (M' := M_Mo_at) (as := [_, _, _]) 18 rfl rfl ml_X12_107 (s_Mo_at hB ⟨t1, t2⟩ ⟨by omega, by omega⟩ ⟨by omega, by omega⟩) rfl rfl (Nat.le_of_ble_eq_true rfl) ⟨Nat.le_of_ble_eq_true rfl, Nat.le_of_ble_eq_true rfl⟩ rfl (Nat.le_of_ble_eq_true rfl) (fun σ' z hz => ?_)))))
      rw [hz.1, hz.2]
      clear hz z σ'
      refine ok_if_le 19 36 rfl rfl rfl (fun h29 => ?_) (fun h29 => ?_)
      · refine ok_iconst 22 rfl rfl (by decide) (ok_callSI (M' := M_Mo_one) (as := [_]) 23 rfl rfl ml_X12_192 (s_Mo_one) ⟨Nat.le_of_ble_eq_true rfl, Nat.le_of_ble_eq_true rfl⟩ rfl (Nat.le_of_ble_eq_true rfl) (fun σ' z1 a1 => ?_))
        obtain ⟨hs_, a1⟩ := a1
        rw [hs_]; clear hs_ σ'
        have q1 : z1 = if 0 < cB σ s 0 0 then 1 else 0 := by rw [a1]; first | rw [if_pos rfl, if_neg (by omega)] | rw [if_neg (by decide), if_pos (by omega)]
        have q1b : 0 ≤ z1 ∧ z1 ≤ 1 := by rw [a1]; split <;> omega
        refine ok_aload_n 24 rfl rfl rfl (ok_iload_n 25 rfl rfl rfl (ok_iconst 26 rfl rfl (by decide) (ok_iconst 27 rfl rfl (by decide) (ok_callVI (M' := M_Mo_at) (as := [_, _, _]) 28 rfl rfl ml_X12_107 (s_Mo_at hB ⟨t1, t2⟩ ⟨by omega, by omega⟩ ⟨by omega, by omega⟩) rfl rfl (Nat.le_of_ble_eq_true rfl) ⟨Nat.le_of_ble_eq_true rfl, Nat.le_of_ble_eq_true rfl⟩ rfl (Nat.le_of_ble_eq_true rfl) (fun σ' z hz => ?_)))))
        rw [hz.1, hz.2]
        clear hz z σ'
        refine ok_if_le 29 54 rfl rfl rfl (fun h47 => ?_) (fun h47 => ?_)
        · refine ok_iconst 32 rfl rfl (by decide) (ok_callSI (M' := M_Mo_one) (as := [_]) 33 rfl rfl ml_X12_192 (s_Mo_one) ⟨Nat.le_of_ble_eq_true rfl, Nat.le_of_ble_eq_true rfl⟩ rfl (Nat.le_of_ble_eq_true rfl) (fun σ' z2 a2 => ?_))
          obtain ⟨hs_, a2⟩ := a2
          rw [hs_]; clear hs_ σ'
          have q2 : z2 = if 0 < cB σ s 0 1 then 1 else 0 := by rw [a2]; first | rw [if_pos rfl, if_neg (by omega)] | rw [if_neg (by decide), if_pos (by omega)]
          have q2b : 0 ≤ z2 ∧ z2 ≤ 1 := by rw [a2]; split <;> omega
          refine ok_iadd 34 rfl rfl (by first | omega | (simp [up_if]; omega) | (simp [up_if] at *; omega)) (ok_iret 35 rfl rfl rfl ?_)
          exact ⟨_, rfl, rfl, Or.inr (Or.inl ⟨by omega, by rw [q1, q2]⟩)⟩
        · refine ok_iconst 30 rfl rfl (by decide) (ok_goto 31 55 rfl rfl rfl (ok_callSI (M' := M_Mo_one) (as := [_]) 33 rfl rfl ml_X12_192 (s_Mo_one) ⟨Nat.le_of_ble_eq_true rfl, Nat.le_of_ble_eq_true rfl⟩ rfl (Nat.le_of_ble_eq_true rfl) (fun σ' z2 a2 => ?_)))
          obtain ⟨hs_, a2⟩ := a2
          rw [hs_]; clear hs_ σ'
          have q2 : z2 = if 0 < cB σ s 0 1 then 1 else 0 := by rw [a2]; first | rw [if_pos rfl, if_neg (by omega)] | rw [if_neg (by decide), if_pos (by omega)]
          have q2b : 0 ≤ z2 ∧ z2 ≤ 1 := by rw [a2]; split <;> omega
          refine ok_iadd 34 rfl rfl (by first | omega | (simp [up_if]; omega) | (simp [up_if] at *; omega)) (ok_iret 35 rfl rfl rfl ?_)
          exact ⟨_, rfl, rfl, Or.inr (Or.inl ⟨by omega, by rw [q1, q2]⟩)⟩
      · refine ok_iconst 20 rfl rfl (by decide) (ok_goto 21 37 rfl rfl rfl (ok_callSI (M' := M_Mo_one) (as := [_]) 23 rfl rfl ml_X12_192 (s_Mo_one) ⟨Nat.le_of_ble_eq_true rfl, Nat.le_of_ble_eq_true rfl⟩ rfl (Nat.le_of_ble_eq_true rfl) (fun σ' z1 a1 => ?_)))
        obtain ⟨hs_, a1⟩ := a1
        rw [hs_]; clear hs_ σ'
        have q1 : z1 = if 0 < cB σ s 0 0 then 1 else 0 := by rw [a1]; first | rw [if_pos rfl, if_neg (by omega)] | rw [if_neg (by decide), if_pos (by omega)]
        have q1b : 0 ≤ z1 ∧ z1 ≤ 1 := by rw [a1]; split <;> omega
        refine ok_aload_n 24 rfl rfl rfl (ok_iload_n 25 rfl rfl rfl (ok_iconst 26 rfl rfl (by decide) (ok_iconst 27 rfl rfl (by decide) (ok_callVI (M' := M_Mo_at) (as := [_, _, _]) 28 rfl rfl ml_X12_107 (s_Mo_at hB ⟨t1, t2⟩ ⟨by omega, by omega⟩ ⟨by omega, by omega⟩) rfl rfl (Nat.le_of_ble_eq_true rfl) ⟨Nat.le_of_ble_eq_true rfl, Nat.le_of_ble_eq_true rfl⟩ rfl (Nat.le_of_ble_eq_true rfl) (fun σ' z hz => ?_)))))
        rw [hz.1, hz.2]
        clear hz z σ'
        refine ok_if_le 29 54 rfl rfl rfl (fun h47 => ?_) (fun h47 => ?_)
        · refine ok_iconst 32 rfl rfl (by decide) (ok_callSI (M' := M_Mo_one) (as := [_]) 33 rfl rfl ml_X12_192 (s_Mo_one) ⟨Nat.le_of_ble_eq_true rfl, Nat.le_of_ble_eq_true rfl⟩ rfl (Nat.le_of_ble_eq_true rfl) (fun σ' z2 a2 => ?_))
          obtain ⟨hs_, a2⟩ := a2
          rw [hs_]; clear hs_ σ'
          have q2 : z2 = if 0 < cB σ s 0 1 then 1 else 0 := by rw [a2]; first | rw [if_pos rfl, if_neg (by omega)] | rw [if_neg (by decide), if_pos (by omega)]
          have q2b : 0 ≤ z2 ∧ z2 ≤ 1 := by rw [a2]; split <;> omega
          refine ok_iadd 34 rfl rfl (by first | omega | (simp [up_if]; omega) | (simp [up_if] at *; omega)) (ok_iret 35 rfl rfl rfl ?_)
          exact ⟨_, rfl, rfl, Or.inr (Or.inl ⟨by omega, by rw [q1, q2]⟩)⟩
        · refine ok_iconst 30 rfl rfl (by decide) (ok_goto 31 55 rfl rfl rfl (ok_callSI (M' := M_Mo_one) (as := [_]) 33 rfl rfl ml_X12_192 (s_Mo_one) ⟨Nat.le_of_ble_eq_true rfl, Nat.le_of_ble_eq_true rfl⟩ rfl (Nat.le_of_ble_eq_true rfl) (fun σ' z2 a2 => ?_)))
          obtain ⟨hs_, a2⟩ := a2
          rw [hs_]; clear hs_ σ'
          have q2 : z2 = if 0 < cB σ s 0 1 then 1 else 0 := by rw [a2]; first | rw [if_pos rfl, if_neg (by omega)] | rw [if_neg (by decide), if_pos (by omega)]
          have q2b : 0 ≤ z2 ∧ z2 ≤ 1 := by rw [a2]; split <;> omega
          refine ok_iadd 34 rfl rfl (by first | omega | (simp [up_if]; omega) | (simp [up_if] at *; omega)) (ok_iret 35 rfl rfl rfl ?_)
          exact ⟨_, rfl, rfl, Or.inr (Or.inl ⟨by omega, by rw [q1, q2]⟩)⟩
  · refine ok_iconst 6 rfl rfl (by decide) (ok_iret 7 rfl rfl rfl ?_)
    exact ⟨_, rfl, rfl, Or.inl ⟨by omega, rfl⟩⟩

/-- the nine cells by the even and the odd choices -/
def eoI (W0 W : Int → Int → Int) (e o : Int → Int) : Prop := W0 0 0 = e 0 + o 0 + W 0 0 ∧ W0 0 1 = e 1 + o 1 + W 0 1 ∧ W0 0 2 = e 2 + o 2 + W 0 2 ∧ W0 1 0 = e 2 + o 1 + W 1 0 ∧ W0 1 1 = e 0 + o 2 + W 1 1 ∧ W0 1 2 = e 1 + o 0 + W 1 2 ∧ W0 2 0 = e 1 + o 2 + W 2 0 ∧ W0 2 1 = e 2 + o 0 + W 2 1 ∧ W0 2 2 = e 0 + o 1 + W 2 2
def fwI (n : Int) (W0 W : Int → Int → Int) (P : Int) (e o : Int → Int) : Prop := (n = 1 → P + (if 0 < W 0 0 then 1 else 0) = 1) ∧ (n = 2 → P + (if 0 < W 0 0 then 1 else 0) + (if 0 < W 0 1 then 1 else 0) = (if 0 < W0 0 0 then 1 else 0) + (if 0 < W0 0 1 then 1 else 0)) ∧ (n = 3 → eoI W0 W e o)
def adE (ch e o e' o' : Int → Int) (w : Int) : Prop := (ch 1 = (ch 0 + 1) % 3 ∧ (∀ k, 0 ≤ k → k < 3 → e' k = if k = ch 0 then e k + w else e k) ∧ ∀ k, 0 ≤ k → k < 3 → o' k = o k) ∨ (ch 1 ≠ (ch 0 + 1) % 3 ∧ (∀ k, 0 ≤ k → k < 3 → o' k = if k = ch 0 then o k + w else o k) ∧ ∀ k, 0 ≤ k → k < 3 → e' k = e k)
theorem eoI_s {W0 W W' : Int → Int → Int} {e o e' o' ch : Int → Int} {w : Int} (h : eoI W0 W e o) (hp : perm 3 ch) (h4 : ∀ i j, 0 ≤ i → i < 3 → 0 ≤ j → j < 3 → W' i j = W i j - (if j = ch i then w else 0)) (ha : adE ch e o e' o' w) : eoI W0 W' e' o' := by
  obtain ⟨g00, g01, g02, g10, g11, g12, g20, g21, g22⟩ := h
  have p0 := hp.1 0 (by decide) (by decide)
  have p1 := hp.1 1 (by decide) (by decide)
  have p2 := hp.1 2 (by decide) (by decide)
  have d01 := hp.2 0 1 (by decide) (by decide) (by decide)
  have d02 := hp.2 0 2 (by decide) (by decide) (by decide)
  have d12 := hp.2 1 2 (by decide) (by decide) (by decide)
  have yes : ∀ i j, 0 ≤ i → i < 3 → 0 ≤ j → j < 3 → ch i = j → W' i j = W i j - w := fun i j a b c d q => by rw [h4 i j a b c d, if_pos q.symm]
  have no : ∀ i j, 0 ≤ i → i < 3 → 0 ≤ j → j < 3 → ch i ≠ j → W' i j = W i j := fun i j a b c d q => by rw [h4 i j a b c d, if_neg (fun x => q x.symm), Int.sub_zero]
  have cs : (ch 0 = 0 ∧ ch 1 = 1 ∧ ch 2 = 2) ∨ (ch 0 = 0 ∧ ch 1 = 2 ∧ ch 2 = 1) ∨ (ch 0 = 1 ∧ ch 1 = 0 ∧ ch 2 = 2) ∨ (ch 0 = 1 ∧ ch 1 = 2 ∧ ch 2 = 0) ∨ (ch 0 = 2 ∧ ch 1 = 0 ∧ ch 2 = 1) ∨ (ch 0 = 2 ∧ ch 1 = 1 ∧ ch 2 = 0) := by omega
  clear p0 p1 p2 d01 d02 d12
  rcases cs with ⟨c0, c1, c2⟩ | ⟨c0, c1, c2⟩ | ⟨c0, c1, c2⟩ | ⟨c0, c1, c2⟩ | ⟨c0, c1, c2⟩ | ⟨c0, c1, c2⟩
  · have w00 := yes 0 0 (by decide) (by decide) (by decide) (by decide) (by omega)
    have w01 := no 0 1 (by decide) (by decide) (by decide) (by decide) (by omega)
    have w02 := no 0 2 (by decide) (by decide) (by decide) (by decide) (by omega)
    have w10 := no 1 0 (by decide) (by decide) (by decide) (by decide) (by omega)
    have w11 := yes 1 1 (by decide) (by decide) (by decide) (by decide) (by omega)
    have w12 := no 1 2 (by decide) (by decide) (by decide) (by decide) (by omega)
    have w20 := no 2 0 (by decide) (by decide) (by decide) (by decide) (by omega)
    have w21 := no 2 1 (by decide) (by decide) (by decide) (by decide) (by omega)
    have w22 := yes 2 2 (by decide) (by decide) (by decide) (by decide) (by omega)
    rcases ha with ⟨q, a1, a2⟩ | ⟨q, a1, a2⟩
    · have x0 : e' 0 = e 0 + w := by rw [a1 0 (by decide) (by decide), if_pos (by omega)]
      have x1 : e' 1 = e 1 := by rw [a1 1 (by decide) (by decide), if_neg (by omega)]
      have x2 : e' 2 = e 2 := by rw [a1 2 (by decide) (by decide), if_neg (by omega)]
      have y0 := a2 0 (by decide) (by decide)
      have y1 := a2 1 (by decide) (by decide)
      have y2 := a2 2 (by decide) (by decide)
      exact ⟨by omega, by omega, by omega, by omega, by omega, by omega, by omega, by omega, by omega⟩
    · exfalso; omega
  · have w00 := yes 0 0 (by decide) (by decide) (by decide) (by decide) (by omega)
    have w01 := no 0 1 (by decide) (by decide) (by decide) (by decide) (by omega)
    have w02 := no 0 2 (by decide) (by decide) (by decide) (by decide) (by omega)
    have w10 := no 1 0 (by decide) (by decide) (by decide) (by decide) (by omega)
    have w11 := no 1 1 (by decide) (by decide) (by decide) (by decide) (by omega)
    have w12 := yes 1 2 (by decide) (by decide) (by decide) (by decide) (by omega)
    have w20 := no 2 0 (by decide) (by decide) (by decide) (by decide) (by omega)
    have w21 := yes 2 1 (by decide) (by decide) (by decide) (by decide) (by omega)
    have w22 := no 2 2 (by decide) (by decide) (by decide) (by decide) (by omega)
    rcases ha with ⟨q, a1, a2⟩ | ⟨q, a1, a2⟩
    · exfalso; omega
    · have x0 : o' 0 = o 0 + w := by rw [a1 0 (by decide) (by decide), if_pos (by omega)]
      have x1 : o' 1 = o 1 := by rw [a1 1 (by decide) (by decide), if_neg (by omega)]
      have x2 : o' 2 = o 2 := by rw [a1 2 (by decide) (by decide), if_neg (by omega)]
      have y0 := a2 0 (by decide) (by decide)
      have y1 := a2 1 (by decide) (by decide)
      have y2 := a2 2 (by decide) (by decide)
      exact ⟨by omega, by omega, by omega, by omega, by omega, by omega, by omega, by omega, by omega⟩
  · have w00 := no 0 0 (by decide) (by decide) (by decide) (by decide) (by omega)
    have w01 := yes 0 1 (by decide) (by decide) (by decide) (by decide) (by omega)
    have w02 := no 0 2 (by decide) (by decide) (by decide) (by decide) (by omega)
    have w10 := yes 1 0 (by decide) (by decide) (by decide) (by decide) (by omega)
    have w11 := no 1 1 (by decide) (by decide) (by decide) (by decide) (by omega)
    have w12 := no 1 2 (by decide) (by decide) (by decide) (by decide) (by omega)
    have w20 := no 2 0 (by decide) (by decide) (by decide) (by decide) (by omega)
    have w21 := no 2 1 (by decide) (by decide) (by decide) (by decide) (by omega)
    have w22 := yes 2 2 (by decide) (by decide) (by decide) (by decide) (by omega)
    rcases ha with ⟨q, a1, a2⟩ | ⟨q, a1, a2⟩
    · exfalso; omega
    · have x0 : o' 0 = o 0 := by rw [a1 0 (by decide) (by decide), if_neg (by omega)]
      have x1 : o' 1 = o 1 + w := by rw [a1 1 (by decide) (by decide), if_pos (by omega)]
      have x2 : o' 2 = o 2 := by rw [a1 2 (by decide) (by decide), if_neg (by omega)]
      have y0 := a2 0 (by decide) (by decide)
      have y1 := a2 1 (by decide) (by decide)
      have y2 := a2 2 (by decide) (by decide)
      exact ⟨by omega, by omega, by omega, by omega, by omega, by omega, by omega, by omega, by omega⟩
  · have w00 := no 0 0 (by decide) (by decide) (by decide) (by decide) (by omega)
    have w01 := yes 0 1 (by decide) (by decide) (by decide) (by decide) (by omega)
    have w02 := no 0 2 (by decide) (by decide) (by decide) (by decide) (by omega)
    have w10 := no 1 0 (by decide) (by decide) (by decide) (by decide) (by omega)
    have w11 := no 1 1 (by decide) (by decide) (by decide) (by decide) (by omega)
    have w12 := yes 1 2 (by decide) (by decide) (by decide) (by decide) (by omega)
    have w20 := yes 2 0 (by decide) (by decide) (by decide) (by decide) (by omega)
    have w21 := no 2 1 (by decide) (by decide) (by decide) (by decide) (by omega)
    have w22 := no 2 2 (by decide) (by decide) (by decide) (by decide) (by omega)
    rcases ha with ⟨q, a1, a2⟩ | ⟨q, a1, a2⟩
    · have x0 : e' 0 = e 0 := by rw [a1 0 (by decide) (by decide), if_neg (by omega)]
      have x1 : e' 1 = e 1 + w := by rw [a1 1 (by decide) (by decide), if_pos (by omega)]
      have x2 : e' 2 = e 2 := by rw [a1 2 (by decide) (by decide), if_neg (by omega)]
      have y0 := a2 0 (by decide) (by decide)
      have y1 := a2 1 (by decide) (by decide)
      have y2 := a2 2 (by decide) (by decide)
      exact ⟨by omega, by omega, by omega, by omega, by omega, by omega, by omega, by omega, by omega⟩
    · exfalso; omega
  · have w00 := no 0 0 (by decide) (by decide) (by decide) (by decide) (by omega)
    have w01 := no 0 1 (by decide) (by decide) (by decide) (by decide) (by omega)
    have w02 := yes 0 2 (by decide) (by decide) (by decide) (by decide) (by omega)
    have w10 := yes 1 0 (by decide) (by decide) (by decide) (by decide) (by omega)
    have w11 := no 1 1 (by decide) (by decide) (by decide) (by decide) (by omega)
    have w12 := no 1 2 (by decide) (by decide) (by decide) (by decide) (by omega)
    have w20 := no 2 0 (by decide) (by decide) (by decide) (by decide) (by omega)
    have w21 := yes 2 1 (by decide) (by decide) (by decide) (by decide) (by omega)
    have w22 := no 2 2 (by decide) (by decide) (by decide) (by decide) (by omega)
    rcases ha with ⟨q, a1, a2⟩ | ⟨q, a1, a2⟩
    · have x0 : e' 0 = e 0 := by rw [a1 0 (by decide) (by decide), if_neg (by omega)]
      have x1 : e' 1 = e 1 := by rw [a1 1 (by decide) (by decide), if_neg (by omega)]
      have x2 : e' 2 = e 2 + w := by rw [a1 2 (by decide) (by decide), if_pos (by omega)]
      have y0 := a2 0 (by decide) (by decide)
      have y1 := a2 1 (by decide) (by decide)
      have y2 := a2 2 (by decide) (by decide)
      exact ⟨by omega, by omega, by omega, by omega, by omega, by omega, by omega, by omega, by omega⟩
    · exfalso; omega
  · have w00 := no 0 0 (by decide) (by decide) (by decide) (by decide) (by omega)
    have w01 := no 0 1 (by decide) (by decide) (by decide) (by decide) (by omega)
    have w02 := yes 0 2 (by decide) (by decide) (by decide) (by decide) (by omega)
    have w10 := no 1 0 (by decide) (by decide) (by decide) (by decide) (by omega)
    have w11 := yes 1 1 (by decide) (by decide) (by decide) (by decide) (by omega)
    have w12 := no 1 2 (by decide) (by decide) (by decide) (by decide) (by omega)
    have w20 := yes 2 0 (by decide) (by decide) (by decide) (by decide) (by omega)
    have w21 := no 2 1 (by decide) (by decide) (by decide) (by decide) (by omega)
    have w22 := no 2 2 (by decide) (by decide) (by decide) (by decide) (by omega)
    rcases ha with ⟨q, a1, a2⟩ | ⟨q, a1, a2⟩
    · exfalso; omega
    · have x0 : o' 0 = o 0 := by rw [a1 0 (by decide) (by decide), if_neg (by omega)]
      have x1 : o' 1 = o 1 := by rw [a1 1 (by decide) (by decide), if_neg (by omega)]
      have x2 : o' 2 = o 2 + w := by rw [a1 2 (by decide) (by decide), if_pos (by omega)]
      have y0 := a2 0 (by decide) (by decide)
      have y1 := a2 1 (by decide) (by decide)
      have y2 := a2 2 (by decide) (by decide)
      exact ⟨by omega, by omega, by omega, by omega, by omega, by omega, by omega, by omega, by omega⟩
theorem fwI_s {n m w P : Int} {W0 W W' : Int → Int → Int} {e o e' o' ch : Int → Int} (hn : 1 ≤ n ∧ n ≤ 3) (he : EvW n W m) (h : fwI n W0 W P e o) (hs : stp n 0 W W' ch w) (ha : n = 3 → adE ch e o e' o' w) : fwI n W0 W' (P + 1) e' o' := by
  obtain ⟨h1, ⟨x, x1, x2, x3⟩, h3, h4⟩ := hs
  obtain ⟨hp, hc⟩ := chS_ps ⟨hn.1, by omega⟩ h1
  refine ⟨fun q => ?_, fun q => ?_, fun q => ?_⟩
  · subst q
    have p0 := hp.1 0 (by decide) (by decide)
    have c0 : ch 0 = 0 := by omega
    have x0 : x = 0 := by omega
    have g := h.1 rfl
    have w1 := hc 0 (by decide) (by decide)
    have w2 := h4 0 0 (by decide) (by decide) (by decide) (by decide)
    rw [x0, c0] at x3
    rw [c0] at w1
    rw [if_pos c0.symm] at w2
    rw [if_pos (by omega)] at g
    rw [if_neg (by omega)]
    omega
  · subst q
    have r0 : 0 + W 0 0 + W 0 1 = m := he.2.1 0 (by decide) (by decide)
    have r1 : 0 + W 1 0 + W 1 1 = m := he.2.1 1 (by decide) (by decide)
    have k0 : 0 + W 0 0 + W 1 0 = m := he.2.2 0 (by decide) (by decide)
    have k1 : 0 + W 0 1 + W 1 1 = m := he.2.2 1 (by decide) (by decide)
    have p0 := hp.1 0 (by decide) (by decide)
    have p1 := hp.1 1 (by decide) (by decide)
    have d01 := hp.2 0 1 (by decide) (by decide) (by decide)
    have g := h.2.1 rfl
    have v0 := hc 0 (by decide) (by decide)
    have w00 := h4 0 0 (by decide) (by decide) (by decide) (by decide)
    have w01 := h4 0 1 (by decide) (by decide) (by decide) (by decide)
    rcases (by omega : (ch 0 = 0 ∧ ch 1 = 1) ∨ (ch 0 = 1 ∧ ch 1 = 0)) with ⟨c0, c1⟩ | ⟨c0, c1⟩
    · rw [if_pos c0.symm] at w00
      rw [if_neg (by omega), Int.sub_zero] at w01
      rw [c0] at v0
      have ew : w = W 0 0 := by
        rcases (by omega : x = 0 ∨ x = 1) with y | y
        · rw [y, c0] at x3; exact x3
        · rw [y, c1] at x3; omega
      rw [if_pos (show 0 < W 0 0 by omega)] at g
      rw [if_neg (show ¬ 0 < W' 0 0 by omega), w01]
      omega
    · rw [if_pos c0.symm] at w01
      rw [if_neg (by omega), Int.sub_zero] at w00
      rw [c0] at v0
      have ew : w = W 0 1 := by
        rcases (by omega : x = 0 ∨ x = 1) with y | y
        · rw [y, c0] at x3; exact x3
        · rw [y, c1] at x3; omega
      rw [if_pos (show 0 < W 0 1 by omega)] at g
      rw [if_neg (show ¬ 0 < W' 0 1 by omega), w00]
      omega
  · subst q
    exact eoI_s (h.2.2 rfl) hp h4 (ha rfl)
/-- how many are above 0 when so much goes from each even choice to each odd one -/
def cX (e o : Int → Int) (v : Int) : Int := sm (fun a => if v < e a then 1 else 0) 3 + sm (fun a => if -v < o a then 1 else 0) 3
theorem fw_end {W : Int → Int → Int} {e o : Int → Int} {p q : Int} (h : eoI W (fun _ _ => 0) e o) (h1 : ∀ k, 0 ≤ k → k < 3 → p ≤ e k ∧ q ≤ o k) (h2 : p = e 0 ∨ p = e 1 ∨ p = e 2) (h3 : q = o 0 ∨ q = o 1 ∨ q = o 2) (h0 : ∀ k, 0 ≤ k → k < 3 → 0 ≤ e k ∧ 0 ≤ o k) : bsK W 6 (min (cX e o p) (cX e o (-q))) := by
  obtain ⟨g00, g01, g02, g10, g11, g12, g20, g21, g22⟩ := h
  (try dsimp only at g00 g01 g02 g10 g11 g12 g20 g21 g22)
  have l1 : ∀ a, 0 ≤ a → a < 3 → lz W a 0 = e a + o 0 := fun a x y => by
    rcases (by omega : a = 0 ∨ a = 1 ∨ a = 2) with q | q | q <;> subst q
    · show W 0 0 = _; omega
    · show W 1 2 = _; omega
    · show W 2 1 = _; omega
  have l2 : ∀ a, 0 ≤ a → a < 3 → lz W 0 a = e 0 + o a := fun a x y => by
    rcases (by omega : a = 0 ∨ a = 1 ∨ a = 2) with q | q | q <;> subst q
    · show W 0 0 = _; omega
    · show W 2 2 = _; omega
    · show W 1 1 = _; omega
  have l3 := l1 0 (by decide) (by decide)
  have nm : ∀ t, nmT W t 3 = cX e o (e 0 - t) := fun t => by
    have f : nmT W t 3 = sm (fun a => (if e 0 - t < e a then 1 else 0) - (fun a => -(if -(e 0 - t) < o a then (1 : Int) else 0)) a) 3 := sm_cg (fun a x y => by
      (try dsimp only)
      have a1 : (if 0 < evn W t a then (1 : Int) else 0) = if e 0 - t < e a then 1 else 0 := by
        have : evn W t a = e a - (e 0 - t) := by unfold evn; rw [l1 a x (by omega), l3]; omega
        rw [this]
        by_cases c : e 0 - t < e a
        · rw [if_pos c, if_pos (by omega)]
        · rw [if_neg c, if_neg (by omega)]
      have a2 : (if 0 < odn W t a then (1 : Int) else 0) = if -(e 0 - t) < o a then 1 else 0 := by
        have : odn W t a = o a + (e 0 - t) := by unfold odn; rw [l2 a x (by omega)]; omega
        rw [this]
        by_cases c : -(e 0 - t) < o a
        · rw [if_pos c, if_pos (by omega)]
        · rw [if_neg c, if_neg (by omega)]
      rw [a1, a2]; omega)
    rw [f, sm_sub]
    unfold cX
    have n : ∀ g : Int → Int, sm (fun a => -(g a)) 3 = -(sm g 3) := fun g => by
      show 0 + -(g 0) + -(g 1) + -(g 2) = -(0 + g 0 + g 1 + g 2)
      omega
    rw [n (fun a => if -(e 0 - t) < o a then (1 : Int) else 0)]
    omega
  have vl : ∀ t, vlT W t 3 ↔ ∀ a, 0 ≤ a → a < 3 → e 0 - t ≤ e a ∧ -(e 0 - t) ≤ o a := fun t => by
    constructor
    · intro h a x y
      have := h a x y
      unfold evn odn at this
      rw [l1 a x y, l2 a x y, l3] at this
      omega
    · intro h a x y
      have := h a x y
      unfold evn odn
      rw [l1 a x y, l2 a x y, l3]
      omega
  have t1 : ∀ k, 0 ≤ k → k < 3 → e 0 - ttK W k = -(o k) := fun k a b => by unfold ttK; rw [if_pos b, l2 k a b]; omega
  have t2 : ∀ k, 3 ≤ k → k < 6 → e 0 - ttK W k = e (k - 3) := fun k a b => by unfold ttK; rw [if_neg (by omega), l1 (k - 3) (by omega) (by omega), l3]; omega
  have x1 : ∃ j, 0 ≤ j ∧ j < 3 ∧ e j = p := by
    rcases h2 with y | y | y
    · exact ⟨0, by decide, by decide, y.symm⟩
    · exact ⟨1, by decide, by decide, y.symm⟩
    · exact ⟨2, by decide, by decide, y.symm⟩
  have x2 : ∃ j, 0 ≤ j ∧ j < 3 ∧ o j = q := by
    rcases h3 with y | y | y
    · exact ⟨0, by decide, by decide, y.symm⟩
    · exact ⟨1, by decide, by decide, y.symm⟩
    · exact ⟨2, by decide, by decide, y.symm⟩
  obtain ⟨j, j1, j2, j3⟩ := x1
  obtain ⟨i, i1, i2, i3⟩ := x2
  have p0 := h0 j j1 j2
  have q0 := h0 i i1 i2
  have va : vlT W (ttK W (3 + j)) 3 ∧ nmT W (ttK W (3 + j)) 3 = cX e o p := by
    have u := t2 (3 + j) (by omega) (by omega)
    rw [show 3 + j - 3 = j by omega, j3] at u
    refine ⟨(vl _).mpr (fun a x y => ?_), by rw [nm, u]⟩
    have := h1 a x y
    have := h0 a x y
    rw [u]; omega
  have vb : vlT W (ttK W i) 3 ∧ nmT W (ttK W i) 3 = cX e o (-q) := by
    have u := t1 i i1 i2
    rw [i3] at u
    refine ⟨(vl _).mpr (fun a x y => ?_), by rw [nm, u]⟩
    have := h1 a x y
    have := h0 a x y
    rw [u]; omega
  refine Or.inr ⟨?_, fun k k1 k2 hv => ?_⟩
  · rcases (by omega : min (cX e o p) (cX e o (-q)) = cX e o p ∨ min (cX e o p) (cX e o (-q)) = cX e o (-q)) with y | y
    · exact ⟨3 + j, by omega, by omega, va.1, by rw [y, va.2]⟩
    · exact ⟨i, i1, by omega, vb.1, by rw [y, vb.2]⟩
  · have w := (vl _).mp hv
    rw [nm]
    rcases (by omega : k < 3 ∨ 3 ≤ k) with y | y
    · have u := t1 k k1 y
      rw [u] at w ⊢
      have w1 := w i i1 i2
      have w2 := h1 k k1 y
      have : o k = q := by omega
      rw [this]; omega
    · have u := t2 k y k2
      rw [u] at w ⊢
      have w1 := w j j1 j2
      have w2 := h1 (k - 3) (by omega) (by omega)
      have : e (k - 3) = p := by omega
      rw [this]; omega
end
