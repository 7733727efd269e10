/-! BITS of ints and longs (begun from the kit's rows on bits) -/
def lb (z : Int) (i : Nat) : Bool := (Int64.ofInt z).toBitVec.getLsbD i
def ib (z : Int) (i : Nat) : Bool := (Int32.ofInt z).toBitVec.getLsbD i
theorem ib_lb (z : Int) {i : Nat} (hi : i < 32) : ib z i = lb z i := by
  show (BitVec.ofInt 32 z).getLsbD i = (BitVec.ofInt 64 z).getLsbD i
  rw [← BitVec.testBit_toNat, ← BitVec.testBit_toNat, BitVec.toNat_ofInt, BitVec.toNat_ofInt]
  have e : (z % ((2 ^ 32 : Nat) : Int)).toNat = (z % ((2 ^ 64 : Nat) : Int)).toNat % 2 ^ 32 := by omega
  rw [e, Nat.testBit_mod_two_pow]
  simp [hi]
theorem ib_wr (z : Int) {i : Nat} (hi : i < 32) : ib (wr z) i = lb z i := by
  rw [← ib_lb z hi]
  unfold ib wr
  rw [Int32.ofInt_toInt]
theorem lb_ext {a b : Int} (ha : rl a) (hb : rl b) (h : ∀ i, i < 64 → lb a i = lb b i) : a = b := by
  rw [← rl_in ha, ← rl_in hb]
  exact congrArg Int64.toInt (Int64.toBitVec_inj.mp (BitVec.eq_of_getLsbD_eq (fun i hi => h i hi)))
theorem ib_ext {a b : Int} (ha : rg a) (hb : rg b) (h : ∀ i, i < 32 → ib a i = ib b i) : a = b := by
  rw [← rg_in ha, ← rg_in hb]
  exact congrArg Int32.toInt (Int32.toBitVec_inj.mp (BitVec.eq_of_getLsbD_eq (fun i hi => h i hi)))
theorem lb_and (a b : Int) (i : Nat) : lb (land a b) i = (lb a i && lb b i) := by unfold lb land; rw [Int64.ofInt_toInt, Int64.toBitVec_and, BitVec.getLsbD_and]
theorem lb_or (a b : Int) (i : Nat) : lb (lor a b) i = (lb a i || lb b i) := by unfold lb lor; rw [Int64.ofInt_toInt, Int64.toBitVec_or, BitVec.getLsbD_or]
theorem lb_xor (a b : Int) (i : Nat) : lb (lxor a b) i = (lb a i ^^ lb b i) := by unfold lb lxor; rw [Int64.ofInt_toInt, Int64.toBitVec_xor, BitVec.getLsbD_xor]
theorem ib_and (a b : Int) (i : Nat) : ib (iand a b) i = (ib a i && ib b i) := by unfold ib iand; rw [Int32.ofInt_toInt, Int32.toBitVec_and, BitVec.getLsbD_and]
theorem ib_or (a b : Int) (i : Nat) : ib (ior a b) i = (ib a i || ib b i) := by unfold ib ior; rw [Int32.ofInt_toInt, Int32.toBitVec_or, BitVec.getLsbD_or]
theorem ib_xor (a b : Int) (i : Nat) : ib (ixor a b) i = (ib a i ^^ ib b i) := by unfold ib ixor; rw [Int32.ofInt_toInt, Int32.toBitVec_xor, BitVec.getLsbD_xor]
theorem sl_32 : ∀ n : Fin 32, ((Int32.ofInt (n.val : Int) &&& 31).toBitVec.smod 32).toNat = n.val := by decide +kernel
theorem su_32 : ∀ n : Fin 32, (((Int32.ofInt (n.val : Int)).toUInt32 &&& Int32.toUInt32 31).toBitVec % 32).toNat = n.val := by decide +kernel
theorem sl_64 : ∀ n : Fin 64, (((Int32.ofInt (n.val : Int)).toInt64 &&& 63).toBitVec.smod 64).toNat = n.val := by decide +kernel
theorem su_64 : ∀ n : Fin 64, (((Int32.ofInt (n.val : Int)).toInt64.toUInt64 &&& Int64.toUInt64 63).toBitVec % 64).toNat = n.val := by decide +kernel
theorem ib_shr (a : Int) {n i : Nat} (hn : n < 32) (hi : i < 32) : ib (ishr a (n : Int)) i = if n + i < 32 then ib a (n + i) else ib a 31 := by
  unfold ib ishr
  rw [Int32.ofInt_toInt, Int32.toBitVec_shiftRight]
  show ((Int32.ofInt a).toBitVec.sshiftRight ((Int32.ofInt (n : Int) &&& 31).toBitVec.smod 32).toNat).getLsbD i = _
  rw [sl_32 ⟨n, hn⟩, BitVec.getLsbD_sshiftRight, BitVec.msb_eq_getLsbD_last]
  simp [hi]
theorem ib_ushr (a : Int) {n : Nat} (hn : n < 32) (i : Nat) : ib (iushr a (n : Int)) i = ib a (n + i) := by
  unfold ib iushr
  rw [Int32.ofInt_toInt]
  show ((Int32.ofInt a).toUInt32 >>> ((Int32.ofInt (n : Int)).toUInt32 &&& Int32.toUInt32 31)).toBitVec.getLsbD i = (Int32.ofInt a).toUInt32.toBitVec.getLsbD (n + i)
  rw [UInt32.toBitVec_shiftRight]
  show ((Int32.ofInt a).toUInt32.toBitVec >>> (((Int32.ofInt (n : Int)).toUInt32 &&& Int32.toUInt32 31).toBitVec % 32).toNat).getLsbD i = _
  rw [su_32 ⟨n, hn⟩, BitVec.getLsbD_ushiftRight]
theorem lb_ushr (a : Int) {n : Nat} (hn : n < 64) (i : Nat) : lb (lushr a (n : Int)) i = lb a (n + i) := by
  unfold lb lushr
  rw [Int64.ofInt_toInt]
  show ((Int64.ofInt a).toUInt64 >>> ((Int32.ofInt (n : Int)).toInt64.toUInt64 &&& Int64.toUInt64 63)).toBitVec.getLsbD i = (Int64.ofInt a).toUInt64.toBitVec.getLsbD (n + i)
  rw [UInt64.toBitVec_shiftRight]
  show ((Int64.ofInt a).toUInt64.toBitVec >>> (((Int32.ofInt (n : Int)).toInt64.toUInt64 &&& Int64.toUInt64 63).toBitVec % 64).toNat).getLsbD i = _
  rw [su_64 ⟨n, hn⟩, BitVec.getLsbD_ushiftRight]
theorem lb_shl (a : Int) {n i : Nat} (hn : n < 64) (hi : i < 64) : lb (lshl a (n : Int)) i = (decide (n ≤ i) && lb a (i - n)) := by
  unfold lb lshl
  rw [Int64.ofInt_toInt, Int64.toBitVec_shiftLeft]
  show ((Int64.ofInt a).toBitVec <<< (((Int32.ofInt (n : Int)).toInt64 &&& 63).toBitVec.smod 64).toNat).getLsbD i = _
  rw [sl_64 ⟨n, hn⟩, BitVec.getLsbD_shiftLeft]
  rcases Nat.lt_or_ge i n with h | h
  · simp [h, Nat.not_le.mpr h]
  · simp [hi, h, Nat.not_lt.mpr h]
theorem ib_255 : ∀ i : Fin 32, ib 255 i.val = decide (i.val < 8) := by decide +kernel
theorem lb_255 : ∀ i : Fin 64, lb 255 i.val = decide (i.val < 8) := by decide +kernel
theorem lb_1 : ∀ i : Fin 64, lb 1 i.val = decide (i.val = 0) := by decide +kernel
theorem lb_0 (i : Nat) : lb 0 i = false := BitVec.getLsbD_zero
theorem lb_big {z : Int} {i : Nat} (h : 64 ≤ i) : lb z i = false := BitVec.getLsbD_of_ge _ _ h
theorem rg_iand (a b : Int) : rg (iand a b) := rg_to _
theorem rg_ior (a b : Int) : rg (ior a b) := rg_to _
theorem rl_lor (a b : Int) : rl (lor a b) := rl_to _
/-- a byte, by either shift -/
theorem by_al {v k : Int} (h : 0 ≤ k ∧ k < 4) : byA v k = by4 v k := by
  unfold byA by4
  obtain ⟨n, hn⟩ : ∃ n : Nat, 24 - 8 * k = (n : Int) := ⟨(24 - 8 * k).toNat, by omega⟩
  rw [hn]
  refine ib_ext (rg_iand _ _) (rg_iand _ _) (fun i hi => ?_)
  rw [ib_and, ib_and, ib_255 ⟨i, hi⟩, ib_ushr v (by omega) i, ib_shr v (by omega) hi]
  by_cases q : i < 8
  · rw [if_pos (by omega)]
  · rw [decide_eq_false q, Bool.and_false, Bool.and_false]
theorem nn_of_31 {a : Int} (h : rg a) (h1 : ib a 31 = false) : 0 ≤ a := by
  have e : (Int32.ofInt a).toInt = a := rg_in h
  have m : (Int32.ofInt a).toBitVec.msb = false := by rw [BitVec.msb_eq_getLsbD_last]; exact h1
  have t := BitVec.toInt_eq_msb_cond (Int32.ofInt a).toBitVec
  rw [m] at t
  have t2 : (Int32.ofInt a).toInt = (Int32.ofInt a).toBitVec.toInt := rfl
  rw [e] at t2
  rw [t2, t, if_neg (by decide)]
  exact Int.natCast_nonneg _
theorem by4_nn (v k : Int) : 0 ≤ by4 v k := by
  unfold by4
  refine nn_of_31 (rg_iand _ _) ?_
  rw [ib_and, ib_255 ⟨31, by decide⟩]
  simp
