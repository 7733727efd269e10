def dkr (c : ByteArray) (p n : Nat) : Prop := ∃ h : p < c.size, c[p].toNat = n
theorem dk_bind {α β : Type} {x : Decoder α} {f : α → Decoder β} {c : ByteArray} {p q : Nat} {a : α} (h : Reader.runAt x c p = .ok (a, q)) : Reader.runAt (x >>= f) c p = Reader.runAt (f a) c q := by
  show Except.bind (Reader.runAt x c p) (fun y => Reader.runAt (f y.1) c y.2) = _
  rw [h]; rfl
theorem dk_u1 {c : ByteArray} {p n : Nat} (h : dkr c p n) : Reader.runAt (Reader.u1 : Decoder Nat) c p = .ok (n, p + 1) := by
  obtain ⟨h1, h2⟩ := h
  show (dite (p < c.size) (fun h => (do set (p + 1); pure c[p].toNat : Decoder Nat)) (fun _ => throw (HasTruncated.truncated p)) : Decoder Nat) c p = _
  rw [dif_pos h1, ← h2]; rfl
theorem dk_pure {α : Type} {c : ByteArray} {p : Nat} {a : α} : Reader.runAt (Pure.pure a : Decoder α) c p = .ok (a, p) := rfl
theorem dk_u2 {c : ByteArray} {p n m x : Nat} (h : dkr c p n) (h' : dkr c (p + 1) m) (e : n * 256 + m = x) : Reader.runAt (Reader.u2 : Decoder Nat) c p = .ok (x, p + 2) := by
  subst e
  show Reader.runAt (Reader.u1 >>= fun hi => Reader.u1 >>= fun lo => pure (hi * 256 + lo) : Decoder Nat) c p = _
  rw [dk_bind (dk_u1 h), dk_bind (dk_u1 h'), dk_pure]
theorem dk_s1 {c : ByteArray} {p n : Nat} {x : Int} (h : dkr c p n) (e : Reader.signed 8 n = x) : Reader.runAt (Reader.s1 : Decoder Int) c p = .ok (x, p + 1) := by
  subst e
  have e0 : Reader.runAt (Reader.s1 : Decoder Int) c p = Reader.runAt (Reader.u1 >>= fun y => pure (Reader.signed 8 y) : Decoder Int) c p := rfl
  rw [e0, dk_bind (dk_u1 h), dk_pure]
theorem dk_s2 {c : ByteArray} {p n m : Nat} {x : Int} (h : dkr c p n) (h' : dkr c (p + 1) m) (e : Reader.signed 16 (n * 256 + m) = x) : Reader.runAt (Reader.s2 : Decoder Int) c p = .ok (x, p + 2) := by
  subst e
  have e0 : Reader.runAt (Reader.s2 : Decoder Int) c p = Reader.runAt (Reader.u2 >>= fun y => pure (Reader.signed 16 y) : Decoder Int) c p := rfl
  rw [e0, dk_bind (dk_u2 h h' rfl), dk_pure]
theorem dk_ok {c : ByteArray} {p q n : Nat} {i : Instr} (h : Reader.runAt (Decoder.instr p) c p = .ok (i, q)) (e : q - p = n) : decode c p = .ok (i, n) := by
  subst e
  show Except.bind (Reader.runAt (Decoder.instr p) c p) (fun y => Except.ok (y.1, y.2 - p)) = _
  rw [h]; rfl
/-- the code's bytes from p on -/
def dkL (c : ByteArray) (l : List UInt8) (p : Nat) : Prop := l = c.data.toList.drop p
theorem dkL_rd {c : ByteArray} {l s : List UInt8} {a : UInt8} {p : Nat} (h : dkL c l p) (e : l = a :: s) : dkr c p a.toNat := by
  have h1 : (c.data.toList.drop p)[0]? = some a := by rw [← h, e]; rfl
  rw [List.getElem?_drop, Nat.add_zero] at h1
  obtain ⟨h2, h3⟩ := List.getElem?_eq_some_iff.mp h1
  exact ⟨h2, congrArg UInt8.toNat h3⟩
theorem dkL_dr {c : ByteArray} {l : List UInt8} {p : Nat} (h : dkL c l p) (k : Nat) : dkL c (l.drop k) (p + k) := by
  unfold dkL at *
  rw [h, List.drop_drop]
theorem dkL_tl {c : ByteArray} {l s : List UInt8} {a : UInt8} {p : Nat} (h : dkL c l p) (e : l = a :: s) : dkL c s (p + 1) := by
  have := dkL_dr h 1
  rw [e] at this; exact this
def dk0 (l : List UInt8) (n p r : Nat) : Bool := match l with
  | a :: _ => Nat.beq a.toNat n && Nat.beq r (p + 1)
  | _ => false
def dk1 (l : List UInt8) (n x p r : Nat) : Bool := match l with
  | a :: b :: _ => Nat.beq a.toNat n && (Nat.beq b.toNat x && Nat.beq r (p + 2))
  | _ => false
def dk2 (l : List UInt8) (n x p r : Nat) : Bool := match l with
  | a :: b :: d :: _ => Nat.beq a.toNat n && (Nat.beq (b.toNat * 256 + d.toNat) x && Nat.beq r (p + 3))
  | _ => false
def dk1s (l : List UInt8) (n : Nat) (x : Int) (p r : Nat) : Bool := match l with
  | a :: b :: _ => Nat.beq a.toNat n && (decide (Reader.signed 8 b.toNat = x) && Nat.beq r (p + 2))
  | _ => false
def dk2s (l : List UInt8) (n : Nat) (x : Int) (p r : Nat) : Bool := match l with
  | a :: b :: d :: _ => Nat.beq a.toNat n && (decide (Reader.signed 16 (b.toNat * 256 + d.toNat) = x) && Nat.beq r (p + 3))
  | _ => false
def dki (l : List UInt8) (n x : Nat) (y : Int) (p r : Nat) : Bool := match l with
  | a :: b :: d :: _ => Nat.beq a.toNat n && (Nat.beq b.toNat x && (decide (Reader.signed 8 d.toNat = y) && Nat.beq r (p + 3)))
  | _ => false
theorem dk_and {a b : Bool} (h : (a && b) = true) : a = true ∧ b = true := by cases a <;> cases b <;> simp_all
theorem dk0_ok {c : ByteArray} {l : List UInt8} {p r n : Nat} {i : Instr} {f : Nat → Decoder Instr} (e0 : Decoder.instr p = (Reader.u1 >>= f)) (e1 : f n = Pure.pure i) (hl : dkL c l p) (h : dk0 l n p r = true) : decode c p = .ok (i, r - p) := by
  rcases l with _ | ⟨a, s⟩
  · exact absurd h Bool.false_ne_true
  · obtain ⟨h1, h2⟩ := dk_and (show (Nat.beq a.toNat n && Nat.beq r (p + 1)) = true from h)
    have h1 := Nat.eq_of_beq_eq_true h1
    have h2 := Nat.eq_of_beq_eq_true h2
    subst h1
    exact dk_ok (q := p + 1) (by rw [e0, dk_bind (dk_u1 (dkL_rd hl rfl)), e1, dk_pure]) (by omega)
theorem dk1_ok {c : ByteArray} {l : List UInt8} {p r n x : Nat} {i : Instr} {f g : Nat → Decoder Instr} (e0 : Decoder.instr p = (Reader.u1 >>= f)) (e1 : f n = (Reader.u1 >>= g)) (e2 : g x = Pure.pure i) (hl : dkL c l p) (h : dk1 l n x p r = true) : decode c p = .ok (i, r - p) := by
  rcases l with _ | ⟨a, _ | ⟨b, s⟩⟩
  · exact absurd h Bool.false_ne_true
  · exact absurd h Bool.false_ne_true
  · obtain ⟨h1, h2⟩ := dk_and (show (Nat.beq a.toNat n && (Nat.beq b.toNat x && Nat.beq r (p + 2))) = true from h)
    obtain ⟨h2, h3⟩ := dk_and h2
    have h1 := Nat.eq_of_beq_eq_true h1
    have h2 := Nat.eq_of_beq_eq_true h2
    have h3 := Nat.eq_of_beq_eq_true h3
    subst h1 h2
    exact dk_ok (q := p + 1 + 1) (by rw [e0, dk_bind (dk_u1 (dkL_rd hl rfl)), e1, dk_bind (dk_u1 (dkL_rd (dkL_tl hl rfl) rfl)), e2, dk_pure]) (by omega)
theorem dk2_ok {c : ByteArray} {l : List UInt8} {p r n x : Nat} {i : Instr} {f g : Nat → Decoder Instr} (e0 : Decoder.instr p = (Reader.u1 >>= f)) (e1 : f n = (Reader.u2 >>= g)) (e2 : g x = Pure.pure i) (hl : dkL c l p) (h : dk2 l n x p r = true) : decode c p = .ok (i, r - p) := by
  rcases l with _ | ⟨a, _ | ⟨b, _ | ⟨d, s⟩⟩⟩
  · exact absurd h Bool.false_ne_true
  · exact absurd h Bool.false_ne_true
  · exact absurd h Bool.false_ne_true
  · obtain ⟨h1, h2⟩ := dk_and (show (Nat.beq a.toNat n && (Nat.beq (b.toNat * 256 + d.toNat) x && Nat.beq r (p + 3))) = true from h)
    obtain ⟨h2, h3⟩ := dk_and h2
    have h1 := Nat.eq_of_beq_eq_true h1
    have h2 := Nat.eq_of_beq_eq_true h2
    have h3 := Nat.eq_of_beq_eq_true h3
    subst h1
    have hl1 := dkL_tl hl rfl
    exact dk_ok (q := p + 1 + 2) (by rw [e0, dk_bind (dk_u1 (dkL_rd hl rfl)), e1, dk_bind (dk_u2 (dkL_rd hl1 rfl) (dkL_rd (dkL_tl hl1 rfl) rfl) h2), e2, dk_pure]) (by omega)
theorem dk1s_ok {c : ByteArray} {l : List UInt8} {p r n : Nat} {x : Int} {i : Instr} {f : Nat → Decoder Instr} {g : Int → Decoder Instr} (e0 : Decoder.instr p = (Reader.u1 >>= f)) (e1 : f n = (Reader.s1 >>= g)) (e2 : g x = Pure.pure i) (hl : dkL c l p) (h : dk1s l n x p r = true) : decode c p = .ok (i, r - p) := by
  rcases l with _ | ⟨a, _ | ⟨b, s⟩⟩
  · exact absurd h Bool.false_ne_true
  · exact absurd h Bool.false_ne_true
  · obtain ⟨h1, h2⟩ := dk_and (show (Nat.beq a.toNat n && (decide (Reader.signed 8 b.toNat = x) && Nat.beq r (p + 2))) = true from h)
    obtain ⟨h2, h3⟩ := dk_and h2
    have h1 := Nat.eq_of_beq_eq_true h1
    have h2 := of_decide_eq_true h2
    have h3 := Nat.eq_of_beq_eq_true h3
    subst h1
    exact dk_ok (q := p + 1 + 1) (by rw [e0, dk_bind (dk_u1 (dkL_rd hl rfl)), e1, dk_bind (dk_s1 (dkL_rd (dkL_tl hl rfl) rfl) h2), e2, dk_pure]) (by omega)
theorem dk2s_ok {c : ByteArray} {l : List UInt8} {p r n : Nat} {x : Int} {i : Instr} {f : Nat → Decoder Instr} {g : Int → Decoder Instr} (e0 : Decoder.instr p = (Reader.u1 >>= f)) (e1 : f n = (Reader.s2 >>= g)) (e2 : g x = Pure.pure i) (hl : dkL c l p) (h : dk2s l n x p r = true) : decode c p = .ok (i, r - p) := by
  rcases l with _ | ⟨a, _ | ⟨b, _ | ⟨d, s⟩⟩⟩
  · exact absurd h Bool.false_ne_true
  · exact absurd h Bool.false_ne_true
  · exact absurd h Bool.false_ne_true
  · obtain ⟨h1, h2⟩ := dk_and (show (Nat.beq a.toNat n && (decide (Reader.signed 16 (b.toNat * 256 + d.toNat) = x) && Nat.beq r (p + 3))) = true from h)
    obtain ⟨h2, h3⟩ := dk_and h2
    have h1 := Nat.eq_of_beq_eq_true h1
    have h2 := of_decide_eq_true h2
    have h3 := Nat.eq_of_beq_eq_true h3
    subst h1
    have hl1 := dkL_tl hl rfl
    exact dk_ok (q := p + 1 + 2) (by rw [e0, dk_bind (dk_u1 (dkL_rd hl rfl)), e1, dk_bind (dk_s2 (dkL_rd hl1 rfl) (dkL_rd (dkL_tl hl1 rfl) rfl) h2), e2, dk_pure]) (by omega)
theorem dki_ok {c : ByteArray} {l : List UInt8} {p r n x : Nat} {y : Int} {i : Instr} {f g : Nat → Decoder Instr} {k : Int → Decoder Instr} (e0 : Decoder.instr p = (Reader.u1 >>= f)) (e1 : f n = (Reader.u1 >>= g)) (e2 : g x = (Reader.s1 >>= k)) (e3 : k y = Pure.pure i) (hl : dkL c l p) (h : dki l n x y p r = true) : decode c p = .ok (i, r - p) := by
  rcases l with _ | ⟨a, _ | ⟨b, _ | ⟨d, s⟩⟩⟩
  · exact absurd h Bool.false_ne_true
  · exact absurd h Bool.false_ne_true
  · exact absurd h Bool.false_ne_true
  · obtain ⟨h1, h2⟩ := dk_and (show (Nat.beq a.toNat n && (Nat.beq b.toNat x && (decide (Reader.signed 8 d.toNat = y) && Nat.beq r (p + 3)))) = true from h)
    obtain ⟨h2, h4⟩ := dk_and h2
    obtain ⟨h4, h3⟩ := dk_and h4
    have h1 := Nat.eq_of_beq_eq_true h1
    have h2 := Nat.eq_of_beq_eq_true h2
    have h3 := Nat.eq_of_beq_eq_true h3
    have h4 := of_decide_eq_true h4
    subst h1 h2
    have hl1 := dkL_tl hl rfl
    exact dk_ok (q := p + 1 + 1 + 1) (by rw [e0, dk_bind (dk_u1 (dkL_rd hl rfl)), e1, dk_bind (dk_u1 (dkL_rd hl1 rfl)), e2, dk_bind (dk_s1 (dkL_rd (dkL_tl hl1 rfl) rfl) h4), e3, dk_pure]) (by omega)
def dkI (i : Instr) (l : List UInt8) (p r : Nat) : Bool := match i with
  | .aaload => dk0 l 50 p r
  | .aastore => dk0 l 83 p r
  | .aconst_null => dk0 l 1 p r
  | .areturn => dk0 l 176 p r
  | .arraylength => dk0 l 190 p r
  | .baload => dk0 l 51 p r
  | .bastore => dk0 l 84 p r
  | .dup => dk0 l 89 p r
  | .dup2 => dk0 l 92 p r
  | .i2l => dk0 l 133 p r
  | .iadd => dk0 l 96 p r
  | .iaload => dk0 l 46 p r
  | .iand => dk0 l 126 p r
  | .iastore => dk0 l 79 p r
  | .idiv => dk0 l 108 p r
  | .imul => dk0 l 104 p r
  | .ineg => dk0 l 116 p r
  | .ior => dk0 l 128 p r
  | .irem => dk0 l 112 p r
  | .ireturn => dk0 l 172 p r
  | .ishl => dk0 l 120 p r
  | .ishr => dk0 l 122 p r
  | .isub => dk0 l 100 p r
  | .iushr => dk0 l 124 p r
  | .ixor => dk0 l 130 p r
  | .l2i => dk0 l 136 p r
  | .ladd => dk0 l 97 p r
  | .laload => dk0 l 47 p r
  | .land => dk0 l 127 p r
  | .lastore => dk0 l 80 p r
  | .lcmp => dk0 l 148 p r
  | .ldiv => dk0 l 109 p r
  | .lmul => dk0 l 105 p r
  | .lor => dk0 l 129 p r
  | .lrem => dk0 l 113 p r
  | .lreturn => dk0 l 173 p r
  | .lshl => dk0 l 121 p r
  | .lshr => dk0 l 123 p r
  | .lsub => dk0 l 101 p r
  | .lushr => dk0 l 125 p r
  | .lxor => dk0 l 131 p r
  | .pop => dk0 l 87 p r
  | .pop2 => dk0 l 88 p r
  | .return_ => dk0 l 177 p r
  | .iload x => dk1 l 21 x p r
  | .lload x => dk1 l 22 x p r
  | .aload x => dk1 l 25 x p r
  | .istore x => dk1 l 54 x p r
  | .lstore x => dk1 l 55 x p r
  | .astore x => dk1 l 58 x p r
  | .ldc x => dk1 l 18 x p r
  | .ldc_w x => dk2 l 19 x p r
  | .ldc2_w x => dk2 l 20 x p r
  | .getfield x => dk2 l 180 x p r
  | .putfield x => dk2 l 181 x p r
  | .getstatic x => dk2 l 178 x p r
  | .putstatic x => dk2 l 179 x p r
  | .invokevirtual x => dk2 l 182 x p r
  | .invokespecial x => dk2 l 183 x p r
  | .invokestatic x => dk2 l 184 x p r
  | .new x => dk2 l 187 x p r
  | .anewarray x => dk2 l 189 x p r
  | .goto x => dk2s l 167 x p r
  | .ifnull x => dk2s l 198 x p r
  | .ifnonnull x => dk2s l 199 x p r
  | .sipush x => dk2s l 17 x p r
  | .bipush x => dk1s l 16 x p r
  | .iload_n k => dk0 l (26 + k.val) p r
  | .lload_n k => dk0 l (30 + k.val) p r
  | .aload_n k => dk0 l (42 + k.val) p r
  | .istore_n k => dk0 l (59 + k.val) p r
  | .lstore_n k => dk0 l (63 + k.val) p r
  | .astore_n k => dk0 l (75 + k.val) p r
  | .lconst k => dk0 l (9 + k.val) p r
  | .newarray .boolean => dk1 l 188 4 p r
  | .newarray .int => dk1 l 188 10 p r
  | .newarray .long => dk1 l 188 11 p r
  | .ifCond .eq x => dk2s l 153 x p r
  | .if_icmp .eq x => dk2s l 159 x p r
  | .ifCond .ne x => dk2s l 154 x p r
  | .if_icmp .ne x => dk2s l 160 x p r
  | .ifCond .lt x => dk2s l 155 x p r
  | .if_icmp .lt x => dk2s l 161 x p r
  | .ifCond .ge x => dk2s l 156 x p r
  | .if_icmp .ge x => dk2s l 162 x p r
  | .ifCond .gt x => dk2s l 157 x p r
  | .if_icmp .gt x => dk2s l 163 x p r
  | .ifCond .le x => dk2s l 158 x p r
  | .if_icmp .le x => dk2s l 164 x p r
  | .iinc x y => dki l 132 x y p r
  | .iconst z => decide (-1 ≤ z ∧ z ≤ 5) && dk0 l (z + 3).toNat p r
  | _ => false
theorem dkI_ok {c : ByteArray} {l : List UInt8} {p r : Nat} {i : Instr} (hl : dkL c l p) (h : dkI i l p r = true) : decode c p = .ok (i, r - p) := by
  cases i
  case aaload => exact dk0_ok rfl rfl hl (n := 50) h
  case aastore => exact dk0_ok rfl rfl hl (n := 83) h
  case aconst_null => exact dk0_ok rfl rfl hl (n := 1) h
  case areturn => exact dk0_ok rfl rfl hl (n := 176) h
  case arraylength => exact dk0_ok rfl rfl hl (n := 190) h
  case baload => exact dk0_ok rfl rfl hl (n := 51) h
  case bastore => exact dk0_ok rfl rfl hl (n := 84) h
  case dup => exact dk0_ok rfl rfl hl (n := 89) h
  case dup2 => exact dk0_ok rfl rfl hl (n := 92) h
  case i2l => exact dk0_ok rfl rfl hl (n := 133) h
  case iadd => exact dk0_ok rfl rfl hl (n := 96) h
  case iaload => exact dk0_ok rfl rfl hl (n := 46) h
  case iand => exact dk0_ok rfl rfl hl (n := 126) h
  case iastore => exact dk0_ok rfl rfl hl (n := 79) h
  case idiv => exact dk0_ok rfl rfl hl (n := 108) h
  case imul => exact dk0_ok rfl rfl hl (n := 104) h
  case ineg => exact dk0_ok rfl rfl hl (n := 116) h
  case ior => exact dk0_ok rfl rfl hl (n := 128) h
  case irem => exact dk0_ok rfl rfl hl (n := 112) h
  case ireturn => exact dk0_ok rfl rfl hl (n := 172) h
  case ishl => exact dk0_ok rfl rfl hl (n := 120) h
  case ishr => exact dk0_ok rfl rfl hl (n := 122) h
  case isub => exact dk0_ok rfl rfl hl (n := 100) h
  case iushr => exact dk0_ok rfl rfl hl (n := 124) h
  case ixor => exact dk0_ok rfl rfl hl (n := 130) h
  case l2i => exact dk0_ok rfl rfl hl (n := 136) h
  case ladd => exact dk0_ok rfl rfl hl (n := 97) h
  case laload => exact dk0_ok rfl rfl hl (n := 47) h
  case land => exact dk0_ok rfl rfl hl (n := 127) h
  case lastore => exact dk0_ok rfl rfl hl (n := 80) h
  case lcmp => exact dk0_ok rfl rfl hl (n := 148) h
  case ldiv => exact dk0_ok rfl rfl hl (n := 109) h
  case lmul => exact dk0_ok rfl rfl hl (n := 105) h
  case lor => exact dk0_ok rfl rfl hl (n := 129) h
  case lrem => exact dk0_ok rfl rfl hl (n := 113) h
  case lreturn => exact dk0_ok rfl rfl hl (n := 173) h
  case lshl => exact dk0_ok rfl rfl hl (n := 121) h
  case lshr => exact dk0_ok rfl rfl hl (n := 123) h
  case lsub => exact dk0_ok rfl rfl hl (n := 101) h
  case lushr => exact dk0_ok rfl rfl hl (n := 125) h
  case lxor => exact dk0_ok rfl rfl hl (n := 131) h
  case pop => exact dk0_ok rfl rfl hl (n := 87) h
  case pop2 => exact dk0_ok rfl rfl hl (n := 88) h
  case return_ => exact dk0_ok rfl rfl hl (n := 177) h
  case iload x => exact dk1_ok rfl rfl rfl hl (n := 21) (x := x) h
  case lload x => exact dk1_ok rfl rfl rfl hl (n := 22) (x := x) h
  case aload x => exact dk1_ok rfl rfl rfl hl (n := 25) (x := x) h
  case istore x => exact dk1_ok rfl rfl rfl hl (n := 54) (x := x) h
  case lstore x => exact dk1_ok rfl rfl rfl hl (n := 55) (x := x) h
  case astore x => exact dk1_ok rfl rfl rfl hl (n := 58) (x := x) h
  case ldc x => exact dk1_ok rfl rfl rfl hl (n := 18) (x := x) h
  case ldc_w x => exact dk2_ok rfl rfl rfl hl (n := 19) (x := x) h
  case ldc2_w x => exact dk2_ok rfl rfl rfl hl (n := 20) (x := x) h
  case getfield x => exact dk2_ok rfl rfl rfl hl (n := 180) (x := x) h
  case putfield x => exact dk2_ok rfl rfl rfl hl (n := 181) (x := x) h
  case getstatic x => exact dk2_ok rfl rfl rfl hl (n := 178) (x := x) h
  case putstatic x => exact dk2_ok rfl rfl rfl hl (n := 179) (x := x) h
  case invokevirtual x => exact dk2_ok rfl rfl rfl hl (n := 182) (x := x) h
  case invokespecial x => exact dk2_ok rfl rfl rfl hl (n := 183) (x := x) h
  case invokestatic x => exact dk2_ok rfl rfl rfl hl (n := 184) (x := x) h
  case new x => exact dk2_ok rfl rfl rfl hl (n := 187) (x := x) h
  case anewarray x => exact dk2_ok rfl rfl rfl hl (n := 189) (x := x) h
  case goto x => exact dk2s_ok rfl rfl rfl hl (n := 167) (x := x) h
  case ifnull x => exact dk2s_ok rfl rfl rfl hl (n := 198) (x := x) h
  case ifnonnull x => exact dk2s_ok rfl rfl rfl hl (n := 199) (x := x) h
  case sipush x => exact dk2s_ok rfl rfl rfl hl (n := 17) (x := x) h
  case bipush x => exact dk1s_ok rfl rfl rfl hl (n := 16) (x := x) h
  case iload_n k =>
    obtain ⟨k, hk⟩ := k
    have hz : k = 0 ∨ k = 1 ∨ k = 2 ∨ k = 3 := by omega
    rcases hz with e | e | e | e <;> subst e
    · exact dk0_ok rfl rfl hl (n := 26) h
    · exact dk0_ok rfl rfl hl (n := 27) h
    · exact dk0_ok rfl rfl hl (n := 28) h
    · exact dk0_ok rfl rfl hl (n := 29) h
  case lload_n k =>
    obtain ⟨k, hk⟩ := k
    have hz : k = 0 ∨ k = 1 ∨ k = 2 ∨ k = 3 := by omega
    rcases hz with e | e | e | e <;> subst e
    · exact dk0_ok rfl rfl hl (n := 30) h
    · exact dk0_ok rfl rfl hl (n := 31) h
    · exact dk0_ok rfl rfl hl (n := 32) h
    · exact dk0_ok rfl rfl hl (n := 33) h
  case aload_n k =>
    obtain ⟨k, hk⟩ := k
    have hz : k = 0 ∨ k = 1 ∨ k = 2 ∨ k = 3 := by omega
    rcases hz with e | e | e | e <;> subst e
    · exact dk0_ok rfl rfl hl (n := 42) h
    · exact dk0_ok rfl rfl hl (n := 43) h
    · exact dk0_ok rfl rfl hl (n := 44) h
    · exact dk0_ok rfl rfl hl (n := 45) h
  case istore_n k =>
    obtain ⟨k, hk⟩ := k
    have hz : k = 0 ∨ k = 1 ∨ k = 2 ∨ k = 3 := by omega
    rcases hz with e | e | e | e <;> subst e
    · exact dk0_ok rfl rfl hl (n := 59) h
    · exact dk0_ok rfl rfl hl (n := 60) h
    · exact dk0_ok rfl rfl hl (n := 61) h
    · exact dk0_ok rfl rfl hl (n := 62) h
  case lstore_n k =>
    obtain ⟨k, hk⟩ := k
    have hz : k = 0 ∨ k = 1 ∨ k = 2 ∨ k = 3 := by omega
    rcases hz with e | e | e | e <;> subst e
    · exact dk0_ok rfl rfl hl (n := 63) h
    · exact dk0_ok rfl rfl hl (n := 64) h
    · exact dk0_ok rfl rfl hl (n := 65) h
    · exact dk0_ok rfl rfl hl (n := 66) h
  case astore_n k =>
    obtain ⟨k, hk⟩ := k
    have hz : k = 0 ∨ k = 1 ∨ k = 2 ∨ k = 3 := by omega
    rcases hz with e | e | e | e <;> subst e
    · exact dk0_ok rfl rfl hl (n := 75) h
    · exact dk0_ok rfl rfl hl (n := 76) h
    · exact dk0_ok rfl rfl hl (n := 77) h
    · exact dk0_ok rfl rfl hl (n := 78) h
  case lconst k =>
    obtain ⟨k, hk⟩ := k
    have hz : k = 0 ∨ k = 1 := by omega
    rcases hz with e | e <;> subst e
    · exact dk0_ok rfl rfl hl (n := 9) h
    · exact dk0_ok rfl rfl hl (n := 10) h
  case newarray ty =>
    cases ty
    case boolean => exact dk1_ok rfl rfl rfl hl (n := 188) (x := 4) h
    case int => exact dk1_ok rfl rfl rfl hl (n := 188) (x := 10) h
    case long => exact dk1_ok rfl rfl rfl hl (n := 188) (x := 11) h
    all_goals exact absurd h Bool.false_ne_true
  case ifCond cd x =>
    cases cd
    case eq => exact dk2s_ok rfl rfl rfl hl (n := 153) (x := x) h
    case ne => exact dk2s_ok rfl rfl rfl hl (n := 154) (x := x) h
    case lt => exact dk2s_ok rfl rfl rfl hl (n := 155) (x := x) h
    case ge => exact dk2s_ok rfl rfl rfl hl (n := 156) (x := x) h
    case gt => exact dk2s_ok rfl rfl rfl hl (n := 157) (x := x) h
    case le => exact dk2s_ok rfl rfl rfl hl (n := 158) (x := x) h
  case if_icmp cd x =>
    cases cd
    case eq => exact dk2s_ok rfl rfl rfl hl (n := 159) (x := x) h
    case ne => exact dk2s_ok rfl rfl rfl hl (n := 160) (x := x) h
    case lt => exact dk2s_ok rfl rfl rfl hl (n := 161) (x := x) h
    case ge => exact dk2s_ok rfl rfl rfl hl (n := 162) (x := x) h
    case gt => exact dk2s_ok rfl rfl rfl hl (n := 163) (x := x) h
    case le => exact dk2s_ok rfl rfl rfl hl (n := 164) (x := x) h
  case iinc x y => exact dki_ok rfl rfl rfl rfl hl (n := 132) (x := x) (y := y) h
  case iconst z =>
    obtain ⟨h0, h⟩ := dk_and (show (decide (-1 ≤ z ∧ z ≤ 5) && dk0 l (z + 3).toNat p r) = true from h)
    have h0 := of_decide_eq_true h0
    have hz : z = -1 ∨ z = 0 ∨ z = 1 ∨ z = 2 ∨ z = 3 ∨ z = 4 ∨ z = 5 := by omega
    rcases hz with e | e | e | e | e | e | e <;> subst e
    · exact dk0_ok rfl rfl hl (n := 2) h
    · exact dk0_ok rfl rfl hl (n := 3) h
    · exact dk0_ok rfl rfl hl (n := 4) h
    · exact dk0_ok rfl rfl hl (n := 5) h
    · exact dk0_ok rfl rfl hl (n := 6) h
    · exact dk0_ok rfl rfl hl (n := 7) h
    · exact dk0_ok rfl rfl hl (n := 8) h
  all_goals exact absurd h Bool.false_ne_true
def dkT (c : ByteArray) : List (Nat × Instr × Nat) → List UInt8 → Nat → Bool
  | [], _, _ => true
  | (q, i, r) :: t, l, p => Nat.beq p q && ((dkI i l p r || decide (decode c p = .ok (i, r - p))) && dkT c t (l.drop (r - p)) (p + (r - p)))
theorem dkT_ok {c : ByteArray} : ∀ (t : List (Nat × Instr × Nat)) (l : List UInt8) (p : Nat), dkL c l p → dkT c t l p = true → ∀ e ∈ t, decode c e.1 = .ok (e.2.1, e.2.2 - e.1)
  | [], _, _, _, _, e, he => absurd he List.not_mem_nil
  | (q, i, r) :: t, l, p, hl, h, e, he => by
    obtain ⟨h1, h2⟩ := dk_and (show (Nat.beq p q && ((dkI i l p r || decide (decode c p = .ok (i, r - p))) && dkT c t (l.drop (r - p)) (p + (r - p)))) = true from h)
    obtain ⟨h2, h3⟩ := dk_and h2
    have h1 := Nat.eq_of_beq_eq_true h1
    rcases List.mem_cons.mp he with he | he
    · subst he; subst h1
      rcases (Bool.or_eq_true _ _).mp h2 with h2 | h2
      · exact dkI_ok hl h2
      · exact of_decide_eq_true h2
    · exact dkT_ok t _ _ (dkL_dr hl _) h3 e he
theorem dkT_all {c : ByteArray} (t : List (Nat × Instr × Nat)) (p : Nat) (h : dkT c t (c.data.toList.drop p) p = true) : ∀ e ∈ t, decode c e.1 = .ok (e.2.1, e.2.2 - e.1) := dkT_ok t _ p rfl h
