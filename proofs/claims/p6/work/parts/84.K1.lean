/-! CONSTRUCTORS: the object made stands first in its world, what it makes comes behind -/
def okN (M : eM) : Prop := (∀ e ∈ eTab M, decode (eCode M) e.1 = .ok (e.2.1, e.2.2 - e.1)) ∧ Cond.code (eNm M) (eCode M) (eNL M) (eRet M) ∈ eTbl ∧ plainName (eNm M).cls = true ∧ (eNm M).cls = eOwn M ∧ eRet M = none
theorem okN_of {M : eM} (h : dkT (eCode M) (eTab M) (eCode M).data.toList 0 = true) (h1 : Cond.code (eNm M) (eCode M) (eNL M) (eRet M) ∈ eTbl) (h2 : plainName (eNm M).cls = true) (h3 : (eNm M).cls = eOwn M) (h4 : eRet M = none) : okN M :=
  ⟨dkT_ok (eTab M) _ 0 rfl h, h1, h2, h3, h4⟩
theorem okN.dec {M : eM} (h : okN M) (i : Nat) {pc n n' : Nat} {ins : Instr} (hd : nth (eTab M) i = some (pc, ins, n')) (hn : pc + n = n') : decode (eCode M) pc = .ok (ins, n) := by
  have h1 := h.1 _ (nth_mem hd)
  rw [h1, ← hn]
  show Except.ok (ins, pc + n - pc) = _
  rw [Nat.add_sub_cancel_left]
abbrev kT : Type := List (ClassId × FieldType)
def kQ (D : va_G) (A : Nat → Prop) (Q : va_W → kT → Prop) : Array Value → State → Outcome → State → Prop := va_Qv (S := va_W × kT) (fun u => Q u.1 u.2) (fun u t => va_P D eCl u.1 t.heap ∧ va_K D eCl u.2 t ∧ va_D A u.1) A
def kC (M : eM) (N : State → Prop) (A : Nat → Prop) (p : Program) (s : State) (m : MethodId) (args : Array Value) (meth : Method) (c : Code) : Prop :=
  okN M ∧ p.tables.exec = Jvm.exec ∧ c.code = eCode M ∧ c.maxLocals = eNL M ∧ meth.sig.returnType = none ∧ meth.locks = false ∧ s.vm.findClass (eOwn M) = some m.cls ∧ (∀ w ∈ eTbl, w.before args s = true) ∧ meth.name = "<init>" ∧ (∀ q, s.heap.size ≤ q → A q) ∧ N s
def COk (M : eM) (D : va_G) (N : State → Prop) (Q : va_W → kT → Prop) (kc ks pc : Nat) (lv : List (Nat × Value)) (st : List Value) (w : va_W) (tys : kT) : Prop :=
  ∀ (l : Launch) (p : Program) (e : Env) (s : State) (m : MethodId) (args : Array Value) (below : List Frame) (meth : Method) (c : Code) (A : Nat → Prop) (H : Heap) (locs : List Loc) (la : Array Slot),
    kC M N A p s m args meth c → va_K D eCl tys s → va_P D eCl w H → va_D A w → va_S A s.heap H locs → lv_has la (eNL M) lv →
    W p l e (eRm M) s m args below meth c H locs kc ks (MQ below (kQ D A Q) args s (eRm M).cells (eRm M).slots A) (F0 m pc la st)
/-- a constructor's contract -/
def CM (M : eM) (D : va_G) (N : State → Prop) (h0 : Nat) (As : List Value) (e0 : va_E) (Q : va_W → kT → Prop) : Prop :=
  okN M ∧ ∀ (l : Launch) (sz : Nat), Met l (eNm M) (eWs M) (eRm M) (va_Pc (.ref h0 :: As) (fun U => U.heap.size = sz ∧ va_P D eCl [(h0, e0)] U.heap ∧ va_K D eCl [] U ∧ va_D (fun _ => True) [(h0, e0)] ∧ N U)) (kQ D (va_A [(h0, e0)] sz) Q) (eRm M).cells (eRm M).slots (va_A [(h0, e0)] sz)
section K1
variable {M : eM} {D : va_G} {N : State → Prop} {Q : va_W → kT → Prop} {kc ks pc pc' tgt : Nat} {lv : List (Nat × Value)} {st : List Value} {w : va_W} {tys : kT} {h0 : Nat}
theorem CM.of {As : List Value} {e0 : va_E} (hM : okN M) (hy : (eNm M).name = "<init>") (hlen : (lg_sl (.ref h0 :: As)).length ≤ eNL M) (h : COk M D N Q 0 0 0 (lv_args 0 (.ref h0 :: As)) [] [(h0, e0)] []) : CM M D N h0 As e0 Q := by
  refine ⟨hM, fun l sz => ?_⟩
  refine Met.ofW (cc := eCode M) (maxL := eNL M) (ret := eRet M) hM.2.2.1 rfl ?_
  intro p e s m args below meth c s₁ B hml hv
  obtain ⟨rfl, hsz, hP, hK, hD0, hN⟩ := hv
  have hown : s.vm.findClass (eNm M).cls = some m.cls := findClass_of_methodNamed B.named
  have hts := atoms_spec (ws := eWs M) B.pre
  have hin : meth.name = (eNm M).name := (name_of_methodNamed B.named B.method).1
  subst hsz
  rw [lg_entry_eq]
  have hret : meth.sig.returnType = none := by rw [← hM.2.2.2.2]; exact B.returns
  have hi : meth.name = "<init>" := hin.trans hy
  exact h l p e s m _ below meth c _ s.heap [] _ ⟨hM, B.exec, B.bytes, hml, hret, B.notSynchronized, by rw [← hM.2.2.2.1]; exact hown, fun w hw => hts w (List.mem_cons_of_mem _ hw), hi, fun q hq => Or.inr hq, hN⟩ hK hP (hD0.self (sz := s.heap.size)) va_S.rf (lv_entry _ hlen)
theorem COk.go {l : Launch} {p : Program} {e : Env} {s : State} {m : MethodId} {args : Array Value} {below : List Frame} {meth : Method} {c : Code} {A : Nat → Prop} {H : Heap} {locs : List Loc} {la : Array Slot} {n : Nat}
    (k : COk M D N Q kc ks pc' lv st w tys) (C : kC M N A p s m args meth c) (hK : va_K D eCl tys s) (hP : va_P D eCl w H) (hD : va_D A w) (hS : va_S A s.heap H locs) (hL : lv_has la (eNL M) lv) (hn : n = pc') :
    W p l e (eRm M) s m args below meth c H locs kc ks (MQ below (kQ D A Q) args s (eRm M).cells (eRm M).slots A) (F0 m n la st) := by
  subst hn
  exact k l p e s m args below meth c A H locs la C hK hP hD hS hL
theorem co_ald {k : Fin 4} {x : Nat} (j : Nat) (hd : decode (eCode M) pc = .ok (.aload_n k, 1)) (hn : pc + 1 = pc') (hl : lv[j]? = some (k.val, .ref x)) (K : COk M D N Q kc ks pc' lv (.ref x :: st) w tys) : COk M D N Q kc ks pc lv st w tys := by
  intro l p e s m args below meth c A H locs la C hK hP hD hS hL
  exact lv_aload_n C.2.1 C.2.2.1 hd rfl (lv_at hL j hl) (COk.go K C hK hP hD hS hL hn)
theorem co_ild {k : Fin 4} {x : Int32} (j : Nat) (hd : decode (eCode M) pc = .ok (.iload_n k, 1)) (hn : pc + 1 = pc') (hl : lv[j]? = some (k.val, .int x)) (K : COk M D N Q kc ks pc' lv (.int x :: st) w tys) : COk M D N Q kc ks pc lv st w tys := by
  intro l p e s m args below meth c A H locs la C hK hP hD hS hL
  exact lv_iload_n C.2.1 C.2.2.1 hd rfl (lv_at hL j hl) (COk.go K C hK hP hD hS hL hn)
theorem co_ic {z : Int} (v : Int32) (hd : decode (eCode M) pc = .ok (.iconst z, 1)) (hn : pc + 1 = pc') (hv : Int32.ofInt z = v) (K : COk M D N Q kc ks pc' lv (.int v :: st) w tys) : COk M D N Q kc ks pc lv st w tys := by
  intro l p e s m args below meth c A H locs la C hK hP hD hS hL
  exact lv_iconst C.2.1 C.2.2.1 hd hv (COk.go K C hK hP hD hS hL hn)
theorem co_bp {z : Int} (v : Int32) (hd : decode (eCode M) pc = .ok (.bipush z, 2)) (hn : pc + 2 = pc') (hv : (Int8.ofInt z).toInt32 = v) (K : COk M D N Q kc ks pc' lv (.int v :: st) w tys) : COk M D N Q kc ks pc lv st w tys := by
  intro l p e s m args below meth c A H locs la C hK hP hD hS hL
  exact lv_bipush C.2.1 C.2.2.1 hd hv (COk.go K C hK hP hD hS hL hn)
theorem co_sp {z : Int} (v : Int32) (hd : decode (eCode M) pc = .ok (.sipush z, 3)) (hn : pc + 3 = pc') (hv : (Int16.ofInt z).toInt32 = v) (K : COk M D N Q kc ks pc' lv (.int v :: st) w tys) : COk M D N Q kc ks pc lv st w tys := by
  intro l p e s m args below meth c A H locs la C hK hP hD hS hL
  exact lv_sipush C.2.1 C.2.2.1 hd hv (COk.go K C hK hP hD hS hL hn)
theorem co_lc {z : Fin 2} (v : Int64) (hd : decode (eCode M) pc = .ok (.lconst z, 1)) (hn : pc + 1 = pc') (hv : Int64.ofNat z.val = v) (K : COk M D N Q kc ks pc' lv (.long v :: st) w tys) : COk M D N Q kc ks pc lv st w tys := by
  intro l p e s m args below meth c A H locs la C hK hP hD hS hL
  exact lv_lconst C.2.1 C.2.2.1 hd hv (COk.go K C hK hP hD hS hL hn)
theorem co_dup {v : Value} (hd : decode (eCode M) pc = .ok (.dup, 1)) (hn : pc + 1 = pc') (hv : v.category = 1) (K : COk M D N Q kc ks pc' lv (v :: v :: st) w tys) : COk M D N Q kc ks pc lv (v :: st) w tys := by
  intro l p e s m args below meth c A H locs la C hK hP hD hS hL
  exact lv_dup C.2.1 C.2.2.1 hd hv (COk.go K C hK hP hD hS hL hn)
theorem co_obj {x a : Nat} (hd : decode (eCode M) pc = .ok (.invokespecial x, 3)) (hn : pc + 3 = pc') (h1 : Cond.methodLink (eOwn M) x Lib.objectInit ∈ eTbl) (h2 : Cond.instanceMethod Lib.objectInit ∈ eTbl) (h3 : Cond.code Lib.objectInit ⟨#[0xb1]⟩ 1 none ∈ eTbl) (hf : 1 ≤ (eRm M).frames) (hl : 12 ≤ (eRm M).locals) (K : COk M D N Q kc ks pc' lv [] w tys) : COk M D N Q kc ks pc lv [.ref a] w tys := by
  intro l p e s m args below meth c A H locs la C hK hP hD hS hL
  refine W.objInit C.2.1 C.2.2.1 C.2.2.2.2.2.2.1 (C.2.2.2.2.2.2.2.1 _ h1) (C.2.2.2.2.2.2.2.1 _ h2) (C.2.2.2.2.2.2.2.1 _ h3) rfl (by rw [C.2.2.2.1]; exact hL.1) rfl hd hf (by show 2 * 0 + 0 + 12 ≤ _; omega) ?_
  refine W.eq (g2 := F0 m (pc + 3) la []) rfl ?_
  exact COk.go K C hK hP hD hS hL hn
theorem co_newi {n : Int32} (N' : Nat) (hd : decode (eCode M) pc = .ok (.newarray .int, 2)) (hn : pc + 2 = pc') (hw : Cond.arrayClass .int ∈ eTbl) (h0 : ¬ n < 0) (hN : n.toNatClampNeg = N') (hb : N' ≤ 100000) (hc : kc + 1 ≤ (eRm M).cells) (hs : ks + N' ≤ (eRm M).slots)
    (K : ∀ (q : Nat) (cA : ClassId), COk M D N Q (kc + 1) (ks + N') pc' lv (.ref q :: st) (w ++ [(q, .inl (cA, N', .inl (fun _ => 0)))]) (tys ++ [(cA, .int)])) : COk M D N Q kc ks pc lv (.int n :: st) w tys := by
  intro l p e s m args below meth c A H locs la C hK hP hD hS hL
  exact va_newa (atype := .int) (a0 := (N', .inl (fun _ => 0))) C.2.1 C.2.2.1 (C.2.2.2.2.2.2.2.1 _ hw) rfl hK hP hD hS C.2.2.2.2.2.2.2.2.2.1 (fun _ => rfl) h0 hN (by show N' * 4 ≤ _; omega) hc hs hd (fun q cA H1 hK1 hP1 hD1 hS1 => COk.go (K q cA) C hK1 hP1 hD1 hS1 hL hn)
theorem co_newl {n : Int32} (N' : Nat) (hd : decode (eCode M) pc = .ok (.newarray .long, 2)) (hn : pc + 2 = pc') (hw : Cond.arrayClass .long ∈ eTbl) (h0 : ¬ n < 0) (hN : n.toNatClampNeg = N') (hb : N' ≤ 100000) (hc : kc + 1 ≤ (eRm M).cells) (hs : ks + N' ≤ (eRm M).slots)
    (K : ∀ (q : Nat) (cA : ClassId), COk M D N Q (kc + 1) (ks + N') pc' lv (.ref q :: st) (w ++ [(q, .inl (cA, N', .inr (.inl (fun _ => 0))))]) (tys ++ [(cA, .long)])) : COk M D N Q kc ks pc lv (.int n :: st) w tys := by
  intro l p e s m args below meth c A H locs la C hK hP hD hS hL
  exact va_newa (atype := .long) (a0 := (N', .inr (.inl (fun _ => 0)))) C.2.1 C.2.2.1 (C.2.2.2.2.2.2.2.1 _ hw) rfl hK hP hD hS C.2.2.2.2.2.2.2.2.2.1 (fun _ => rfl) h0 hN (by show N' * 8 ≤ _; omega) hc hs hd (fun q cA H1 hK1 hP1 hD1 hS1 => COk.go (K q cA) C hK1 hP1 hD1 hS1 hL hn)
theorem co_newz {n : Int32} (N' : Nat) (hd : decode (eCode M) pc = .ok (.newarray .boolean, 2)) (hn : pc + 2 = pc') (hw : Cond.arrayClass .boolean ∈ eTbl) (h0 : ¬ n < 0) (hN : n.toNatClampNeg = N') (hb : N' ≤ 100000) (hc : kc + 1 ≤ (eRm M).cells) (hs : ks + N' ≤ (eRm M).slots)
    (K : ∀ (q : Nat) (cA : ClassId), COk M D N Q (kc + 1) (ks + N') pc' lv (.ref q :: st) (w ++ [(q, .inl (cA, N', .inl (fun _ => 0)))]) (tys ++ [(cA, .boolean)])) : COk M D N Q kc ks pc lv (.int n :: st) w tys := by
  intro l p e s m args below meth c A H locs la C hK hP hD hS hL
  exact va_newa (atype := .boolean) (a0 := (N', .inl (fun _ => 0))) C.2.1 C.2.2.1 (C.2.2.2.2.2.2.2.1 _ hw) rfl hK hP hD hS C.2.2.2.2.2.2.2.2.2.1 (fun _ => rfl) h0 hN (by show N' * 1 ≤ _; omega) hc hs hd (fun q cA H1 hK1 hP1 hD1 hS1 => COk.go (K q cA) C hK1 hP1 hD1 hS1 hL hn)
theorem co_newq {n : Int32} {x : Nat} (Cn : String) (N' : Nat) (hd : decode (eCode M) pc = .ok (.anewarray x, 3)) (hn : pc + 3 = pc') (hw : Cond.classLink (eOwn M) x Cn ∈ eTbl) (hA : ∀ U, N U → va_AO Cn U) (h0 : ¬ n < 0) (hN : n.toNatClampNeg = N') (hb : N' ≤ 100000) (hc : kc + 1 ≤ (eRm M).cells) (hs : ks + N' ≤ (eRm M).slots)
    (K : ∀ (q : Nat) (cA : ClassId), COk M D N Q (kc + 1) (ks + N') pc' lv (.ref q :: st) (w ++ [(q, .inl (cA, N', .inr (.inr (.inr (.inr (fun _ => none))))))]) (tys ++ [(cA, .object Cn)])) : COk M D N Q kc ks pc lv (.int n :: st) w tys := by
  intro l p e s m args below meth c A H locs la C hK hP hD hS hL
  exact va_newq C.2.1 C.2.2.1 C.2.2.2.2.2.2.1 (C.2.2.2.2.2.2.2.1 _ hw) (hA s C.2.2.2.2.2.2.2.2.2.2) hK hP hD hS C.2.2.2.2.2.2.2.2.2.1 h0 hN (by omega) hc hs hd (fun q cA H1 hK1 hP1 hD1 hS1 => COk.go (K q cA) C hK1 hP1 hD1 hS1 hL hn)
theorem co_putF {x ci k : Nat} {kz : Int} {v : Value} {fs : List Value} {w' : va_W} {ty : FieldType} (hd : decode (eCode M) pc = .ok (.putfield x, 3)) (hn : pc + 3 = pc') (hf : eFk (eOwn M) x ci k kz) (hfin : (((eCl.getD ci ("", fun _ => ("", "", "", false), 0)).2.1) k).2.2.2 = true) (hdecl : (((eCl.getD ci ("", fun _ => ("", "", "", false), 0)).2.1) k).1 = eOwn M) (hty : parseFieldDescriptor (((eCl.getD ci ("", fun _ => ("", "", "", false), 0)).2.1) k).2.2.1 = some ty) (hnar : narrow ty v = v) (hfit : fits ty v = true) (hl : k < fs.length)
    (K : COk M D N Q kc ks pc' lv st ((h0, .inr (ci, fs.set k v)) :: w') tys) : COk M D N Q kc ks pc lv (v :: .ref h0 :: st) ((h0, .inr (ci, fs)) :: w') tys := by
  intro l p e s m args below meth c A H locs la C hK hP hD hS hL
  obtain ⟨q, q1, q2, q3, q4, rfl⟩ := hf
  have hq : eCl.getD ci ("", fun _ => ("", "", "", false), 0) = q := by rw [List.getD_eq_getElem?_getD, q1]; rfl
  rw [hq] at hfin hty hdecl
  exact va_putF C.2.1 C.2.2.1 C.2.2.2.2.2.2.2.1 (eCl_in q1) (eTyOf.getD ci (fun _ => .int)) (eCl_ty ci q4 q q1) (eCl_nm ci q4 q q1) C.2.2.2.2.2.2.1 hK hP hD hS 0 rfl q1 k q3 (C.2.2.2.2.2.2.2.1 _ q2) (fun x h => h) hfin C.2.2.2.2.2.2.2.2.1 hdecl hty hnar hfit hl hd (fun H1 locs1 hP1 hD1 hS1 => COk.go K C hK hP1 hD1 hS1 hL hn)
theorem co_put {x ci k : Nat} {kz : Int} {v : Value} {fs : List Value} {w' : va_W} {ty : FieldType} (hd : decode (eCode M) pc = .ok (.putfield x, 3)) (hn : pc + 3 = pc') (hf : eFk (eOwn M) x ci k kz) (hfin : (((eCl.getD ci ("", fun _ => ("", "", "", false), 0)).2.1) k).2.2.2 = false) (hty : parseFieldDescriptor (((eCl.getD ci ("", fun _ => ("", "", "", false), 0)).2.1) k).2.2.1 = some ty) (hnar : narrow ty v = v) (hfit : fits ty v = true) (hl : k < fs.length)
    (K : COk M D N Q kc ks pc' lv st ((h0, .inr (ci, fs.set k v)) :: w') tys) : COk M D N Q kc ks pc lv (v :: .ref h0 :: st) ((h0, .inr (ci, fs)) :: w') tys := by
  intro l p e s m args below meth c A H locs la C hK hP hD hS hL
  obtain ⟨q, q1, q2, q3, q4, rfl⟩ := hf
  have hq : eCl.getD ci ("", fun _ => ("", "", "", false), 0) = q := by rw [List.getD_eq_getElem?_getD, q1]; rfl
  rw [hq] at hfin hty
  exact va_put C.2.1 C.2.2.1 C.2.2.2.2.2.2.2.1 (eCl_in q1) (eTyOf.getD ci (fun _ => .int)) (eCl_ty ci q4 q q1) (eCl_nm ci q4 q q1) C.2.2.2.2.2.2.1 hK hP hD hS 0 rfl q1 k q3 (C.2.2.2.2.2.2.2.1 _ q2) (fun x h => h) hfin hty hnar hfit hl hd (fun H1 locs1 hP1 hD1 hS1 => COk.go K C hK hP1 hD1 hS1 hL hn)
theorem co_get {x ci k : Nat} {kz : Int} (v : Value) {fs : List Value} {w' : va_W} (hd : decode (eCode M) pc = .ok (.getfield x, 3)) (hn : pc + 3 = pc') (hf : eFk (eOwn M) x ci k kz) (hv : fs[k]? = some v)
    (K : COk M D N Q kc ks pc' lv (v :: st) ((h0, .inr (ci, fs)) :: w') tys) : COk M D N Q kc ks pc lv (.ref h0 :: st) ((h0, .inr (ci, fs)) :: w') tys := by
  intro l p e s m args below meth c A H locs la C hK hP hD hS hL
  obtain ⟨q, q1, q2, q3, q4, rfl⟩ := hf
  exact va_get C.2.1 C.2.2.1 C.2.2.2.2.2.2.2.1 (eCl_in q1) C.2.2.2.2.2.2.1 hK hP 0 rfl q1 k q3 (C.2.2.2.2.2.2.2.1 _ q2) (fun x h => h) hv hd (COk.go K C hK hP hD hS hL hn)
theorem co_new {x ci : Nat} (fs : List Value) (hd : decode (eCode M) pc = .ok (.new x, 3)) (hn : pc + 3 = pc') (q : vw_C) (hc : eCl[ci]? = some q) (hci : ci < 11) (h1 : Cond.classLink (eOwn M) x q.1 ∈ eTbl) (h2 : Cond.instantiable q.1 q.2.2 ∈ eTbl) (h3 : Cond.initialized q.1 ∈ eTbl) (hfs : ∀ j, j < q.2.2 → defaultValue ((eTyOf.getD ci (fun _ => .int)) j) = vp_V fs j) (hcc : kc + 1 ≤ (eRm M).cells) (hs : ks + q.2.2 ≤ (eRm M).slots)
    (K : ∀ a : Nat, COk M D N Q (kc + 1) (ks + q.2.2) pc' lv (.ref a :: st) (w ++ [(a, .inr (ci, fs))]) tys) : COk M D N Q kc ks pc lv st w tys := by
  intro l p e s m args below meth c A H locs la C hK hP hD hS hL
  obtain ⟨Cn, T, n⟩ := q
  exact va_new C.2.1 C.2.2.1 C.2.2.2.2.2.2.2.1 (eCl_in hc) (eTyOf.getD ci (fun _ => .int)) (eCl_ty ci hci _ hc) C.2.2.2.2.2.2.1 (C.2.2.2.2.2.2.2.1 _ h1) (C.2.2.2.2.2.2.2.1 _ h2) (C.2.2.2.2.2.2.2.1 _ h3) hK hP hD hS C.2.2.2.2.2.2.2.2.2.1 hc hfs hcc hs hd (fun a H1 hP1 hD1 hS1 => COk.go (K a) C hK hP1 hD1 hS1 hL hn)
theorem va_P.lef {D : va_G} {cl : List vw_C} {a b : va_W} {H : Heap} (h : va_P D cl (a ++ b) H) : va_P D cl a H := fun k q hk => h k q (by rw [List.getElem?_append_left (List.getElem?_eq_some_iff.mp hk).1]; exact hk)
theorem va_P.rig {D : va_G} {cl : List vw_C} {a b : va_W} {H : Heap} (h : va_P D cl (a ++ b) H) : va_P D cl b H := fun k q hk => h (a.length + k) q (by rw [List.getElem?_append_right (by omega), Nat.add_sub_cancel_left]; exact hk)
theorem va_D.lef {A : Nat → Prop} {a b : va_W} (h : va_D A (a ++ b)) : va_D A a := by
  have e : ∀ (k : Nat) (q : Nat × va_E), a[k]? = some q → (a ++ b)[k]? = some q := fun k q hk => by rw [List.getElem?_append_left (List.getElem?_eq_some_iff.mp hk).1]; exact hk
  exact ⟨fun i j p q hp hq hpq => h.1 i j p q (e i p hp) (e j q hq) hpq, fun k q hk => h.2 k q (e k q hk)⟩
theorem va_D.rig {A : Nat → Prop} {a b : va_W} (h : va_D A (a ++ b)) : va_D A b := by
  have e : ∀ (k : Nat) (q : Nat × va_E), b[k]? = some q → (a ++ b)[a.length + k]? = some q := fun k q hk => by rw [List.getElem?_append_right (by omega), Nat.add_sub_cancel_left]; exact hk
  exact ⟨fun i j p q hp hq hpq => by have := h.1 _ _ p q (e i p hp) (e j q hq) hpq; omega, fun k q hk => h.2 _ q (e k q hk)⟩
theorem va_D.apt {A : Nat → Prop} {a b : va_W} (h : va_D A (a ++ b)) {i j : Nat} {p q : Nat × va_E} (hp : a[i]? = some p) (hq : b[j]? = some q) : p.1 ≠ q.1 := fun e => by
  have hi := (List.getElem?_eq_some_iff.mp hp).1
  have := h.1 i (a.length + j) p q (by rw [List.getElem?_append_left hi]; exact hp) (by rw [List.getElem?_append_right (by omega), Nat.add_sub_cancel_left]; exact hq) e
  omega
/-- behind a call on the last cells: what came back stands in their place, the rest is unchanged -/
theorem k_join {A0 : Nat → Prop} {D : va_G} {cl : List vw_C} {w0 wc w1 : va_W} {H H1 : Heap} (hP : va_P D cl (w0 ++ wc) H) (hD : va_D A0 (w0 ++ wc)) (hk : ∀ q : Nat, q < H.size → ¬ va_A wc H.size q → H1[q]? = H[q]?) (hF : ∀ q, va_A wc H.size q → A0 q) (hP1 : va_P D cl w1 H1) (hD1 : va_D (va_A wc H.size) w1) : va_P D cl (w0 ++ w1) H1 ∧ va_D A0 (w0 ++ w1) := by
  have nA : ∀ (k : Nat) (q : Nat × va_E), w0[k]? = some q → ¬ va_A wc H.size q.1 := by
    intro k q hq h
    rcases h with ⟨j, e, hj⟩ | h
    · exact hD.apt hq hj rfl
    · have := (hP.lef k q hq).lt
      omega
  refine ⟨(hP.lef.kept (fun k q hq => hk q.1 ((hP.lef k q hq).lt) (nA k q hq))).app hP1, hD.lef.app (hD1.weaken (fun k q hq h => hF _ h)) (fun i j p q hp hq e => nA i p hp (by rw [e]; exact hD1.2 j q hq))⟩
theorem k_free {A0 : Nat → Prop} {w0 wc : va_W} {H0 H : Heap} {locs : List Loc} (hD : va_D A0 (w0 ++ wc)) (hS : va_S A0 H0 H locs) (hA : ∀ q, H0.size ≤ q → A0 q) : ∀ q, va_A wc H.size q → A0 q := by
  intro q h
  rcases h with ⟨j, e, hj⟩ | h
  · exact hD.rig.2 j _ hj
  · exact hA q (Nat.le_trans hS.1 h)
theorem va_K.app0 {D : va_G} {cl : List vw_C} {tys : kT} {s : State} (h : va_K D cl tys s) : va_K D cl [] s := ⟨h.1, fun k q hk => by simp at hk⟩
/-- a call of another class's constructor on the newest object -/
theorem co_call {x q : Nat} {M' : eM} {N2 : State → Prop} {Q2 : va_W → kT → Prop} {As : List Value} {e0 : va_E} {st0 : List Value} (hd : decode (eCode M) pc = .ok (.invokespecial x, 3)) (hn : pc + 3 = pc') (hM : CM M' D N2 q As e0 Q2) (hl : Cond.methodLink (eOwn M) x (eNm M') ∈ eTbl) (hini : Cond.initialized (eNm M').cls ∈ eTbl) (hi : Cond.instanceMethod (eNm M') ∈ eTbl) (hy : (eNm M').name = "<init>")
    (hy2 : (eNm M').cls ≠ "java/lang/invoke/MethodHandle" ∧ (eNm M').cls ≠ "java/lang/invoke/VarHandle" ∧ (parseMethodDescriptor (eNm M').desc).map (fun d => d.parameters.length) = some As.length) (hr : (eRm M').frames + 1 ≤ (eRm M).frames ∧ 8 + (eNL M' + 11) + (eRm M').locals ≤ (eRm M).locals) (hst : st0 = As.reverse ++ .ref q :: st) (hw : (st.map fun v => v.category).sum ≤ 8) (hcc : kc + (eRm M').cells ≤ (eRm M).cells ∧ ks + (eRm M').slots ≤ (eRm M).slots)
    (hN : ∀ (s U : State), N s → s.WarmedH U.vm → N2 U) (hB : ∀ (a : Array Value) (U : State) g mk, N2 U → N2 (U.calling g mk a))
    (K : ∀ w1 t1, Q2 w1 t1 → COk M D N Q (kc + (eRm M').cells) (ks + (eRm M').slots) pc' lv st (w ++ w1) (tys ++ t1)) : COk M D N Q kc ks pc lv st0 (w ++ [(q, e0)]) tys := by
  intro l p e s m args below meth c A H locs la C hK hP hD hS hL
  subst hst
  have hts := C.2.2.2.2.2.2.2.1
  have hg : GoodIn eTbl (eWs M') := eGoodIn fun w hw => by
    rcases List.mem_cons.mp hw with rfl | hw
    · exact hM.1.2.1
    · exact hw
  have hw0 : eWs M' = Cond.code (eNm M') (eCode M') (eNL M') none :: eTbl := by unfold eWs; rw [hM.1.2.2.2.2]
  have hFc := k_free hD hS C.2.2.2.2.2.2.2.2.2.1
  refine va_callv (S := va_W × kT) (post := fun u => Q2 u.1 u.2) (B := fun u t => va_P D eCl u.1 t.heap ∧ va_K D eCl u.2 t ∧ va_D (va_A [(q, e0)] H.size) u.1) (va_runI (As := As) (rest := st) (n := As.length) ⟨C.2.1, C.2.2.1, C.2.2.2.1, C.2.2.2.2.2.2.1, hts⟩ (hM.2 l H.size) (cwI As.length hts hg hw0 rfl rfl (hts _ hini) (hts _ hl) (hts _ hi) hy hy2 hr) ⟨fun a U g mk z => ?_, fun U hU hW => ?_⟩ rfl rfl hL.1 rfl (lv_room hw) hd hcc) hS (fun z _ h => hFc z h) hFc (fun u t H1 locs1 ht hvm hq hB1 hz1 hk1 hS1 => ?_)
  · obtain ⟨z0, z1, zP, zK, zD, zN⟩ := z
    exact ⟨z0, z1, zP, va_K.moved (u := U) (U := U.calling g mk a) (Vm.Alike.refl U.vm) zK, zD, hB a U g mk zN⟩
  · exact ⟨rfl, by rw [hU], by rw [hU]; exact hP.rig, va_K.moved hW.alike hK.app0, hD.rig.weaken (fun _ _ _ _ => trivial), hN s U C.2.2.2.2.2.2.2.2.2.2 hW⟩
  · obtain ⟨hP1, hK1, hD1⟩ := hB1
    rw [ht] at hP1
    obtain ⟨hP2, hD2⟩ := k_join hP hD hk1 hFc hP1 hD1
    exact COk.go (K u.1 u.2 hq) C (hK.app (va_K.moved hvm.symm hK1)) hP2 hD2 hS1 hL hn
theorem co_callN {x q : Nat} {M' : eM} {N2 : State → Prop} {Q2 : va_W → kT → Prop} {As : List Value} {e0 : va_E} {st0 : List Value} (host : String) (hd : decode (eCode M) pc = .ok (.invokespecial x, 3)) (hn : pc + 3 = pc') (hM : CM M' D N2 q As e0 Q2) (hl : ∀ U, N U → va_Nw (.methodLinkNest (eOwn M) x (eNm M') host) U) (hini : Cond.initialized (eNm M').cls ∈ eTbl) (hi : Cond.instanceMethod (eNm M') ∈ eTbl) (hy : (eNm M').name = "<init>")
    (hy2 : (eNm M').cls ≠ "java/lang/invoke/MethodHandle" ∧ (eNm M').cls ≠ "java/lang/invoke/VarHandle" ∧ (parseMethodDescriptor (eNm M').desc).map (fun d => d.parameters.length) = some As.length) (hr : (eRm M').frames + 1 ≤ (eRm M).frames ∧ 8 + (eNL M' + 11) + (eRm M').locals ≤ (eRm M).locals) (hst : st0 = As.reverse ++ .ref q :: st) (hw : (st.map fun v => v.category).sum ≤ 8) (hcc : kc + (eRm M').cells ≤ (eRm M).cells ∧ ks + (eRm M').slots ≤ (eRm M).slots)
    (hN : ∀ (s U : State), N s → s.WarmedH U.vm → N2 U) (hB : ∀ (a : Array Value) (U : State) g mk, N2 U → N2 (U.calling g mk a))
    (K : ∀ w1 t1, Q2 w1 t1 → COk M D N Q (kc + (eRm M').cells) (ks + (eRm M').slots) pc' lv st (w ++ w1) (tys ++ t1)) : COk M D N Q kc ks pc lv st0 (w ++ [(q, e0)]) tys := by
  intro l p e s m args below meth c A H locs la C hK hP hD hS hL
  subst hst
  have hts := C.2.2.2.2.2.2.2.1
  have hg : GoodIn eTbl (eWs M') := eGoodIn fun w hw => by
    rcases List.mem_cons.mp hw with rfl | hw
    · exact hM.1.2.1
    · exact hw
  have hw0 : eWs M' = Cond.code (eNm M') (eCode M') (eNL M') none :: eTbl := by unfold eWs; rw [hM.1.2.2.2.2]
  have hFc := k_free hD hS C.2.2.2.2.2.2.2.2.2.1
  refine va_callv (S := va_W × kT) (post := fun u => Q2 u.1 u.2) (B := fun u t => va_P D eCl u.1 t.heap ∧ va_K D eCl u.2 t ∧ va_D (va_A [(q, e0)] H.size) u.1) (va_runIN (host := host) (As := As) (rest := st) (n := As.length) ⟨C.2.1, C.2.2.1, C.2.2.2.1, C.2.2.2.2.2.2.1, hts⟩ (hM.2 l H.size) ⟨va_cnB As.length hts hg hw0 rfl rfl (hl s C.2.2.2.2.2.2.2.2.2.2) (hts _ hini) hy2 hr, hy, hts _ hi⟩ ⟨fun a U g mk z => ?_, fun U hU hW => ?_⟩ rfl rfl hL.1 rfl (lv_room hw) hd hcc) hS (fun z _ h => hFc z h) hFc (fun u t H1 locs1 ht hvm hq hB1 hz1 hk1 hS1 => ?_)
  · obtain ⟨z0, z1, zP, zK, zD, zN⟩ := z
    exact ⟨z0, z1, zP, va_K.moved (u := U) (U := U.calling g mk a) (Vm.Alike.refl U.vm) zK, zD, hB a U g mk zN⟩
  · exact ⟨rfl, by rw [hU], by rw [hU]; exact hP.rig, va_K.moved hW.alike hK.app0, hD.rig.weaken (fun _ _ _ _ => trivial), hN s U C.2.2.2.2.2.2.2.2.2.2 hW⟩
  · obtain ⟨hP1, hK1, hD1⟩ := hB1
    rw [ht] at hP1
    obtain ⟨hP2, hD2⟩ := k_join hP hD hk1 hFc hP1 hD1
    exact COk.go (K u.1 u.2 hq) C (hK.app (va_K.moved hvm.symm hK1)) hP2 hD2 hS1 hL hn
theorem co_ret (hd : decode (eCode M) pc = .ok (.return_, 1)) (hc : kc = (eRm M).cells) (hs : ks = (eRm M).slots) (hQ : Q w tys) : COk M D N Q kc ks pc lv [] w tys := by
  intro l p e s m args below meth c A H locs la C hK hP hD hS hL
  subst hc; subst hs
  exact W.vret C.2.1 C.2.2.1 C.2.2.2.2.1 (fun t ht hW => ⟨⟨(w, tys), rfl, hQ, by rw [ht]; exact hP, va_K.moved hW.alike hK, hD⟩, hS.F ht⟩) hS.2.2 hd C.2.2.2.2.2.1
theorem co_ist {k : Fin 4} {x : Int32} (lv' : List (Nat × Value)) (hd : decode (eCode M) pc = .ok (.istore_n k, 1)) (hn : pc + 1 = pc') (hk : k.val < eNL M) (hl : (k.val, Value.int x) :: lv.filter (fun q => !(q.1 == k.val) && !(q.1 + 1 == k.val && q.2.category == 2)) = lv') (K : COk M D N Q kc ks pc' lv' st w tys) : COk M D N Q kc ks pc lv (.int x :: st) w tys := by
  intro l p e s m args below meth c A H locs la C hK hP hD hS hL
  exact lv_istore_n C.2.1 C.2.2.1 hd rfl hL hk hl (fun la' h' => COk.go K C hK hP hD hS h' hn)
theorem co_inc {i j : Nat} {n : Int} {x : Int32} (v : Int32) (lv' : List (Nat × Value)) (hd : decode (eCode M) pc = .ok (.iinc i n, 3)) (hn : pc + 3 = pc') (hk : lv[j]? = some (i, .int x)) (hv : x + Int32.ofInt n = v) (hi : i < eNL M) (hl : (i, Value.int v) :: lv.filter (fun q => !(q.1 == i) && !(q.1 + 1 == i && q.2.category == 2)) = lv') (K : COk M D N Q kc ks pc' lv' st w tys) : COk M D N Q kc ks pc lv st w tys := by
  intro l p e s m args below meth c A H locs la C hK hP hD hS hL
  exact lv_iinc C.2.1 C.2.2.1 hd hL hk hv hi hl (fun la' h' => COk.go K C hK hP hD hS h' hn)
theorem co_goto {off : Int} (hd : decode (eCode M) pc = .ok (.goto off, 3)) (ht : (pc : Int) + off = (tgt : Int)) (K : COk M D N Q kc ks tgt lv st w tys) : COk M D N Q kc ks pc lv st w tys := by
  intro l p e s m args below meth c A H locs la C hK hP hD hS hL
  exact lv_goto C.2.1 C.2.2.1 hd ht (COk.go K C hK hP hD hS hL rfl)
theorem co_geT {off : Int} {x y : Int32} (hd : decode (eCode M) pc = .ok (.if_icmp .ge off, 3)) (ht : (pc : Int) + off = (tgt : Int)) (h : y ≤ x) (K : COk M D N Q kc ks tgt lv st w tys) : COk M D N Q kc ks pc lv (.int y :: .int x :: st) w tys := by
  intro l p e s m args below meth c A H locs la C hK hP hD hS hL
  exact lv_icmp_ge C.2.1 C.2.2.1 hd ht (fun _ => COk.go K C hK hP hD hS hL rfl) (fun z => absurd h z)
theorem co_geF {off : Int} {x y : Int32} (hd : decode (eCode M) pc = .ok (.if_icmp .ge off, 3)) (hn : pc + 3 = pc') (ht : (pc : Int) + off = (tgt : Int)) (h : ¬ y ≤ x) (K : COk M D N Q kc ks pc' lv st w tys) : COk M D N Q kc ks pc lv (.int y :: .int x :: st) w tys := by
  intro l p e s m args below meth c A H locs la C hK hP hD hS hL
  exact lv_icmp_ge C.2.1 C.2.2.1 hd ht (fun z => absurd z h) (fun _ => COk.go K C hK hP hD hS hL hn)
theorem co_gtT {off : Int} {x y : Int32} (hd : decode (eCode M) pc = .ok (.if_icmp .gt off, 3)) (ht : (pc : Int) + off = (tgt : Int)) (h : y < x) (K : COk M D N Q kc ks tgt lv st w tys) : COk M D N Q kc ks pc lv (.int y :: .int x :: st) w tys := by
  intro l p e s m args below meth c A H locs la C hK hP hD hS hL
  exact lv_icmp_gt C.2.1 C.2.2.1 hd ht (fun _ => COk.go K C hK hP hD hS hL rfl) (fun z => absurd h z)
theorem co_gtF {off : Int} {x y : Int32} (hd : decode (eCode M) pc = .ok (.if_icmp .gt off, 3)) (hn : pc + 3 = pc') (ht : (pc : Int) + off = (tgt : Int)) (h : ¬ y < x) (K : COk M D N Q kc ks pc' lv st w tys) : COk M D N Q kc ks pc lv (.int y :: .int x :: st) w tys := by
  intro l p e s m args below meth c A H locs la C hK hP hD hS hL
  exact lv_icmp_gt C.2.1 C.2.2.1 hd ht (fun z => absurd z h) (fun _ => COk.go K C hK hP hD hS hL hn)
/-- a reference into an array of references -/
theorem co_astq {a v n : Nat} {i : Int32} {cA : ClassId} {f : Nat → Option Nat} {vs : List Value} (q0 t0 qk ci : Nat) (r : vw_C) (hd : decode (eCode M) pc = .ok (.aastore, 1)) (hn : pc + 1 = pc') (ha : w[q0]? = some (a, .inl (cA, n, .inr (.inr (.inr (.inr f)))))) (ht : tys[t0]? = some (cA, .object r.1)) (hv : w[qk]? = some (v, .inr (ci, vs))) (hc : eCl[ci]? = some r) (hin : vp_in i n)
    (K : COk M D N Q kc ks pc' lv st (w.set q0 (a, .inl (cA, n, .inr (.inr (.inr (.inr (va_up f i.toNatClampNeg (some v)))))))) tys) : COk M D N Q kc ks pc lv (.ref v :: .int i :: .ref a :: st) w tys := by
  intro l p e s m args below meth c A H locs la C hK hP hD hS hL
  exact va_astq C.2.1 C.2.2.1 hK hP hD hS q0 t0 qk ci ha ht hv hc hin hd (fun H1 locs1 hP1 hD1 hS1 => COk.go K C hK hP1 hD1 hS1 hL hn)
theorem co_astQ {a v n : Nat} {i : Int32} {cA : ClassId} {f : Nat → Option Nat} {vs : List Value} (q0 t0 qk ci j : Nat) (r : vw_C) (hd : decode (eCode M) pc = .ok (.aastore, 1)) (hn : pc + 1 = pc') (ha : w[q0]? = some (a, .inl (cA, n, .inr (.inr (.inr (.inr f)))))) (ht : tys[t0]? = some (cA, .object r.1)) (hv : w[qk]? = some (v, .inr (ci, vs))) (hc : eCl[ci]? = some r) (hin : vp_in i n) (hj : i.toNatClampNeg = j)
    (K : COk M D N Q kc ks pc' lv st (w.set q0 (a, .inl (cA, n, .inr (.inr (.inr (.inr (va_up f j (some v)))))))) tys) : COk M D N Q kc ks pc lv (.ref v :: .int i :: .ref a :: st) w tys := by
  subst hj
  exact co_astq q0 t0 qk ci r hd hn ha ht hv hc hin K
end K1
