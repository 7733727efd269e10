/-! PURE STATES: a value is an int, a long, or a reference (the number of a cell) or null; a state is a number for each cell and place -/
abbrev eV : Type := Int ⊕ (Int ⊕ Option Nat)
abbrev eS : Type := Nat → Int → Int
abbrev eSh : Type := List (Nat × Nat × List Nat)
abbrev eM : Type := String × MethodName × ByteArray × Nat × Option FieldType × Room × List (Nat × Instr × Nat)
abbrev vi (z : Int) : eV := .inl z
abbrev vl (z : Int) : eV := .inr (.inl z)
abbrev vr (c : Nat) : eV := .inr (.inr (some c))
abbrev vn : eV := .inr (.inr none)
abbrev eOwn (M : eM) : String := M.1
abbrev eNm (M : eM) : MethodName := M.2.1
abbrev eCode (M : eM) : ByteArray := M.2.2.1
abbrev eNL (M : eM) : Nat := M.2.2.2.1
abbrev eRet (M : eM) : Option FieldType := M.2.2.2.2.1
abbrev eRm (M : eM) : Room := M.2.2.2.2.2.1
abbrev eTab (M : eM) : List (Nat × Instr × Nat) := M.2.2.2.2.2.2
abbrev rg (z : Int) : Prop := -2147483648 ≤ z ∧ z < 2147483648
abbrev rl (z : Int) : Prop := -9223372036854775808 ≤ z ∧ z < 9223372036854775808
def wr (z : Int) : Int := (Int32.ofInt z).toInt
def wl (z : Int) : Int := (Int64.ofInt z).toInt
def eTbl : List Cond := lw_tbl.filter goodWord
theorem eTbl_in {w : Cond} (h : w ∈ eTbl) : w ∈ lw_tbl := (List.mem_filter.mp h).1
theorem eTbl_good {w : Cond} (h : w ∈ eTbl) : goodWord w = true := (List.mem_filter.mp h).2
theorem eTbl_mk {w : Cond} (h : w ∈ lw_tbl) (g : goodWord w = true) : w ∈ eTbl := List.mem_filter.mpr ⟨h, g⟩
/-- the n-th of a list, by its numeral -/
def nth {α : Type} : List α → Nat → Option α
  | [], _ => none
  | a :: _, 0 => some a
  | _ :: l, n + 1 => nth l n
theorem nth_mem {α : Type} : ∀ {l : List α} {n : Nat} {a : α}, nth l n = some a → a ∈ l
  | [], _, _, h => by cases h
  | b :: l, 0, a, h => by cases h; exact List.mem_cons_self
  | b :: l, n + 1, a, h => List.mem_cons_of_mem _ (nth_mem (l := l) (n := n) h)
theorem nth_get {α : Type} : ∀ {l : List α} {n : Nat} {a : α}, nth l n = some a → l[n]? = some a
  | [], _, _, h => by cases h
  | b :: l, 0, a, h => by cases h; rfl
  | b :: l, n + 1, a, h => by rw [List.getElem?_cons_succ]; exact nth_get (l := l) (n := n) h
def eWs (M : eM) : List Cond := Cond.code (eNm M) (eCode M) (eNL M) (eRet M) :: eTbl
/-- a method's table is its code, its word stands in the tables -/
def okM (M : eM) : Prop := (∀ e ∈ eTab M, decode (eCode M) e.1 = .ok (e.2.1, e.2.2 - e.1)) ∧ Cond.code (eNm M) (eCode M) (eNL M) (eRet M) ∈ eTbl ∧ plainName (eNm M).cls = true ∧ (eNm M).cls = eOwn M ∧ (eRm M).cells = 0 ∧ (eRm M).slots = 0
theorem okM.dec {M : eM} (h : okM M) {i pc n n' : Nat} {ins : Instr} (hd : nth (eTab M) i = some (pc, ins, n')) (hn : pc + n = n') : decode (eCode M) pc = .ok (ins, n) := by
  have h1 := h.1 _ (nth_mem hd)
  rw [h1, ← hn]
  show Except.ok (ins, pc + n - pc) = _
  rw [Nat.add_sub_cancel_left]
/-! values of the machine -/
def eR (ad : Nat → Nat) : eV → Value
  | .inl z => .int (Int32.ofInt z)
  | .inr (.inl z) => .long (Int64.ofInt z)
  | .inr (.inr none) => .null
  | .inr (.inr (some c)) => .ref (ad c)
def eK : eV → Prop
  | .inl z => rg z
  | .inr (.inl z) => rl z
  | .inr (.inr _) => True
def eKs : List eV → Prop
  | [] => True
  | v :: l => eK v ∧ eKs l
def eCat : eV → Nat
  | .inr (.inl _) => 2
  | _ => 1
theorem eR_cat (ad : Nat → Nat) (v : eV) : (eR ad v).category = eCat v := by
  rcases v with z | z | _ | c <;> rfl
def eFv (ad : Nat → Nat) (z : Int) (t : Nat) : Value := if t = 1 then .long (Int64.ofInt z) else if t < 3 then .int (Int32.ofInt z) else .ref (ad (t - 3))
def eTy : Nat → FieldType
  | 2 => .long
  | 3 => .boolean
  | 4 => .object "EvenTables$Table"
  | 5 => .object "EvenTables$Peeler"
  | _ => .int
def eE (dA : Nat → ClassId) (ad : Nat → Nat) (σ : eS) (c : Nat) (r : Nat × Nat × List Nat) : va_E :=
  if r.1 = 0 then .inr (r.2.1, r.2.2.mapIdx (fun k t => eFv ad (σ c (k : Nat)) t))
  else if r.1 = 2 then .inl (dA c, r.2.1, .inr (.inl (fun k => Int64.ofInt (σ c ((k : Nat) : Int)))))
  else if r.1 = 4 ∨ r.1 = 5 then .inl (dA c, r.2.1, .inr (.inr (.inr (.inr (fun k => r.2.2[k]?.map ad)))))
  else .inl (dA c, r.2.1, .inl (fun k => Int32.ofInt (σ c ((k : Nat) : Int))))
def eW (sh : eSh) (dA : Nat → ClassId) (ad : Nat → Nat) (σ : eS) : va_W := sh.mapIdx (fun c r => (ad c, eE dA ad σ c r))
def eA (sh : eSh) (ad : Nat → Nat) : Nat → Prop := fun q => ∃ c, c < sh.length ∧ q = ad c
def eKA (sh : eSh) (dA : Nat → ClassId) (U : State) : Prop := ∀ (c : Nat) (r : Nat × Nat × List Nat), sh[c]? = some r → r.1 ≠ 0 → ArrOfT U (dA c) (eTy r.1) ∧ va_RA U (dA c) (eTy r.1)
def eLong (sh : eSh) (c : Nat) (k : Int) : Bool := match sh[c]? with
  | some (0, _, ts) => ts[k.toNat]? == some 1
  | some (2, _, _) => true
  | _ => false
/-- the numbers are in the range of their types -/
def eGd (sh : eSh) (σ : eS) : Prop := ∀ c (k : Int), rl (σ c k) ∧ (eLong sh c k = false → rg (σ c k))
def eInj (sh : eSh) (ad : Nat → Nat) : Prop := ∀ i j, i < sh.length → j < sh.length → ad i = ad j → i = j
theorem eW_at {sh : eSh} {dA : Nat → ClassId} {ad : Nat → Nat} {σ : eS} {c : Nat} {r : Nat × Nat × List Nat} (h : sh[c]? = some r) : (eW sh dA ad σ)[c]? = some (ad c, eE dA ad σ c r) := by
  simp [eW, h]
theorem eW_inv {sh : eSh} {dA : Nat → ClassId} {ad : Nat → Nat} {σ : eS} {c : Nat} {q : Nat × va_E} (h : (eW sh dA ad σ)[c]? = some q) : ∃ r, sh[c]? = some r ∧ q = (ad c, eE dA ad σ c r) := by
  simp only [eW, List.getElem?_mapIdx, Option.map_eq_some_iff] at h
  obtain ⟨r, h1, h2⟩ := h
  exact ⟨r, h1, h2.symm⟩
theorem eD {sh : eSh} {dA : Nat → ClassId} {ad : Nat → Nat} {σ : eS} (h : eInj sh ad) : va_D (eA sh ad) (eW sh dA ad σ) := by
  refine ⟨fun i j p q hp hq hpq => ?_, fun k q hk => ?_⟩
  · obtain ⟨r1, h1, rfl⟩ := eW_inv hp
    obtain ⟨r2, h2, rfl⟩ := eW_inv hq
    exact h i j (List.getElem?_eq_some_iff.mp h1).1 (List.getElem?_eq_some_iff.mp h2).1 hpq
  · obtain ⟨r, h1, rfl⟩ := eW_inv hk
    exact ⟨k, (List.getElem?_eq_some_iff.mp h1).1, rfl⟩
/-! locals -/
def eLs (la : Array Slot) (nL : Nat) (ad : Nat → Nat) (ls : List (Option eV)) : Prop := la.size = nL ∧ ls.length = nL ∧ lv_wf la ∧ ∀ (i : Nat) (v : eV), ls[i]? = some (some v) → la[i]? = some (.val (eR ad v)) ∧ eK v
/-! the judgements -/
def eQ (sh : eSh) (D : va_G) (dA : Nat → ClassId) (ad : Nat → Nat) (Q : eS → Option eV → Prop) : Array Value → State → Outcome → State → Prop := fun _ st oc t =>
  (∃ (v : Option eV) (σ : eS), oc = .returned (v.map (eR ad)) ∧ Q σ v ∧ (∀ x, v = some x → eK x) ∧ eGd sh σ ∧ va_P D eCl (eW sh dA ad σ) t.heap) ∧ va_F (eA sh ad) st t
def eCx (sh : eSh) (M : eM) (p : Program) (s : State) (m : MethodId) (args : Array Value) (meth : Method) (c : Code) (D : va_G) (dA : Nat → ClassId) (ad : Nat → Nat) : Prop :=
  okM M ∧ p.tables.exec = Jvm.exec ∧ c.code = eCode M ∧ c.maxLocals = eNL M ∧ meth.sig.returnType = eRet M ∧ meth.locks = false ∧ s.vm.findClass (eOwn M) = some m.cls ∧ (∀ w ∈ eTbl, w.before args s = true) ∧ va_K D eCl [] s ∧ eKA sh dA s ∧ eInj sh ad
def eHp (sh : eSh) (s : State) (D : va_G) (dA : Nat → ClassId) (ad : Nat → Nat) (σ : eS) (H : Heap) (locs : List Loc) : Prop := va_P D eCl (eW sh dA ad σ) H ∧ va_S (eA sh ad) s.heap H locs ∧ eGd sh σ
def Ok (sh : eSh) (M : eM) (pc : Nat) (ls : List (Option eV)) (st : List eV) (σ : eS) (Q : eS → Option eV → Prop) : Prop :=
  ∀ (l : Launch) (p : Program) (e : Env) (s : State) (m : MethodId) (args : Array Value) (below : List Frame) (meth : Method) (c : Code) (D : va_G) (dA : Nat → ClassId) (ad : Nat → Nat) (H : Heap) (locs : List Loc) (la : Array Slot),
    eCx sh M p s m args meth c D dA ad → eHp sh s D dA ad σ H locs → eLs la (eNL M) ad ls → eKs st →
    W p l e (eRm M) s m args below meth c H locs 0 0 (MQ below (eQ sh D dA ad Q) args s 0 0 (eA sh ad)) (F0 m pc la (st.map (eR ad)))
def ePc (sh : eSh) (D : va_G) (dA : Nat → ClassId) (ad : Nat → Nat) (as : List eV) (σ : eS) : Array Value → State → Prop := fun v U =>
  v = (as.map (eR ad)).toArray ∧ va_P D eCl (eW sh dA ad σ) U.heap ∧ va_K D eCl [] U ∧ eKA sh dA U
/-- the method, called with these arguments in this state, ends as Q says -/
def Mt (sh : eSh) (M : eM) (as : List eV) (σ : eS) (Q : eS → Option eV → Prop) : Prop :=
  okM M ∧ ∀ (l : Launch) (D : va_G) (dA : Nat → ClassId) (ad : Nat → Nat), eInj sh ad → eKs as → eGd sh σ → Met l (eNm M) (eWs M) (eRm M) (ePc sh D dA ad as σ) (eQ sh D dA ad Q) 0 0 (eA sh ad)
def eAr : List eV → List (Option eV)
  | [] => []
  | .inr (.inl z) :: l => some (vl z) :: none :: eAr l
  | v :: l => some v :: eAr l
def eIn (as : List eV) (n : Nat) : List (Option eV) := eAr as ++ List.replicate (n - (eAr as).length) none
