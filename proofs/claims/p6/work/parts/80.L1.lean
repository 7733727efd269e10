/-! THE CLAIM OUT OF ONE WALK OF THE LAW'S BODY. Your part is whole_start (and what it stands on); all else here is the same for every law, but numbers. -/
def R_law : String := "EvenTablesLaw"
def lw_P (b : Addr) (xs : List Int32) (args : Array Value) (s : State) : Prop := args = #[.ref b] ∧ s.IntsAt b xs ∧ xs.length ≤ 4096 ∧ (Jvm.Cond.and given_1 narrow_1).before args s = true
def lw_Q (_ : Array Value) (s : State) (o : Outcome) (t : State) : Prop := o = .returned (some (.int 1)) ∧ Framed s o t [] 600000 7302250
def lw_Z (below : List Frame) (a : Array Value) (s : State) : State → Prop := fun t => ∃ o, t.status = .running ∧ Ended t below o ∧ lw_Q a s o t
/-- the law's own end, with 1 on the stack, nothing written that was there before, its room as the claim has it -/
theorem lw_ret {p : Program} {l : Launch} {e : Env} {s : State} {m : MethodId} {below : List Frame} {meth : Method} {c : Code} {b : Nat} (hx : p.tables.exec = Jvm.exec) (hb : c.code = code) (hr : meth.sig.returnType = ret) (hlocks : meth.locks = false) {pc : Nat} {H : Heap} {ls : Array Slot} (hdg : decode code pc = .ok (.ireturn, 1)) : W p l e room_1 s m #[Value.ref b] below meth c H [] 600000 7302250 (lw_Z below #[Value.ref b] s) (F0 m pc ls [.int 1]) := by
  intro T hT X
  obtain ⟨fs, hret, hrun, hended, hW, hframe⟩ := X.leave (v := some (.int 1)) (hlocks := hlocks) (fun h => by rw [hr] at h; cases h)
  have hmeth' : T.vm.method? m = some meth := X.method'
  refine ⟨T.setFrames fs, ?_, .returned (some (.int 1)), hrun, hended, rfl, ⟨_, rfl⟩, hW, hframe⟩
  jvm_step X.here [X.here.top, hx, hb, hdg, hmeth', hr, ret, narrow_b1]
  (try refine ⟨rfl, ?_⟩); (try refine ⟨rfl, ?_⟩)
  first | (intro acts; rw [hret _ acts rfl rfl rfl]) | rw [hret _ _ rfl rfl rfl]
  exact Steps.refl _
/-- what holds at the law's entry: the machine, the code, the tables' words (any of lw_tbl by 'hts w (by decide +kernel)'), the script of L ints xs at the cell b, what the Statement gives of the start (any of its parts by flat_of_before) -/
def lw_At (p : Program) (s : State) (m : MethodId) (meth : Method) (c : Code) (b L : Nat) (xs : Nat → Int32) : Prop :=
  p.tables.exec = Jvm.exec ∧ c.code = code ∧ meth.sig.returnType = ret ∧ c.maxLocals = 4 ∧ s.vm.findClass R_law = some m.cls ∧ (∀ w ∈ lw_tbl, w.before #[Value.ref b] s = true) ∧ va_X b L xs s s.heap ∧ b < s.heap.size ∧ meth.locks = false ∧ (Jvm.Cond.and given_1 narrow_1).before #[Value.ref b] s = true
/-! THE LAW'S WALK: two worlds side by side; its locals are the script (vr 0), the class (vr 1), the reference (vr 2), its int -/
def lA (b : Nat) (ad bd : Nat → Nat) : Nat → Nat := fun k => if k = 0 then b else if k = 1 then ad 0 else bd 0
def LC (p : Program) (s : State) (m : MethodId) (meth : Method) (c : Code) (b L : Nat) (xs : Nat → Int32) (D : va_G) (dA : Nat → ClassId) (ad : Nat → Nat) (dB : Nat → ClassId) (bd : Nat → Nat) : Prop :=
  lw_At p s m meth c b L xs ∧ va_K D eCl [] s ∧ eKA shA dA s ∧ eKA shB dB s ∧ eInj shA ad ∧ eInj shB bd ∧ (∀ i j, i < shA.length → j < shB.length → ad i ≠ bd j) ∧ (∀ i, i < shA.length → s.heap.size ≤ ad i) ∧ (∀ j, j < shB.length → s.heap.size ≤ bd j)
def LH (s : State) (D : va_G) (dA : Nat → ClassId) (ad : Nat → Nat) (dB : Nat → ClassId) (bd : Nat → Nat) (σ τ : eS) (H : Heap) (locs : List Loc) : Prop :=
  va_P D eCl (eW shA dA ad σ) H ∧ va_P D eCl (eW shB dB bd τ) H ∧ eGd shA σ ∧ eGd shB τ ∧ va_S (fun q : Nat => s.heap.size ≤ q) s.heap H locs
def LOk (b L : Nat) (xs : Nat → Int32) (cells slots pc : Nat) (ls : List (Option eV)) (st : List eV) (σ τ : eS) : Prop :=
  ∀ (l : Launch) (p : Program) (e : Env) (s : State) (m : MethodId) (below : List Frame) (meth : Method) (c : Code) (D : va_G) (dA : Nat → ClassId) (ad : Nat → Nat) (dB : Nat → ClassId) (bd : Nat → Nat) (H : Heap) (locs : List Loc) (la : Array Slot),
    LC p s m meth c b L xs D dA ad dB bd → LH s D dA ad dB bd σ τ H locs → eLs la 4 (lA b ad bd) ls → eKs st →
    W p l e room_1 s m #[Value.ref b] below meth c H locs cells slots (lw_Z below #[Value.ref b] s) (F0 m pc la (st.map (eR (lA b ad bd))))
def tOk (T : List (Nat × Instr × Nat)) : Prop := ∀ e ∈ T, decode code e.1 = .ok (e.2.1, e.2.2 - e.1)
theorem tOk_of {T : List (Nat × Instr × Nat)} (p : Nat) (h : dkT code T (code.data.toList.drop p) p = true) : tOk T := dkT_all T p h
theorem tOk.d {T : List (Nat × Instr × Nat)} (h : tOk T) (i : Nat) {pc n n' : Nat} {ins : Instr} (hd : nth T i = some (pc, ins, n')) (hn : pc + n = n') : decode code pc = .ok (ins, n) := by
  have h1 := h _ (nth_mem hd)
  rw [h1, ← hn]
  show Except.ok (ins, pc + n - pc) = _
  rw [Nat.add_sub_cancel_left]
section E8
variable {b L : Nat} {xs : Nat → Int32} {cells slots pc pc' tgt : Nat} {ls : List (Option eV)} {st st' : List eV} {σ τ : eS}
theorem LOk.go {l : Launch} {p : Program} {e : Env} {s : State} {m : MethodId} {below : List Frame} {meth : Method} {c : Code} {D : va_G} {dA : Nat → ClassId} {ad : Nat → Nat} {dB : Nat → ClassId} {bd : Nat → Nat} {H : Heap} {locs : List Loc} {la : Array Slot} {n : Nat} {rest : List Value}
    (k : LOk b L xs cells slots pc' ls st' σ τ) (C : LC p s m meth c b L xs D dA ad dB bd) (hH : LH s D dA ad dB bd σ τ H locs) (hL : eLs la 4 (lA b ad bd) ls) (hS : eKs st') (hn : n = pc') (hr : st'.map (eR (lA b ad bd)) = rest) :
    W p l e room_1 s m #[Value.ref b] below meth c H locs cells slots (lw_Z below #[Value.ref b] s) (F0 m n la rest) := by
  subst hn; subst hr
  exact k l p e s m below meth c D dA ad dB bd H locs la C hH hL hS
theorem lo_ald {k : Fin 4} {z : Nat} (hd : decode code pc = .ok (.aload_n k, 1)) (hl : nth ls k.val = some (some (vr z))) (hn : pc + 1 = pc') (K : LOk b L xs cells slots pc' ls (vr z :: st) σ τ) : LOk b L xs cells slots pc ls st σ τ := by
  intro l p e s m below meth c D dA ad dB bd H locs la C hH hL hS
  have h := hL.2.2.2 _ _ (nth_get hl)
  exact lv_aload_n C.1.1 C.1.2.1 hd rfl h.1 (LOk.go K C hH hL ⟨h.2, hS⟩ hn rfl)
theorem lo_ild {k : Fin 4} {z : Int} (hd : decode code pc = .ok (.iload_n k, 1)) (hl : nth ls k.val = some (some (vi z))) (hn : pc + 1 = pc') (K : LOk b L xs cells slots pc' ls (vi z :: st) σ τ) : LOk b L xs cells slots pc ls st σ τ := by
  intro l p e s m below meth c D dA ad dB bd H locs la C hH hL hS
  have h := hL.2.2.2 _ _ (nth_get hl)
  exact lv_iload_n C.1.1 C.1.2.1 hd rfl h.1 (LOk.go K C hH hL ⟨h.2, hS⟩ hn rfl)
theorem lo_ic {z : Int} (hd : decode code pc = .ok (.iconst z, 1)) (hn : pc + 1 = pc') (hr : rg z) (K : LOk b L xs cells slots pc' ls (vi z :: st) σ τ) : LOk b L xs cells slots pc ls st σ τ := by
  intro l p e s m below meth c D dA ad dB bd H locs la C hH hL hS
  exact lv_iconst C.1.1 C.1.2.1 hd rfl (LOk.go K C hH hL ⟨hr, hS⟩ hn rfl)
theorem lo_bp {z : Int} (hd : decode code pc = .ok (.bipush z, 2)) (hn : pc + 2 = pc') (hr : rg z) (hv : (Int8.ofInt z).toInt32 = Int32.ofInt z) (K : LOk b L xs cells slots pc' ls (vi z :: st) σ τ) : LOk b L xs cells slots pc ls st σ τ := by
  intro l p e s m below meth c D dA ad dB bd H locs la C hH hL hS
  exact lv_bipush C.1.1 C.1.2.1 hd hv (LOk.go K C hH hL ⟨hr, hS⟩ hn rfl)
theorem lo_add {u v : Int} (hd : decode code pc = .ok (.iadd, 1)) (hn : pc + 1 = pc') (hr : rg (u + v)) (K : LOk b L xs cells slots pc' ls (vi (u + v) :: st) σ τ) : LOk b L xs cells slots pc ls (vi v :: vi u :: st) σ τ := by
  intro l p e s m below meth c D dA ad dB bd H locs la C hH hL hS
  exact lv_iadd C.1.1 C.1.2.1 hd (LOk.go K C hH hL ⟨hr, hS.2.2⟩ hn (by show Value.int (Int32.ofInt (u + v)) :: _ = _; rw [Int32.ofInt_add]))
theorem lo_sub {u v : Int} (hd : decode code pc = .ok (.isub, 1)) (hn : pc + 1 = pc') (hr : rg (u - v)) (K : LOk b L xs cells slots pc' ls (vi (u - v) :: st) σ τ) : LOk b L xs cells slots pc ls (vi v :: vi u :: st) σ τ := by
  intro l p e s m below meth c D dA ad dB bd H locs la C hH hL hS
  exact lv_isub C.1.1 C.1.2.1 hd (LOk.go K C hH hL ⟨hr, hS.2.2⟩ hn (by show Value.int (Int32.ofInt (u - v)) :: _ = _; rw [Int32.ofInt_sub]))
theorem lo_and {u v : Int} (hd : decode code pc = .ok (.iand, 1)) (hn : pc + 1 = pc') (K : LOk b L xs cells slots pc' ls (vi (iand u v) :: st) σ τ) : LOk b L xs cells slots pc ls (vi v :: vi u :: st) σ τ := by
  intro l p e s m below meth c D dA ad dB bd H locs la C hH hL hS
  exact lv_iand C.1.1 C.1.2.1 hd (LOk.go K C hH hL ⟨rg_to _, hS.2.2⟩ hn (by show Value.int (Int32.ofInt (iand u v)) :: _ = _; unfold iand; rw [Int32.ofInt_toInt]))
theorem lo_pop {v : eV} (hd : decode code pc = .ok (.pop, 1)) (hn : pc + 1 = pc') (hc : eCat v = 1) (K : LOk b L xs cells slots pc' ls st σ τ) : LOk b L xs cells slots pc ls (v :: st) σ τ := by
  intro l p e s m below meth c D dA ad dB bd H locs la C hH hL hS
  exact lv_pop C.1.1 C.1.2.1 hd (by rw [eR_cat]; exact hc) (LOk.go K C hH hL hS.2 hn rfl)
theorem lo_pop2 {z : Int} (hd : decode code pc = .ok (.pop2, 1)) (hn : pc + 1 = pc') (K : LOk b L xs cells slots pc' ls st σ τ) : LOk b L xs cells slots pc ls (vl z :: st) σ τ := by
  intro l p e s m below meth c D dA ad dB bd H locs la C hH hL hS
  exact lv_pop2_2 C.1.1 C.1.2.1 hd rfl (LOk.go K C hH hL hS.2 hn rfl)
theorem lo_goto {off : Int} (hd : decode code pc = .ok (.goto off, 3)) (ht : (pc : Int) + off = (tgt : Int)) (K : LOk b L xs cells slots tgt ls st σ τ) : LOk b L xs cells slots pc ls st σ τ := by
  intro l p e s m below meth c D dA ad dB bd H locs la C hH hL hS
  exact lv_goto C.1.1 C.1.2.1 hd ht (LOk.go K C hH hL hS rfl rfl)
theorem lo_gt {off u v : Int} (hd : decode code pc = .ok (.if_icmp .gt off, 3)) (hn : pc + 3 = pc') (ht : (pc : Int) + off = (tgt : Int)) (kt : v < u → LOk b L xs cells slots tgt ls st σ τ) (kf : u ≤ v → LOk b L xs cells slots pc' ls st σ τ) : LOk b L xs cells slots pc ls (vi v :: vi u :: st) σ τ := by
  intro l p e s m below meth c D dA ad dB bd H locs la C hH hL hS
  obtain ⟨hv, hu, hs⟩ := hS
  have e4 := rg_lt hv hu
  refine lv_icmp_gt C.1.1 C.1.2.1 hd ht (fun q => ?_) (fun q => ?_)
  · exact LOk.go (kt (e4.mp q)) C hH hL hs rfl rfl
  · exact LOk.go (kf (Int.not_lt.mp (fun z => q (e4.mpr z)))) C hH hL hs hn rfl
theorem lo_eq {off u v : Int} (hd : decode code pc = .ok (.if_icmp .eq off, 3)) (hn : pc + 3 = pc') (ht : (pc : Int) + off = (tgt : Int)) (kt : u = v → LOk b L xs cells slots tgt ls st σ τ) (kf : ¬ u = v → LOk b L xs cells slots pc' ls st σ τ) : LOk b L xs cells slots pc ls (vi v :: vi u :: st) σ τ := by
  intro l p e s m below meth c D dA ad dB bd H locs la C hH hL hS
  obtain ⟨hv, hu, hs⟩ := hS
  have e4 := rg_eq hu hv
  refine lv_icmp_eq C.1.1 C.1.2.1 hd ht (fun q => ?_) (fun q => ?_)
  · exact LOk.go (kt (e4.mp q)) C hH hL hs rfl rfl
  · exact LOk.go (kf (fun z => q (e4.mpr z))) C hH hL hs hn rfl
theorem lo_leq {off u v : Int} {p1 : Nat} (hd1 : decode code pc = .ok (.lcmp, 1)) (hd : decode code p1 = .ok (.ifCond .eq off, 3)) (hn1 : pc + 1 = p1) (hn : p1 + 3 = pc') (ht : (p1 : Int) + off = (tgt : Int)) (kt : u = v → LOk b L xs cells slots tgt ls st σ τ) (kf : ¬ u = v → LOk b L xs cells slots pc' ls st σ τ) : LOk b L xs cells slots pc ls (vl v :: vl u :: st) σ τ := by
  intro l p e s m below meth c D dA ad dB bd H locs la C hH hL hS
  obtain ⟨hb, ha, hs⟩ := hS
  refine W.lcmp C.1.1 C.1.2.1 hd1 ?_
  rw [hn1]
  have e1 := lg_cmp_eq (Int64.ofInt u) (Int64.ofInt v)
  have g1 := rl_eq ha hb
  refine lv_if_eq C.1.1 C.1.2.1 hd ht (fun h => LOk.go (kt ?_) C hH hL hs rfl rfl) (fun h => LOk.go (kf ?_) C hH hL hs hn rfl)
  · simp only [e1, g1] at h
    exact h
  · simp only [e1, g1] at h
    exact h
theorem lo_tin {dflt lo hi off z : Int} {offs : Array Int} {len : Nat} (hd : decode code pc = .ok (.tableswitch dflt lo hi offs, len)) (h1 : lo ≤ z) (h2 : z ≤ hi) (ho : offs[(z - lo).toNat]? = some off) (ht : (pc : Int) + off = (tgt : Int)) (K : LOk b L xs cells slots tgt ls st σ τ) : LOk b L xs cells slots pc ls (vi z :: st) σ τ := by
  intro l p e s m below meth c D dA ad dB bd H locs la C hH hL hS
  have e := rg_in (z := z) hS.1
  exact lv_tableIn C.1.1 C.1.2.1 hd (by rw [e]; omega) (by rw [e]; omega) (by rw [e]; exact ho) ht (LOk.go K C hH hL hS.2 rfl rfl)
theorem lo_tout {dflt lo hi z : Int} {offs : Array Int} {len : Nat} (hd : decode code pc = .ok (.tableswitch dflt lo hi offs, len)) (h1 : z < lo ∨ hi < z) (ht : (pc : Int) + dflt = (tgt : Int)) (K : LOk b L xs cells slots tgt ls st σ τ) : LOk b L xs cells slots pc ls (vi z :: st) σ τ := by
  intro l p e s m below meth c D dA ad dB bd H locs la C hH hL hS
  have e := rg_in (z := z) hS.1
  exact lv_tableOut C.1.1 C.1.2.1 hd (by rw [e]; exact h1) ht (LOk.go K C hH hL hS.2 rfl rfl)
theorem lo_inc {x0 x1 x2 : Option eV} {n z : Int} (hd : decode code pc = .ok (.iinc 3 n, 3)) (hn : pc + 3 = pc') (hp : eNl x2 = true) (hr : rg (z + n)) (K : LOk b L xs cells slots pc' [x0, x1, x2, some (vi (z + n))] st σ τ) : LOk b L xs cells slots pc [x0, x1, x2, some (vi z)] st σ τ := by
  intro l p e s m below meth c D dA ad dB bd H locs la C hH hL hS
  have hm := eAl_mem (lA b ad bd) [x0, x1, x2, some (vi z)] 0 3 (vi z) rfl
  rw [Nat.zero_add] at hm
  obtain ⟨q, hq⟩ := List.getElem?_of_mem hm
  have K' : LOk b L xs cells slots pc' (eSet 3 (vi (z + n)) [x0, x1, x2, some (vi z)]) st σ τ := by
    show LOk b L xs cells slots pc' [x0, x1, eClr x2, some (vi (z + n))] st σ τ
    rw [eClr_id hp]
    exact K
  exact lv_iinc (v := Int32.ofInt (z + n)) C.1.1 C.1.2.1 hd hL.has hq (by rw [Int32.ofInt_add]) (by decide) rfl (fun la' h' => LOk.go K' C hH (hL.st1 (j := 3) (v := vi (z + n)) (by decide) hr h') hS hn rfl)
/-- the script -/
theorem lo_sld {j : Int} (hd : decode code pc = .ok (.iaload, 1)) (hn : pc + 1 = pc') (hj : 0 ≤ j ∧ j < (L : Int)) (hL' : L ≤ 4096) (K : LOk b L xs cells slots pc' ls (vi (xs j.toNat).toInt :: st) σ τ) : LOk b L xs cells slots pc ls (vi j :: vr 0 :: st) σ τ := by
  intro l p e s m below meth c D dA ad dB bd H locs la C hH hL hS
  obtain ⟨e1, e2⟩ := ix_nat (j := j) (n := L) hS.1 hj.1 hj.2
  refine va_sld C.1.1 C.1.2.1 C.1.2.2.2.2.2.2.1 C.1.2.2.2.2.2.2.2.1 (Nat.not_le.mpr C.1.2.2.2.2.2.2.2.1) hH.2.2.2.2 e2 hd ?_
  refine LOk.go K C hH hL ⟨rg_to _, hS.2.2⟩ hn ?_
  show Value.int (Int32.ofInt (xs j.toNat).toInt) :: _ = _
  rw [Int32.ofInt_toInt, e1]
theorem lo_slen (hd : decode code pc = .ok (.arraylength, 1)) (hn : pc + 1 = pc') (hL' : L ≤ 4096) (K : LOk b L xs cells slots pc' ls (vi (L : Int) :: st) σ τ) : LOk b L xs cells slots pc ls (vr 0 :: st) σ τ := by
  intro l p e s m below meth c D dA ad dB bd H locs la C hH hL hS
  refine va_slen C.1.1 C.1.2.1 C.1.2.2.2.2.2.2.1 C.1.2.2.2.2.2.2.2.1 (Nat.not_le.mpr C.1.2.2.2.2.2.2.2.1) hH.2.2.2.2 hd ?_
  exact LOk.go K C hH hL ⟨(⟨by omega, by omega⟩ : rg (L : Int)), hS.2⟩ hn rfl
/-- its end -/
theorem lo_end (hd : decode code pc = .ok (.ireturn, 1)) (hc : cells ≤ 600000) (hs : slots ≤ 7302250) : LOk b L xs cells slots pc ls [vi 1] σ τ := by
  intro l p e s m below meth c D dA ad dB bd H locs la C hH hL hS
  refine va_forget (fun q hq => hH.2.2.2.2.2.2 q hq) ?_
  refine W.widen (k := 600000) (n := 7302250) hc hs ?_
  exact lw_ret C.1.1 C.1.2.1 C.1.2.2.1 C.1.2.2.2.2.2.2.2.2.1 hd
/-- a call of a method of one of the two objects -/
theorem og_run {sh : eSh} {dA : Nat → ClassId} {ad : Nat → Nat} {D : va_G} {M' : eM} {zs : List Int} {Q' : eS → Option eV → Prop} {x ci : Nat} {ts : List Nat} {l : Launch} {p : Program} {e : Env} {s : State} {m : MethodId} {below : List Frame} {meth : Method} {c : Code} {H : Heap} {locs : List Loc} {la : Array Slot} {rest : List Value} {Z : State → Prop}
    (C0 : lw_At p s m meth c b L xs) (hK : va_K D eCl [] s) (hKA : eKA sh dA s) (hi : eInj sh ad) (hlow : ∀ i, i < sh.length → s.heap.size ≤ ad i) (hP : va_P D eCl (eW sh dA ad σ) H) (hG : eGd sh σ) (hS : va_S (fun q : Nat => s.heap.size ≤ q) s.heap H locs)
    (hd : decode code pc = .ok (.invokevirtual x, 3)) (hl : eLkV RL x (eNm M') zs.length) (hM : Mt sh M' (vr 0 :: zs.map vi) σ Q') (hs : nth sh 0 = some (0, ci, ts)) (hc : (eCl.getD ci ("", fun _ => ("", "", "", false), 0)).1 = eOwn M') (hci : ci < eCl.length)
    (hr : (eRm M').frames + 1 ≤ room_1.frames ∧ 8 + (eNL M' + 11) + (eRm M').locals ≤ room_1.locals) (hks : ∀ z ∈ zs, rg z) (hla : la.size = 4) (hw : (rest.map fun v => v.category).sum ≤ 8) (hcs : cells ≤ 600000) (hss : slots ≤ 7302250)
    (K : ∀ (σ' : eS) (v : Option eV) (H' : Heap) (locs' : List Loc), Q' σ' v → (∀ x, v = some x → eK x) → eGd sh σ' → va_P D eCl (eW sh dA ad σ') H' → va_S (fun q : Nat => s.heap.size ≤ q) s.heap H' locs' → (∀ q, q < H.size → ¬ eA sh ad q → H'[q]? = H[q]?) →
      W p l e room_1 s m #[Value.ref b] below meth c H' locs' cells slots Z (F0 m (pc + 3) la ((v.map (eR ad)).toList ++ rest))) :
    W p l e room_1 s m #[Value.ref b] below meth c H locs cells slots Z (F0 m pc la ((zs.map (fun z => Value.int (Int32.ofInt z))).reverse ++ Value.ref (ad 0) :: rest)) := by
  obtain ⟨w1, w2, w3, w4, w5, w6, w7⟩ := hl
  have hts : ∀ w ∈ eTbl, w.before #[Value.ref b] s = true := fun w hw => C0.2.2.2.2.2.1 w (eTbl_in hw)
  have hcls : (eNm M').cls = eOwn M' := hM.1.2.2.2.1
  have k1 : eKs (vr 0 :: zs.map vi) := eKs_of fun v hv => by
    rcases List.mem_cons.mp hv with rfl | hv
    · trivial
    · obtain ⟨z, hz, rfl⟩ := List.mem_map.mp hv
      exact hks z hz
  have hMet := hM.2 l D dA ad hi k1 hG
  have hmp : (zs.map vi).map (eR ad) = zs.map (fun z => Value.int (Int32.ofInt z)) := by rw [List.map_map]; rfl
  rw [← hmp]
  have hq1 : eCl[ci]? = some (eCl.getD ci ("", fun _ => ("", "", "", false), 0)) := by
    rw [List.getD_eq_getElem?_getD, List.getElem?_eq_getElem hci]
    rfl
  have hg : GoodIn eTbl (wsV RL x (eOwn M') (eNm M') (eWs M')) := eGoodIn fun w hw => by
    simp only [wsV, List.mem_append, List.mem_cons, List.not_mem_nil, or_false] at hw
    rcases hw with (rfl | rfl | rfl | rfl) | hw
    · exact w1
    · exact w3
    · rw [← hcls]; exact w4
    · rw [← hcls]; exact w2
    · rcases List.mem_cons.mp hw with rfl | hw
      · exact hM.1.2.1
      · exact hw
  have hrecv : ∃ cell : Cell, H[ad 0]? = some cell ∧ cell.vm.isStatics = false ∧ s.vm.findClass (eOwn M') = some cell.cls := by
    have hw1 := eW_at (dA := dA) (ad := ad) (σ := σ) (nth_get hs)
    have := va_recv (q0 := 0) hK hP hq1 hw1
    rwa [hc] at this
  have hrun := va_runV (R := room_1) (locs := locs) (cells := cells) (slots := slots) (C := eOwn M') (As := (zs.map vi).map (eR ad)) (rest := rest) (b := ad 0) (g := F0 m pc la (((zs.map vi).map (eR ad)).reverse ++ Value.ref (ad 0) :: rest)) (below := below) (meth := meth) (e := e) ⟨C0.1, C0.2.1, C0.2.2.2.1, C0.2.2.2.2.1, hts⟩ hMet (cwV (R := room_1) zs.length hts hg rfl hM.1.2.2.2.2.1 hM.1.2.2.2.2.2 ⟨hcls, w5, w6, w7⟩ hr) ⟨ePc_blind, hrecv, fun U hU hW => ⟨rfl, by rw [hU]; exact hP, va_K.moved hW.alike hK, eKA.moved hW.alike hKA⟩⟩ rfl (by rw [List.length_map, List.length_map]) hla rfl (lv_room hw) hd ⟨hcs, hss⟩
  intro T hT X
  obtain ⟨v, st₀, t, T', Lc, h0, X', hL', e1, e2, ⟨⟨v', σ', hv, hq, hk, hgd, hP'⟩, hF⟩, hgo⟩ := hrun T hT X
  cases hv
  have hS' : va_S (fun q : Nat => s.heap.size ≤ q) s.heap T'.heap (locs ++ Lc) := by
    refine ⟨?_, fun q h1 h2 => ?_, fun q hq' => ?_⟩
    · rw [e1]
      exact Nat.le_trans hS.1 (by rw [← h0]; exact hF.1)
    · have hn : ¬ eA sh ad q := fun ⟨i, hi1, hi2⟩ => h2 (by rw [hi2]; exact hlow i hi1)
      rw [e1, hF.2 q (by rw [h0]; exact Nat.lt_of_lt_of_le h1 hS.1) hn, h0]
      exact hS.2.1 q h1 h2
    · rcases List.mem_append.mp hq' with h | h
      · exact hS.2.2 q h
      · obtain ⟨i, hi1, hi2⟩ := hL' q h
        show s.heap.size ≤ q.base
        rw [hi2]; exact hlow i hi1
  have h := K σ' v' T'.heap (locs ++ Lc) hq hk hgd (by rw [e1]; exact hP') hS' (fun q h1 h2 => by rw [e1, hF.2 q (by rw [h0]; exact h1) h2, h0])
  obtain ⟨t2, a1, b1⟩ := h T' rfl X'
  exact ⟨t2, hgo t2 a1, b1⟩
theorem LH.setA {s : State} {D : va_G} {dA : Nat → ClassId} {ad : Nat → Nat} {dB : Nat → ClassId} {bd : Nat → Nat} {H H' : Heap} {locs locs' : List Loc} {σ' : eS} {p : Program} {m : MethodId} {meth : Method} {c : Code} (C : LC p s m meth c b L xs D dA ad dB bd) (h : LH s D dA ad dB bd σ τ H locs) (g : eGd shA σ') (hP : va_P D eCl (eW shA dA ad σ') H') (hS : va_S (fun q : Nat => s.heap.size ≤ q) s.heap H' locs') (hf : ∀ q, q < H.size → ¬ eA shA ad q → H'[q]? = H[q]?) : LH s D dA ad dB bd σ' τ H' locs' := by
  refine ⟨hP, h.2.1.kept (fun k q hq => ?_), g, h.2.2.2.1, hS⟩
  have hlt := (h.2.1 k q hq).lt
  obtain ⟨r, h1, h2⟩ := eW_inv hq
  refine hf q.1 hlt (fun ⟨i, hi1, hi2⟩ => ?_)
  rw [h2] at hi2
  exact C.2.2.2.2.2.2.1 i k hi1 (List.getElem?_eq_some_iff.mp h1).1 hi2.symm
theorem LH.setB {s : State} {D : va_G} {dA : Nat → ClassId} {ad : Nat → Nat} {dB : Nat → ClassId} {bd : Nat → Nat} {H H' : Heap} {locs locs' : List Loc} {τ' : eS} {p : Program} {m : MethodId} {meth : Method} {c : Code} (C : LC p s m meth c b L xs D dA ad dB bd) (h : LH s D dA ad dB bd σ τ H locs) (g : eGd shB τ') (hP : va_P D eCl (eW shB dB bd τ') H') (hS : va_S (fun q : Nat => s.heap.size ≤ q) s.heap H' locs') (hf : ∀ q, q < H.size → ¬ eA shB bd q → H'[q]? = H[q]?) : LH s D dA ad dB bd σ τ' H' locs' := by
  refine ⟨h.1.kept (fun k q hq => ?_), hP, h.2.2.1, g, hS⟩
  have hlt := (h.1 k q hq).lt
  obtain ⟨r, h1, h2⟩ := eW_inv hq
  refine hf q.1 hlt (fun ⟨i, hi1, hi2⟩ => ?_)
  rw [h2] at hi2
  exact C.2.2.2.2.2.2.1 k i (List.getElem?_eq_some_iff.mp h1).1 hi1 hi2
theorem zs_map (f : Nat → Nat) (zs : List Int) (st : List eV) (r : Nat) : ((zs.map vi).reverse ++ vr r :: st).map (eR f) = (zs.map (fun z => Value.int (Int32.ofInt z))).reverse ++ Value.ref (f r) :: st.map (eR f) := by
  rw [List.map_append, List.map_reverse, List.map_cons, List.map_map]
  rfl
theorem zs_ks {zs : List Int} {st : List eV} {r : Nat} (h : eKs ((zs.map vi).reverse ++ vr r :: st)) : (∀ z ∈ zs, rg z) ∧ eKs st := by
  have h1 := eKs_at h
  exact ⟨fun z hz => h1 (vi z) (List.mem_append_left _ (List.mem_reverse.mpr (List.mem_map.mpr ⟨z, hz, rfl⟩))), eKs_of fun v hv => h1 v (List.mem_append_right _ (List.mem_cons_of_mem _ hv))⟩
theorem lo_cA {x : Nat} {M' : eM} (zs : List Int) {Q' : eS → Option eV → Prop} {st0 : List eV} (hd : decode code pc = .ok (.invokevirtual x, 3)) (hn : pc + 3 = pc') (hl : eLkV RL x (eNm M') zs.length) (hM : Mt shA M' (vr 0 :: zs.map vi) σ Q') (hc : (eCl.getD 9 ("", fun _ => ("", "", "", false), 0)).1 = eOwn M')
    (hr : (eRm M').frames + 1 ≤ room_1.frames ∧ 8 + (eNL M' + 11) + (eRm M').locals ≤ room_1.locals) (hst : st0 = (zs.map vi).reverse ++ vr 1 :: st) (hw : (st.map eCat).sum ≤ 8) (hcs : cells ≤ 600000) (hss : slots ≤ 7302250) (hq : ∀ σ' v, Q' σ' v → (∃ z, v = some (vi z)) ∨ (∃ z, v = some (vl z)))
    (K : ∀ σ' v, Q' σ' v → LOk b L xs cells slots pc' ls (v.toList ++ st) σ' τ) : LOk b L xs cells slots pc ls st0 σ τ := by
  intro l p e s m below meth c D dA ad dB bd H locs la C hH hL hS
  subst hst
  rw [zs_map]
  obtain ⟨k1, k2⟩ := zs_ks hS
  refine og_run (sh := shA) (dA := dA) (ad := ad) C.1 C.2.1 C.2.2.1 C.2.2.2.2.1 C.2.2.2.2.2.2.2.1 hH.1 hH.2.2.1 hH.2.2.2.2 hd hl hM (ci := 9) rfl hc (Nat.le_of_ble_eq_true rfl) hr k1 hL.1 (by rw [cat_sum]; exact hw) hcs hss (fun σ' v H' locs' q1 q2 q3 q4 q5 q6 => ?_)
  have e : (v.map (eR ad)).toList ++ st.map (eR (lA b ad bd)) = (v.toList ++ st).map (eR (lA b ad bd)) := by
    rcases hq σ' v q1 with ⟨z, rfl⟩ | ⟨z, rfl⟩ <;> rfl
  rw [e]
  exact LOk.go (K σ' v q1) C (LH.setA C hH q3 q4 q5 q6) hL (by cases v with | none => exact k2 | some y => exact ⟨q2 y rfl, k2⟩) hn rfl
theorem lo_cB {x : Nat} {M' : eM} (zs : List Int) {Q' : eS → Option eV → Prop} {st0 : List eV} (hd : decode code pc = .ok (.invokevirtual x, 3)) (hn : pc + 3 = pc') (hl : eLkV RL x (eNm M') zs.length) (hM : Mt shB M' (vr 0 :: zs.map vi) τ Q') (hc : (eCl.getD 10 ("", fun _ => ("", "", "", false), 0)).1 = eOwn M')
    (hr : (eRm M').frames + 1 ≤ room_1.frames ∧ 8 + (eNL M' + 11) + (eRm M').locals ≤ room_1.locals) (hst : st0 = (zs.map vi).reverse ++ vr 2 :: st) (hw : (st.map eCat).sum ≤ 8) (hcs : cells ≤ 600000) (hss : slots ≤ 7302250) (hq : ∀ σ' v, Q' σ' v → (∃ z, v = some (vi z)) ∨ (∃ z, v = some (vl z)))
    (K : ∀ τ' v, Q' τ' v → LOk b L xs cells slots pc' ls (v.toList ++ st) σ τ') : LOk b L xs cells slots pc ls st0 σ τ := by
  intro l p e s m below meth c D dA ad dB bd H locs la C hH hL hS
  subst hst
  rw [zs_map]
  obtain ⟨k1, k2⟩ := zs_ks hS
  refine og_run (sh := shB) (dA := dB) (ad := bd) C.1 C.2.1 C.2.2.2.1 C.2.2.2.2.2.1 C.2.2.2.2.2.2.2.2 hH.2.1 hH.2.2.2.1 hH.2.2.2.2 hd hl hM (ci := 10) rfl hc (Nat.le_of_ble_eq_true rfl) hr k1 hL.1 (by rw [cat_sum]; exact hw) hcs hss (fun σ' v H' locs' q1 q2 q3 q4 q5 q6 => ?_)
  have e : (v.map (eR bd)).toList ++ st.map (eR (lA b ad bd)) = (v.toList ++ st).map (eR (lA b ad bd)) := by
    rcases hq σ' v q1 with ⟨z, rfl⟩ | ⟨z, rfl⟩ <;> rfl
  rw [e]
  exact LOk.go (K σ' v q1) C (LH.setB C hH q3 q4 q5 q6) hL (by cases v with | none => exact k2 | some y => exact ⟨q2 y rfl, k2⟩) hn rfl
end E8
