theorem wm1 {w : Cond} (i : Nat) (h : nth tables_1_1 i = some w) : w ∈ lw_tbl := List.mem_append_right _ (by unfold tables_1; exact List.mem_append_left _ (nth_mem h))
/-- the law makes an object: its constructor's call -/
theorem lo_ctor {D : va_G} {M' : eM} {N2 : State → Prop} {Q2 : va_W → kT → Prop} {e0 : va_E} {q x b L pc cells slots : Nat} {xs : Nat → Int32} {w : va_W} {tys : kT} {l : Launch} {p : Program} {e : Env} {s : State} {m : MethodId} {below : List Frame} {meth : Method} {c : Code} {H : Heap} {locs : List Loc} {la : Array Slot} {rest : List Value} {Z : State → Prop}
    (C0 : lw_At p s m meth c b L xs) (hd : decode code pc = .ok (.invokespecial x, 3)) (hM : CM M' D N2 q [] e0 Q2) (hl : Cond.methodLink R_law x (eNm M') ∈ eTbl) (hini : Cond.initialized (eNm M').cls ∈ eTbl) (hi : Cond.instanceMethod (eNm M') ∈ eTbl) (hy : (eNm M').name = "<init>")
    (hy2 : (eNm M').cls ≠ "java/lang/invoke/MethodHandle" ∧ (eNm M').cls ≠ "java/lang/invoke/VarHandle" ∧ (parseMethodDescriptor (eNm M').desc).map (fun d => d.parameters.length) = some 0) (hr : (eRm M').frames + 1 ≤ room_1.frames ∧ 8 + (eNL M' + 11) + (eRm M').locals ≤ room_1.locals) (hcc : cells + (eRm M').cells ≤ 600000 ∧ slots + (eRm M').slots ≤ 7302250)
    (hN : ∀ U : State, s.WarmedH U.vm → N2 U) (hB : ∀ (a : Array Value) (U : State) g mk, N2 U → N2 (U.calling g mk a)) (hla : la.size = 4) (hw : (rest.map fun v => v.category).sum ≤ 8)
    (hK : va_K D eCl tys s) (hP : va_P D eCl (w ++ [(q, e0)]) H) (hD : va_D (fun q : Nat => s.heap.size ≤ q) (w ++ [(q, e0)])) (hS : va_S (fun q : Nat => s.heap.size ≤ q) s.heap H locs)
    (K : ∀ (w1 : va_W) (t1 : kT) (H1 : Heap) (locs1 : List Loc), Q2 w1 t1 → va_K D eCl (tys ++ t1) s → va_P D eCl (w ++ w1) H1 → va_D (fun q : Nat => s.heap.size ≤ q) (w ++ w1) → va_S (fun q : Nat => s.heap.size ≤ q) s.heap H1 locs1 →
      W p l e room_1 s m #[Value.ref b] below meth c H1 locs1 (cells + (eRm M').cells) (slots + (eRm M').slots) Z (F0 m (pc + 3) la rest)) :
    W p l e room_1 s m #[Value.ref b] below meth c H locs cells slots Z (F0 m pc la (.ref q :: rest)) := by
  have hts : ∀ w ∈ eTbl, w.before #[Value.ref b] s = true := fun w hw => C0.2.2.2.2.2.1 w (eTbl_in hw)
  have hg : GoodIn eTbl (eWs M') := eGoodIn fun w hw => by
    rcases List.mem_cons.mp hw with rfl | hw
    · exact hM.1.2.1
    · exact hw
  have hw0 : eWs M' = Cond.code (eNm M') (eCode M') (eNL M') none :: eTbl := by unfold eWs; rw [hM.1.2.2.2.2]
  have hFc := k_free hD hS (fun _ h => h)
  refine va_callv (S := va_W × kT) (post := fun u => Q2 u.1 u.2) (B := fun u t => va_P D eCl u.1 t.heap ∧ va_K D eCl u.2 t ∧ va_D (va_A [(q, e0)] H.size) u.1) (va_runI (As := []) (rest := rest) (n := 0) ⟨C0.1, C0.2.1, C0.2.2.2.1, C0.2.2.2.2.1, hts⟩ (hM.2 l H.size) (cwI 0 hts hg hw0 rfl rfl (hts _ hini) (hts _ hl) (hts _ hi) hy hy2 hr) ⟨fun a U g mk z => ?_, fun U hU hW => ?_⟩ rfl rfl hla rfl (lv_room hw) hd hcc) hS (fun z _ h => hFc z h) hFc (fun u t H1 locs1 ht hvm hq hB1 hz1 hk1 hS1 => ?_)
  · obtain ⟨z0, z1, zP, zK, zD, zN⟩ := z
    exact ⟨z0, z1, zP, va_K.moved (u := U) (U := U.calling g mk a) (Vm.Alike.refl U.vm) zK, zD, hB a U g mk zN⟩
  · exact ⟨rfl, by rw [hU], by rw [hU]; exact hP.rig, va_K.moved hW.alike hK.app0, hD.rig.weaken (fun _ _ _ _ => trivial), hN U hW⟩
  · obtain ⟨hP1, hK1, hD1⟩ := hB1
    rw [ht] at hP1
    obtain ⟨hP2, hD2⟩ := k_join hP hD hk1 hFc hP1 hD1
    exact K u.1 u.2 H1 locs1 hq (hK.app (va_K.moved hvm.symm hK1)) hP2 hD2 hS1
/-- the states as they are made -/
def zA : eS := fun c k => if 2 ≤ c ∧ c ≤ 5 then (if k = 2 then 1 else if k = 3 then -1 else 0) else if c = 10 then (if k = 5 then -1 else 0) else 0
def zB : eS := fun c k => if c = 0 then (if k = 8 then -1 else 0) else 0
theorem zA_bd (c : Nat) (k : Int) : -1 ≤ zA c k ∧ zA c k ≤ 1 := by unfold zA; split <;> split <;> (try split) <;> omega
theorem zB_bd (c : Nat) (k : Int) : -1 ≤ zB c k ∧ zB c k ≤ 1 := by unfold zB; split <;> (try split) <;> omega
theorem zA_gd : eGd shA zA := fun c k => by have := zA_bd c k; exact ⟨⟨by omega, by omega⟩, fun _ => ⟨by omega, by omega⟩⟩
theorem zB_gd : eGd shB zB := fun c k => by have := zB_bd c k; exact ⟨⟨by omega, by omega⟩, fun _ => ⟨by omega, by omega⟩⟩
theorem zA_0 {c : Nat} {k : Int} (h : (c < 2 ∨ 5 < c) ∨ (k ≠ 2 ∧ k ≠ 3)) (h2 : c ≠ 10 ∨ k ≠ 5) : zA c k = 0 := by unfold zA; split <;> split <;> (try split) <;> omega
theorem zB_0 {c : Nat} {k : Int} (h : c ≠ 0 ∨ k ≠ 8) : zB c k = 0 := by unfold zB; split <;> (try split) <;> omega
theorem zA_IA : IA zA := by
  refine ⟨⟨?_, ?_⟩, fun t ht => ?_, fun k a b => ?_, ⟨?_, fun k a b => ?_, fun k a b => ?_, ?_⟩, ⟨?_, ?_⟩, fun k a b => ?_⟩
  · rw [zA_0 (by omega) (by omega)]; decide
  · rw [zA_0 (by omega) (by omega)]; decide
  · have n := tA_10 ht
    have e1 : zA t 1 = 0 := zA_0 (by omega) (by omega)
    refine ⟨⟨by omega, by omega, by omega, fun k a b => ?_⟩, Or.inl ⟨?_, fun q => by have := q.1; omega⟩⟩
    · rw [zA_0 (by omega) (by omega)]; omega
    · unfold zA; rw [if_pos ⟨by omega, by omega⟩]; rfl
  · rw [zA_0 (by omega) (by omega)]; omega
  · rw [zA_0 (c := 22) (k := 5) (by omega) (by omega), zA_0 (c := 22) (k := 4) (by omega) (by omega), zA_0 (c := 22) (k := 6) (by omega) (by omega), zA_0 (c := 22) (k := 3) (by omega) (by omega)]; omega
  · rw [zA_0 (by omega) (by omega)]; omega
  · rw [zA_0 (by omega) (by omega)]; omega
  · rw [zA_0 (c := 22) (k := 5) (by omega) (by omega), zA_0 (c := 22) (k := 6) (by omega) (by omega)]; exact Int.le_refl _
  · rw [zA_0 (by omega) (by omega)]; decide
  · rw [zA_0 (by omega) (by omega)]; decide
  · rw [zA_0 (by omega) (by omega)]; omega
theorem zB_IB : IB zB := by
  have z : ∀ (c : Nat) (k : Int), c ≠ 0 ∨ k ≠ 8 → zB c k = 0 := fun c k h => zB_0 h
  refine ⟨⟨fun s a b => ?_, fun k a b => ?_, fun k a b => ?_⟩, ?_, ?_, ?_⟩
  · rw [z 1 s (by omega), z 2 s (by omega)]; omega
  · rw [z _ _ (by omega)]; omega
  · rw [z _ _ (by omega)]; omega
  · unfold iK wtK colK
    rw [z 0 27 (by omega), z 0 28 (by omega), z 0 29 (by omega), z 0 30 (by omega), z 0 31 (by omega)]
    exact ⟨by omega, by omega, by omega, by omega, by omega, by omega, ⟨fun q a b => by omega, rfl⟩, fun q i a b => by omega, fun h => by omega⟩
  · rw [z 0 6 (by omega)]; omega
  · rw [z 0 42 (by omega)]; omega
theorem z_TP : TP zA zB := by
  refine ⟨?_, fun i x y => ?_, fun k x y => ?_, ?_, ?_⟩
  · rw [zA_0 (by omega) (by omega), zB_0 (by omega)]
  · rw [zB_0 (by omega)] at y; omega
  · rw [zB_0 (by omega)] at y; omega
  · rw [zA_0 (by omega) (by omega), zB_0 (by omega)]
  · rfl
theorem z_TT : TT zA zB := fun s a b => by
  have e1 : zB 1 s = 0 := zB_0 (by omega)
  refine ⟨by rw [e1, zA_0 (by omega) (by omega)], fun q => absurd e1 q, fun _ => zB_0 (by omega), fun i j p q => by omega⟩
theorem z_MM : MM zA zB := by
  have z : ∀ k : Int, k ≠ 8 → zB 0 k = 0 := fun k h => zB_0 (Or.inr h)
  have y : ∀ k : Int, zA 22 k = 0 := fun k => zA_0 (by omega) (by omega)
  unfold MM
  rw [y, y, y, y, y, z 27 (by omega), z 28 (by omega), z 29 (by omega), z 30 (by omega), z 31 (by omega)]
  exact ⟨⟨rfl, rfl, rfl, rfl⟩, rfl, fun _ => rfl, fun q a b => by omega⟩
theorem z_SS : SS zA zB := ⟨[], ⟨zA_0 (by omega) (by omega), fun k h => by cases h⟩, ⟨zB_0 (by omega), fun k h => by cases h⟩⟩
theorem z_sr : sr 0 zA := by
  have e : zA 16 3 = 0 := zA_0 (by omega) (by omega)
  refine ⟨⟨by omega, fun T a b => ?_⟩, by omega⟩
  rw [e, zA_0 (by omega) (by omega)]
  omega
theorem z_JJ : JJ 0 zA zB := ⟨zA_IA, zB_IB, z_TP, z_TT, ⟨z_MM, z_SS⟩, z_sr⟩
