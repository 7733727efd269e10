section
def up (σ : eS) (c : Nat) (k : Int) (z : Int) : eS := fun c' k' => if c' = c ∧ k' = k then z else σ c' k'
theorem up_same (σ : eS) (c : Nat) (k z : Int) : up σ c k z c k = z := by simp [up]
theorem up_ne (σ : eS) {c c' : Nat} (k k' z : Int) (h : c' ≠ c) : up σ c k z c' k' = σ c' k' := by simp [up, h]
theorem up_nk (σ : eS) {k k' : Int} (c c' : Nat) (z : Int) (h : k' ≠ k) : up σ c k z c' k' = σ c' k' := by simp [up, h]
theorem eE_up {dA : Nat → ClassId} {ad : Nat → Nat} {σ : eS} {c c' : Nat} {k z : Int} {r : Nat × Nat × List Nat} (h : c' ≠ c) : eE dA ad (up σ c k z) c' r = eE dA ad σ c' r := by
  unfold eE
  simp only [up_ne _ _ _ _ h]
theorem eW_up {sh : eSh} {dA : Nat → ClassId} {ad : Nat → Nat} {σ : eS} {c : Nat} {k z : Int} {r : Nat × Nat × List Nat} (h : sh[c]? = some r) {x : va_E} (hx : eE dA ad (up σ c k z) c r = x) : (eW sh dA ad σ).set c (ad c, x) = eW sh dA ad (up σ c k z) := by
  subst hx
  apply List.ext_getElem?
  intro j
  by_cases hj : j = c
  · subst hj
    rw [eW_at h, List.getElem?_set_self]
    simp only [eW, List.length_mapIdx]
    exact (List.getElem?_eq_some_iff.mp h).1
  · rw [List.getElem?_set_ne (fun q => hj q.symm)]
    simp only [eW, List.getElem?_mapIdx]
    cases sh[j]? with
    | none => rfl
    | some r' => simp only [Option.map_some, eE_up hj]
theorem eGd_up {sh : eSh} {σ : eS} {c : Nat} {k z : Int} (h : eGd sh σ) (h1 : rl z) (h2 : eLong sh c k = false → rg z) : eGd sh (up σ c k z) := by
  intro c' k'
  by_cases hc : c' = c ∧ k' = k
  · obtain ⟨rfl, rfl⟩ := hc
    rw [up_same]
    exact ⟨h1, h2⟩
  · have : up σ c k z c' k' = σ c' k' := by simp [up, hc]
    rw [this]
    exact h c' k'
theorem rg_rl {z : Int} (h : rg z) : rl z := ⟨by omega, by omega⟩
section E3
variable {sh : eSh} {M : eM} {pc pc' tgt : Nat} {ls : List (Option eV)} {st st' : List eV} {σ : eS} {Q : eS → Option eV → Prop}
theorem og_get (i : Nat) {c0 x ci k t : Nat} {kz : Int} {ts : List Nat} (hd : nth (eTab M) i = some (pc, .getfield x, pc')) (hn : pc + 3 = pc') (hf : eFk (eOwn M) x ci k kz) (hs : nth sh c0 = some (0, ci, ts)) (ht : nth ts k = some t) {v : eV} (hv : ∀ ad : Nat → Nat, eFv ad (σ c0 kz) t = eR ad v) (hk : eGd sh σ → eK v) (K : Ok sh M pc' ls (v :: st) σ Q) : Ok sh M pc ls (vr c0 :: st) σ Q := by
  intro l p e s m args below meth c D dA ad H locs la C hH hL hS
  obtain ⟨q, q1, q2, q3, q4, rfl⟩ := hf
  have hw := eW_at (dA := dA) (ad := ad) (σ := σ) (nth_get hs)
  exact va_get (a := ad c0) C.2.1 C.2.2.1 C.2.2.2.2.2.2.2.1 (eCl_in q1) C.2.2.2.2.2.2.1 C.2.2.2.2.2.2.2.2.1 hH.1 c0 hw q1 k q3 (C.2.2.2.2.2.2.2.1 _ q2) (fun x h => h) (v := eR ad v) (by
    show (ts.mapIdx _)[k]? = _
    rw [List.getElem?_mapIdx, nth_get ht]
    exact congrArg some (hv ad)) (C.1.dec hd hn) (Ok.go K C hH hL ⟨hk hH.2.2, hS.2⟩ hn rfl)
theorem eGd_i {c0 ci k : Nat} {ts : List Nat} {t : Nat} (h : eGd sh σ) (hs : nth sh c0 = some (0, ci, ts)) (ht : nth ts k = some t) (h1 : t ≠ 1) : rg (σ c0 (k : Int)) := by
  refine (h c0 k).2 ?_
  unfold eLong
  rw [nth_get hs]
  simp [nth_get ht, h1]
theorem ok_getI (i : Nat) {c0 x ci k t : Nat} {kz : Int} {ts : List Nat} (hd : nth (eTab M) i = some (pc, .getfield x, pc')) (hn : pc + 3 = pc') (hf : eFk (eOwn M) x ci k kz) (hs : nth sh c0 = some (0, ci, ts)) (ht : nth ts k = some t) (h0 : t = 0 ∨ t = 2) (K : Ok sh M pc' ls (vi (σ c0 kz) :: st) σ Q) : Ok sh M pc ls (vr c0 :: st) σ Q := by
  refine og_get i hd hn hf hs ht (fun ad => ?_) (fun h => ?_) K
  · rcases h0 with rfl | rfl <;> rfl
  · obtain ⟨q, q1, q2, q3, q4, rfl⟩ := hf
    exact eGd_i h hs ht (by omega)
theorem ok_getL (i : Nat) {c0 x ci k : Nat} {kz : Int} {ts : List Nat} (hd : nth (eTab M) i = some (pc, .getfield x, pc')) (hn : pc + 3 = pc') (hf : eFk (eOwn M) x ci k kz) (hs : nth sh c0 = some (0, ci, ts)) (ht : nth ts k = some 1) (K : Ok sh M pc' ls (vl (σ c0 kz) :: st) σ Q) : Ok sh M pc ls (vr c0 :: st) σ Q :=
  og_get (v := vl (σ c0 kz)) i hd hn hf hs ht (fun ad => rfl) (fun h => (h c0 kz).1) K
theorem ok_getR (i : Nat) {c0 x ci k r : Nat} {kz : Int} {ts : List Nat} (hd : nth (eTab M) i = some (pc, .getfield x, pc')) (hn : pc + 3 = pc') (hf : eFk (eOwn M) x ci k kz) (hs : nth sh c0 = some (0, ci, ts)) (ht : nth ts k = some (r + 3)) (K : Ok sh M pc' ls (vr r :: st) σ Q) : Ok sh M pc ls (vr c0 :: st) σ Q :=
  og_get (v := vr r) i hd hn hf hs ht (fun ad => by simp [eFv, eR]) (fun h => trivial) K
theorem og_put (i : Nat) {c0 x ci k t : Nat} {z kz : Int} {ts : List Nat} {v : eV} {ty : FieldType} (hd : nth (eTab M) i = some (pc, .putfield x, pc')) (hn : pc + 3 = pc') (hf : eFk (eOwn M) x ci k kz) (hs : nth sh c0 = some (0, ci, ts)) (ht : nth ts k = some t) (hfin : (((eCl.getD ci ("", fun _ => ("", "", "", false), 0)).2.1) k).2.2.2 = false) (hty : parseFieldDescriptor (((eCl.getD ci ("", fun _ => ("", "", "", false), 0)).2.1) k).2.2.1 = some ty) (hv : ∀ ad : Nat → Nat, eFv ad z t = eR ad v ∧ narrow ty (eR ad v) = eR ad v ∧ fits ty (eR ad v) = true) (hg : eK v → rl z ∧ (eLong sh c0 kz = false → rg z)) (K : Ok sh M pc' ls st (up σ c0 kz z) Q) : Ok sh M pc ls (v :: vr c0 :: st) σ Q := by
  intro l p e s m args below meth c D dA ad H locs la C hH hL hS
  obtain ⟨q, q1, q2, q3, q4, rfl⟩ := hf
  have hq : eCl.getD ci ("", fun _ => ("", "", "", false), 0) = q := by rw [List.getD_eq_getElem?_getD, q1]; rfl
  rw [hq] at hfin hty
  have hw := eW_at (dA := dA) (ad := ad) (σ := σ) (nth_get hs)
  have hkl : k < ts.length := (List.getElem?_eq_some_iff.mp (nth_get ht)).1
  refine va_put (a := ad c0) C.2.1 C.2.2.1 C.2.2.2.2.2.2.2.1 (eCl_in q1) (eTyOf.getD ci (fun _ => .int)) (eCl_ty ci q4 q q1) (eCl_nm ci q4 q q1) C.2.2.2.2.2.2.1 C.2.2.2.2.2.2.2.2.1 hH.1 (eD C.2.2.2.2.2.2.2.2.2.2) hH.2.1 c0 hw q1 k q3 (C.2.2.2.2.2.2.2.1 _ q2) (fun x h => h) hfin hty (hv ad).2.1 (hv ad).2.2 (by rw [List.length_mapIdx]; exact hkl) (C.1.dec hd hn) (fun H1 locs1 hP1 _ hS1 => ?_)
  have he : eE dA ad (up σ c0 k z) c0 (0, ci, ts) = .inr (ci, (ts.mapIdx (fun j t => eFv ad (σ c0 (j : Nat)) t)).set k (eR ad v)) := by
    show Sum.inr (ci, ts.mapIdx _) = _
    congr 2
    apply List.ext_getElem?
    intro j
    by_cases hj : j = k
    · subst hj
      rw [List.getElem?_set_self (by rw [List.length_mapIdx]; exact hkl), List.getElem?_mapIdx, nth_get ht, Option.map_some, up_same]
      exact congrArg some (hv ad).1
    · rw [List.getElem?_set_ne (fun q => hj q.symm), List.getElem?_mapIdx, List.getElem?_mapIdx, up_nk _ _ _ _ (by omega)]
  rw [eW_up (nth_get hs) he] at hP1
  have hk2 := hg hS.1
  exact Ok.go K C ⟨hP1, hS1, eGd_up hH.2.2 hk2.1 hk2.2⟩ hL hS.2.2 hn rfl
theorem ok_putI (i : Nat) {c0 x ci k : Nat} {z kz : Int} {ts : List Nat} (hd : nth (eTab M) i = some (pc, .putfield x, pc')) (hn : pc + 3 = pc') (hf : eFk (eOwn M) x ci k kz) (hs : nth sh c0 = some (0, ci, ts)) (ht : nth ts k = some 0) (hfin : (((eCl.getD ci ("", fun _ => ("", "", "", false), 0)).2.1) k).2.2.2 = false) (hty : parseFieldDescriptor (((eCl.getD ci ("", fun _ => ("", "", "", false), 0)).2.1) k).2.2.1 = some .int) (K : Ok sh M pc' ls st (up σ c0 kz z) Q) : Ok sh M pc ls (vi z :: vr c0 :: st) σ Q :=
  og_put i hd hn hf hs ht hfin hty (fun ad => ⟨rfl, rfl, rfl⟩) (fun h => ⟨rg_rl h, fun _ => h⟩) K
theorem ok_putZ (i : Nat) {c0 x ci k : Nat} {z kz : Int} {ts : List Nat} (hd : nth (eTab M) i = some (pc, .putfield x, pc')) (hn : pc + 3 = pc') (hf : eFk (eOwn M) x ci k kz) (hs : nth sh c0 = some (0, ci, ts)) (ht : nth ts k = some 2) (hfin : (((eCl.getD ci ("", fun _ => ("", "", "", false), 0)).2.1) k).2.2.2 = false) (hty : parseFieldDescriptor (((eCl.getD ci ("", fun _ => ("", "", "", false), 0)).2.1) k).2.2.1 = some .boolean) (hz : z = 0 ∨ z = 1) (K : Ok sh M pc' ls st (up σ c0 kz z) Q) : Ok sh M pc ls (vi z :: vr c0 :: st) σ Q :=
  og_put i hd hn hf hs ht hfin hty (fun ad => by rcases hz with rfl | rfl <;> exact ⟨rfl, rfl, rfl⟩) (fun h => ⟨rg_rl h, fun _ => h⟩) K
theorem ok_putL (i : Nat) {c0 x ci k : Nat} {z kz : Int} {ts : List Nat} (hd : nth (eTab M) i = some (pc, .putfield x, pc')) (hn : pc + 3 = pc') (hf : eFk (eOwn M) x ci k kz) (hs : nth sh c0 = some (0, ci, ts)) (ht : nth ts k = some 1) (hfin : (((eCl.getD ci ("", fun _ => ("", "", "", false), 0)).2.1) k).2.2.2 = false) (hty : parseFieldDescriptor (((eCl.getD ci ("", fun _ => ("", "", "", false), 0)).2.1) k).2.2.1 = some .long) (K : Ok sh M pc' ls st (up σ c0 kz z) Q) : Ok sh M pc ls (vl z :: vr c0 :: st) σ Q :=
  og_put i hd hn hf hs ht hfin hty (fun ad => ⟨rfl, rfl, rfl⟩) (fun h => ⟨h, fun q => by
    obtain ⟨q0, q1, q2, q3, q4, rfl⟩ := hf
    unfold eLong at q
    rw [nth_get hs] at q
    simp [nth_get ht] at q⟩) K
/-! arrays -/
theorem ix_nat {j : Int} {n : Nat} (hj : rg j) (h0 : 0 ≤ j) (h1 : j < n) : (Int32.ofInt j).toNatClampNeg = j.toNat ∧ vp_in (Int32.ofInt j) n := by
  have e := rg_in hj
  have e2 : (Int32.ofInt j).toNatClampNeg = j.toNat := by
    show (Int32.ofInt j).toInt.toNat = _
    rw [e]
  refine ⟨e2, vp_in_iff.mpr ?_⟩
  rw [e]
  exact ⟨h0, h1⟩
theorem eKt {M : eM} {p : Program} {s : State} {m : MethodId} {args : Array Value} {meth : Method} {c : Code} {D : va_G} {dA : Nat → ClassId} {ad : Nat → Nat} {c0 : Nat} {r : Nat × Nat × List Nat} (C : eCx sh M p s m args meth c D dA ad) (hs : nth sh c0 = some r) (hr : r.1 ≠ 0) : va_K D eCl [(dA c0, eTy r.1)] s := by
  refine ⟨C.2.2.2.2.2.2.2.2.1.1, fun k q h => ?_⟩
  match k, h with
  | 0, h => cases h; exact C.2.2.2.2.2.2.2.2.2.1 c0 r (nth_get hs) hr
  | k + 1, h => simp at h
theorem eGd_a {c0 t n : Nat} {rs : List Nat} {k : Int} (h : eGd sh σ) (hs : nth sh c0 = some (t, n, rs)) (ht : t = 1 ∨ t = 3) : rg (σ c0 k) := by
  refine (h c0 k).2 ?_
  unfold eLong
  rw [nth_get hs]
  rcases ht with rfl | rfl <;> rfl
theorem ok_iald (i : Nat) {c0 n : Nat} {j : Int} {rs : List Nat} (hd : nth (eTab M) i = some (pc, .iaload, pc')) (hn : pc + 1 = pc') (hs : nth sh c0 = some (1, n, rs)) (hj : 0 ≤ j ∧ j < (n : Int)) (K : Ok sh M pc' ls (vi (σ c0 j) :: st) σ Q) : Ok sh M pc ls (vi j :: vr c0 :: st) σ Q := by
  intro l p e s m args below meth c D dA ad H locs la C hH hL hS
  obtain ⟨e1, e2⟩ := ix_nat hS.1 hj.1 hj.2
  have hw := eW_at (dA := dA) (ad := ad) (σ := σ) (nth_get hs)
  refine va_iald (a := ad c0) C.2.1 C.2.2.1 (eKt C hs (Nat.succ_ne_zero _)) hH.1 c0 0 hw rfl e2 (C.1.dec hd hn) (Ok.go K C hH hL ⟨eGd_a hH.2.2 hs (Or.inl rfl), hS.2.2⟩ hn ?_)
  rw [e1]
  show Value.int (Int32.ofInt (σ c0 j)) :: _ = Value.int (Int32.ofInt (σ c0 (j.toNat : Int))) :: _
  rw [Int.toNat_of_nonneg hj.1]
theorem ok_lald (i : Nat) {c0 n : Nat} {j : Int} {rs : List Nat} (hd : nth (eTab M) i = some (pc, .laload, pc')) (hn : pc + 1 = pc') (hs : nth sh c0 = some (2, n, rs)) (hj : 0 ≤ j ∧ j < (n : Int)) (K : Ok sh M pc' ls (vl (σ c0 j) :: st) σ Q) : Ok sh M pc ls (vi j :: vr c0 :: st) σ Q := by
  intro l p e s m args below meth c D dA ad H locs la C hH hL hS
  obtain ⟨e1, e2⟩ := ix_nat hS.1 hj.1 hj.2
  have hw := eW_at (dA := dA) (ad := ad) (σ := σ) (nth_get hs)
  refine va_lald (a := ad c0) C.2.1 C.2.2.1 (eKt C hs (Nat.succ_ne_zero _)) hH.1 c0 0 hw rfl e2 (C.1.dec hd hn) (Ok.go K C hH hL ⟨(hH.2.2 c0 j).1, hS.2.2⟩ hn ?_)
  rw [e1]
  show Value.long (Int64.ofInt (σ c0 j)) :: _ = Value.long (Int64.ofInt (σ c0 (j.toNat : Int))) :: _
  rw [Int.toNat_of_nonneg hj.1]
theorem ok_zald (i : Nat) {c0 n : Nat} {j : Int} {rs : List Nat} (hd : nth (eTab M) i = some (pc, .baload, pc')) (hn : pc + 1 = pc') (hs : nth sh c0 = some (3, n, rs)) (hj : 0 ≤ j ∧ j < (n : Int)) (K : Ok sh M pc' ls (vi (σ c0 j) :: st) σ Q) : Ok sh M pc ls (vi j :: vr c0 :: st) σ Q := by
  intro l p e s m args below meth c D dA ad H locs la C hH hL hS
  obtain ⟨e1, e2⟩ := ix_nat hS.1 hj.1 hj.2
  have hw := eW_at (dA := dA) (ad := ad) (σ := σ) (nth_get hs)
  refine va_zald (a := ad c0) C.2.1 C.2.2.1 (eKt C hs (Nat.succ_ne_zero _)) hH.1 c0 0 hw rfl e2 (C.1.dec hd hn) (Ok.go K C hH hL ⟨eGd_a hH.2.2 hs (Or.inr rfl), hS.2.2⟩ hn ?_)
  rw [e1]
  show Value.int (Int32.ofInt (σ c0 j)) :: _ = Value.int (Int32.ofInt (σ c0 (j.toNat : Int))) :: _
  rw [Int.toNat_of_nonneg hj.1]
theorem ok_aald (i r : Nat) {c0 n t : Nat} {j : Int} {rs : List Nat} (hd : nth (eTab M) i = some (pc, .aaload, pc')) (hn : pc + 1 = pc') (hs : nth sh c0 = some (t, n, rs)) (ht : t = 4 ∨ t = 5) (hj : 0 ≤ j ∧ j < (n : Int)) (hr : rs[j.toNat]? = some r) (K : Ok sh M pc' ls (vr r :: st) σ Q) : Ok sh M pc ls (vi j :: vr c0 :: st) σ Q := by
  intro l p e s m args below meth c D dA ad H locs la C hH hL hS
  obtain ⟨e1, e2⟩ := ix_nat hS.1 hj.1 hj.2
  have hw := eW_at (dA := dA) (ad := ad) (σ := σ) (nth_get hs)
  have hz : ∀ f : Nat → Option Nat, f (Int32.ofInt j).toNatClampNeg = some (ad r) → (vr r :: st).map (eR ad) = va_rf (f (Int32.ofInt j).toNatClampNeg) :: st.map (eR ad) := fun f h => by rw [h]; rfl
  rcases ht with rfl | rfl
  · exact va_aldq (a := ad c0) (C := "EvenTables$Table") C.2.1 C.2.2.1 (eKt C hs (Nat.succ_ne_zero _)) hH.1 c0 0 hw rfl e2 (C.1.dec hd hn) (Ok.go K C hH hL ⟨trivial, hS.2.2⟩ hn (hz (fun k => rs[k]?.map ad) (by show (rs[_]?).map ad = _; rw [e1, hr]; rfl)))
  · exact va_aldq (a := ad c0) (C := "EvenTables$Peeler") C.2.1 C.2.2.1 (eKt C hs (Nat.succ_ne_zero _)) hH.1 c0 0 hw rfl e2 (C.1.dec hd hn) (Ok.go K C hH hL ⟨trivial, hS.2.2⟩ hn (hz (fun k => rs[k]?.map ad) (by show (rs[_]?).map ad = _; rw [e1, hr]; rfl)))
theorem eE_ia {dA : Nat → ClassId} {ad : Nat → Nat} {c0 n t : Nat} {rs : List Nat} {j z : Int} (ht : t = 1 ∨ t = 3) (h0 : 0 ≤ j) : eE dA ad (up σ c0 j z) c0 (t, n, rs) = .inl (dA c0, n, .inl (upd (fun k => Int32.ofInt (σ c0 ((k : Nat) : Int))) j.toNat (Int32.ofInt z))) := by
  have : eE dA ad (up σ c0 j z) c0 (t, n, rs) = .inl (dA c0, n, .inl (fun k => Int32.ofInt (up σ c0 j z c0 ((k : Nat) : Int)))) := by rcases ht with rfl | rfl <;> rfl
  rw [this]
  congr 4
  funext k
  unfold upd
  by_cases hk : k = j.toNat
  · rw [if_pos hk, hk, Int.toNat_of_nonneg h0, up_same]
  · rw [if_neg hk, up_nk _ _ _ _ (by omega)]
theorem ok_iast (i : Nat) {c0 n : Nat} {j z : Int} {rs : List Nat} (hd : nth (eTab M) i = some (pc, .iastore, pc')) (hn : pc + 1 = pc') (hs : nth sh c0 = some (1, n, rs)) (hj : 0 ≤ j ∧ j < (n : Int)) (K : Ok sh M pc' ls st (up σ c0 j z) Q) : Ok sh M pc ls (vi z :: vi j :: vr c0 :: st) σ Q := by
  intro l p e s m args below meth c D dA ad H locs la C hH hL hS
  obtain ⟨e1, e2⟩ := ix_nat hS.2.1 hj.1 hj.2
  have hw := eW_at (dA := dA) (ad := ad) (σ := σ) (nth_get hs)
  refine va_iast (a := ad c0) C.2.1 C.2.2.1 (eKt C hs (Nat.succ_ne_zero _)) hH.1 (eD C.2.2.2.2.2.2.2.2.2.2) hH.2.1 c0 0 hw rfl e2 (C.1.dec hd hn) (fun H1 locs1 hP1 _ hS1 => ?_)
  rw [e1, eW_up (nth_get hs) (eE_ia (Or.inl rfl) hj.1)] at hP1
  exact Ok.go K C ⟨hP1, hS1, eGd_up hH.2.2 (rg_rl hS.1) (fun _ => hS.1)⟩ hL hS.2.2.2 hn rfl
theorem ok_zast (i : Nat) {c0 n : Nat} {j z : Int} {rs : List Nat} (hd : nth (eTab M) i = some (pc, .bastore, pc')) (hn : pc + 1 = pc') (hs : nth sh c0 = some (3, n, rs)) (hj : 0 ≤ j ∧ j < (n : Int)) (hz : z = 0 ∨ z = 1) (K : Ok sh M pc' ls st (up σ c0 j z) Q) : Ok sh M pc ls (vi z :: vi j :: vr c0 :: st) σ Q := by
  intro l p e s m args below meth c D dA ad H locs la C hH hL hS
  obtain ⟨e1, e2⟩ := ix_nat hS.2.1 hj.1 hj.2
  have hw := eW_at (dA := dA) (ad := ad) (σ := σ) (nth_get hs)
  refine va_zast (a := ad c0) C.2.1 C.2.2.1 (eKt C hs (Nat.succ_ne_zero _)) hH.1 (eD C.2.2.2.2.2.2.2.2.2.2) hH.2.1 c0 0 hw rfl e2 (C.1.dec hd hn) (fun H1 locs1 hP1 _ hS1 => ?_)
  have hna : vp_nar .boolean (Int32.ofInt z) = Int32.ofInt z := by rcases hz with rfl | rfl <;> rfl
  rw [hna, e1, eW_up (nth_get hs) (eE_ia (Or.inr rfl) hj.1)] at hP1
  exact Ok.go K C ⟨hP1, hS1, eGd_up hH.2.2 (rg_rl hS.1) (fun _ => hS.1)⟩ hL hS.2.2.2 hn rfl
theorem ok_last (i : Nat) {c0 n : Nat} {j z : Int} {rs : List Nat} (hd : nth (eTab M) i = some (pc, .lastore, pc')) (hn : pc + 1 = pc') (hs : nth sh c0 = some (2, n, rs)) (hj : 0 ≤ j ∧ j < (n : Int)) (K : Ok sh M pc' ls st (up σ c0 j z) Q) : Ok sh M pc ls (vl z :: vi j :: vr c0 :: st) σ Q := by
  intro l p e s m args below meth c D dA ad H locs la C hH hL hS
  obtain ⟨e1, e2⟩ := ix_nat hS.2.1 hj.1 hj.2
  have hw := eW_at (dA := dA) (ad := ad) (σ := σ) (nth_get hs)
  refine va_last (a := ad c0) C.2.1 C.2.2.1 (eKt C hs (Nat.succ_ne_zero _)) hH.1 (eD C.2.2.2.2.2.2.2.2.2.2) hH.2.1 c0 0 hw rfl e2 (C.1.dec hd hn) (fun H1 locs1 hP1 _ hS1 => ?_)
  have he : eE dA ad (up σ c0 j z) c0 (2, n, rs) = .inl (dA c0, n, .inr (.inl (vp_updL (fun k => Int64.ofInt (σ c0 ((k : Nat) : Int))) j.toNat (Int64.ofInt z)))) := by
    show Sum.inl (dA c0, n, Sum.inr (Sum.inl (fun k : Nat => Int64.ofInt (up σ c0 j z c0 (k : Int))))) = _
    congr 5
    funext k
    unfold vp_updL
    by_cases hk : k = j.toNat
    · rw [if_pos hk, hk, Int.toNat_of_nonneg hj.1, up_same]
    · rw [if_neg hk, up_nk _ _ _ _ (by omega)]
  rw [e1, eW_up (nth_get hs) he] at hP1
  exact Ok.go K C ⟨hP1, hS1, eGd_up hH.2.2 hS.1 (fun q => by unfold eLong at q; rw [nth_get hs] at q; cases q)⟩ hL hS.2.2.2 hn rfl
theorem ok_alen (i : Nat) {c0 n t : Nat} {nz : Int} {rs : List Nat} (hd : nth (eTab M) i = some (pc, .arraylength, pc')) (hn : pc + 1 = pc') (hs : nth sh c0 = some (t, n, rs)) (ht : t = 1) (hz : (n : Int) = nz) (hr : rg nz) (K : Ok sh M pc' ls (vi nz :: st) σ Q) : Ok sh M pc ls (vr c0 :: st) σ Q := by
  intro l p e s m args below meth c D dA ad H locs la C hH hL hS
  subst ht
  have hw := eW_at (dA := dA) (ad := ad) (σ := σ) (nth_get hs)
  exact va_alen (a := ad c0) (v := Int32.ofInt nz) C.2.1 C.2.2.1 (eKt C hs (Nat.succ_ne_zero _)) hH.1 c0 0 hw rfl (by show Int32.ofNat n = _; rw [← hz]; rfl) (C.1.dec hd hn) (Ok.go K C hH hL ⟨hr, hS.2⟩ hn rfl)
end E3
end
section
theorem eKA.moved {sh : eSh} {dA : Nat → ClassId} {u U : State} (hvm : u.vm.Alike U.vm) (h : eKA sh dA u) : eKA sh dA U := fun c r h1 h2 => ⟨arrOfT_moved hvm (h c r h1 h2).1, (h c r h1 h2).2.moved hvm⟩
section E4
variable {sh : eSh} {M : eM} {pc pc' tgt : Nat} {ls : List (Option eV)} {st st0 : List eV} {σ : eS} {Q : eS → Option eV → Prop}
theorem ePc_blind {D : va_G} {dA : Nat → ClassId} {ad : Nat → Nat} {as : List eV} : FrameBlind (ePc sh D dA ad as σ) := fun a U g mk q =>
  ⟨q.1, q.2.1, va_K.moved (u := U) (U := U.calling g mk a) (Vm.Alike.refl U.vm) q.2.2.1, eKA.moved (u := U) (U := U.calling g mk a) (Vm.Alike.refl U.vm) q.2.2.2⟩
theorem cat_sum (ad : Nat → Nat) : ∀ l : List eV, ((l.map (eR ad)).map fun v => v.category).sum = (l.map eCat).sum
  | [] => rfl
  | v :: l => by simp only [List.map_cons, List.sum_cons, eR_cat, cat_sum ad l]
/-- behind a call -/
theorem og_back {l : Launch} {p : Program} {e : Env} {s : State} {m : MethodId} {args : Array Value} {below : List Frame} {meth : Method} {c : Code} {D : va_G} {dA : Nat → ClassId} {ad : Nat → Nat} {H : Heap} {locs : List Loc} {la : Array Slot} {Q' : eS → Option eV → Prop} {stk : List Value} {a : Array Value}
    (C : eCx sh M p s m args meth c D dA ad) (hH : eHp sh s D dA ad σ H locs) (hL : eLs la (eNL M) ad ls) (hS : eKs st) (hn : pc + 3 = pc') (hrun : va_Run p l e (eRm M) s m args below meth c H locs 0 0 0 0 (F0 m pc la stk) (st.map (eR ad)) (eQ sh D dA ad Q' a) (eA sh ad))
    (K : ∀ σ' v, Q' σ' v → Ok sh M pc' ls (v.toList ++ st) σ' Q) : W p l e (eRm M) s m args below meth c H locs 0 0 (MQ below (eQ sh D dA ad Q) args s 0 0 (eA sh ad)) (F0 m pc la stk) := by
  intro T hT X
  obtain ⟨v, st₀, t, T', L, h0, X', hL', e1, e2, ⟨⟨v', σ', hv, hq, hk, hgd, hP'⟩, hF⟩, hgo⟩ := hrun T hT X
  cases hv
  have hS' : va_S (eA sh ad) s.heap T'.heap (locs ++ L) := by
    refine ⟨?_, fun q h1 h2 => ?_, fun q hq' => ?_⟩
    · rw [e1]
      exact Nat.le_trans hH.2.1.1 (by rw [← h0]; exact hF.1)
    · rw [e1, hF.2 q (by rw [h0]; exact Nat.lt_of_lt_of_le h1 hH.2.1.1) h2, h0]
      exact hH.2.1.2.1 q h1 h2
    · rcases List.mem_append.mp hq' with h | h
      · exact hH.2.1.2.2 q h
      · exact hL' q h
  have hks : eKs (v'.toList ++ st) := by
    cases v' with
    | none => exact hS
    | some x => exact ⟨hk x rfl, hS⟩
  have h := K σ' v' hq l p e s m args below meth c D dA ad T'.heap (locs ++ L) la C ⟨by rw [e1]; exact hP', hS', hgd⟩ hL hks
  obtain ⟨t2, a1, b1⟩ := h T' rfl X'
  refine ⟨t2, hgo t2 ?_, b1⟩
  have : (v'.toList ++ st).map (eR ad) = (v'.map (eR ad)).toList ++ st.map (eR ad) := by cases v' <;> rfl
  rw [this, ← hn] at a1
  exact a1
theorem og_callV (i : Nat) {x c0 ci : Nat} {M' : eM} {as : List eV} {Q' : eS → Option eV → Prop} {ts : List Nat} (hd : nth (eTab M) i = some (pc, .invokevirtual x, pc')) (hn : pc + 3 = pc') (hl : eLkV (eOwn M) x (eNm M') as.length) (hM : Mt sh M' (vr c0 :: as) σ Q') (hs : nth sh c0 = some (0, ci, ts)) (hc : (eCl.getD ci ("", fun _ => ("", "", "", false), 0)).1 = eOwn M') (hci : ci < eCl.length)
    (hr : (eRm M').frames + 1 ≤ (eRm M).frames ∧ 8 + (eNL M' + 11) + (eRm M').locals ≤ (eRm M).locals) (hst : st0 = as.reverse ++ vr c0 :: st) (hw : (st.map eCat).sum ≤ 8) (K : ∀ σ' v, Q' σ' v → Ok sh M pc' ls (v.toList ++ st) σ' Q) : Ok sh M pc ls st0 σ Q := by
  intro l p e s m args below meth c D dA ad H locs la C hH hL hS
  obtain ⟨w1, w2, w3, w4, w5, w6, w7⟩ := hl
  subst hst
  have hcls : (eNm M').cls = eOwn M' := hM.1.2.2.2.1
  have ksA : ∀ (xs : List eV), eKs (xs.reverse ++ vr c0 :: st) → eKs (vr c0 :: xs) ∧ eKs st := by
    intro xs h
    have h1 := eKs_at h
    exact ⟨eKs_of fun v hv => by
      rcases List.mem_cons.mp hv with rfl | hv
      · trivial
      · exact h1 v (List.mem_append_left _ (List.mem_reverse.mpr hv)), eKs_of fun v hv => h1 v (List.mem_append_right _ (List.mem_cons_of_mem _ hv))⟩
  obtain ⟨k1, k2⟩ := ksA as hS
  have hMet := hM.2 l D dA ad C.2.2.2.2.2.2.2.2.2.2 k1 hH.2.2
  have hstk : (as.reverse ++ vr c0 :: st).map (eR ad) = (as.map (eR ad)).reverse ++ .ref (ad c0) :: st.map (eR ad) := by
    rw [List.map_append, List.map_reverse, List.map_cons]
    rfl
  rw [hstk]
  have hq1 : eCl[ci]? = some (eCl.getD ci ("", fun _ => ("", "", "", false), 0)) := by
    rw [List.getD_eq_getElem?_getD, List.getElem?_eq_getElem hci]
    rfl
  have hg : GoodIn eTbl (wsV (eOwn M) x (eOwn M') (eNm M') (eWs M')) := eGoodIn fun w hw => by
    simp only [wsV, List.mem_append, List.mem_cons, List.not_mem_nil, or_false] at hw
    rcases hw with (rfl | rfl | rfl | rfl) | hw
    · exact w1
    · exact w3
    · rw [← hcls]; exact w4
    · rw [← hcls]; exact w2
    · rcases List.mem_cons.mp hw with rfl | hw
      · exact hM.1.2.1
      · exact hw
  refine og_back C hH hL k2 hn (va_runV (C := eOwn M') (As := as.map (eR ad)) (rest := st.map (eR ad)) (b := ad c0) ⟨C.2.1, C.2.2.1, C.2.2.2.1, C.2.2.2.2.2.2.1, C.2.2.2.2.2.2.2.1⟩ hMet (cwV as.length C.2.2.2.2.2.2.2.1 hg rfl hM.1.2.2.2.2.1 hM.1.2.2.2.2.2 ⟨hcls, w5, w6, w7⟩ hr) ⟨ePc_blind, ?_, fun U hU hW => ⟨rfl, by rw [hU]; exact hH.1, va_K.moved hW.alike C.2.2.2.2.2.2.2.2.1, eKA.moved hW.alike C.2.2.2.2.2.2.2.2.2.1⟩⟩ rfl (by rw [List.length_map]) hL.1 rfl (lv_room (by rw [cat_sum]; exact hw)) (C.1.dec hd hn) ⟨Nat.zero_le _, Nat.zero_le _⟩) K
  have hw1 := eW_at (dA := dA) (ad := ad) (σ := σ) (nth_get hs)
  have := va_recv (q0 := c0) C.2.2.2.2.2.2.2.2.1 hH.1 hq1 hw1
  rwa [hc] at this
theorem og_callS (i : Nat) {x : Nat} {M' : eM} {as : List eV} {Q' : eS → Option eV → Prop} (hd : nth (eTab M) i = some (pc, .invokestatic x, pc')) (hn : pc + 3 = pc') (hl : eLkS (eOwn M) x (eNm M') as.length) (hM : Mt sh M' as σ Q')
    (hr : (eRm M').frames + 1 ≤ (eRm M).frames ∧ 8 + (eNL M' + 11) + (eRm M').locals ≤ (eRm M).locals) (hst : st0 = as.reverse ++ st) (hw : (st.map eCat).sum ≤ 8) (K : ∀ σ' v, Q' σ' v → Ok sh M pc' ls (v.toList ++ st) σ' Q) : Ok sh M pc ls st0 σ Q := by
  intro l p e s m args below meth c D dA ad H locs la C hH hL hS
  obtain ⟨w1, w2, w3, w5, w6, w7⟩ := hl
  subst hst
  have h1 := eKs_at hS
  have k1 : eKs as := eKs_of fun v hv => h1 v (List.mem_append_left _ (List.mem_reverse.mpr hv))
  have k2 : eKs st := eKs_of fun v hv => h1 v (List.mem_append_right _ hv)
  have hMet := hM.2 l D dA ad C.2.2.2.2.2.2.2.2.2.2 k1 hH.2.2
  have hstk : (as.reverse ++ st).map (eR ad) = (as.map (eR ad)).reverse ++ st.map (eR ad) := by
    rw [List.map_append, List.map_reverse]
  rw [hstk]
  have hg : GoodIn eTbl (eWs M') := eGoodIn fun w hw => by
    rcases List.mem_cons.mp hw with rfl | hw
    · exact hM.1.2.1
    · exact hw
  exact og_back C hH hL k2 hn (va_runS (As := as.map (eR ad)) (rest := st.map (eR ad)) ⟨C.2.1, C.2.2.1, C.2.2.2.1, C.2.2.2.2.2.2.1, C.2.2.2.2.2.2.2.1⟩ hMet ⟨callB_of as.length C.2.2.2.2.2.2.2.1 hg rfl hM.1.2.2.2.2.1 hM.1.2.2.2.2.2 (C.2.2.2.2.2.2.2.1 _ w2) (C.2.2.2.2.2.2.2.1 _ w1) ⟨w5, w6, w7⟩ hr, C.2.2.2.2.2.2.2.1 _ w3⟩ ⟨ePc_blind, fun U hU hW => ⟨rfl, by rw [hU]; exact hH.1, va_K.moved hW.alike C.2.2.2.2.2.2.2.2.1, eKA.moved hW.alike C.2.2.2.2.2.2.2.2.2.1⟩⟩ rfl (by rw [List.length_map]) hL.1 rfl (lv_room (by rw [cat_sum]; exact hw)) (C.1.dec hd hn) ⟨Nat.zero_le _, Nat.zero_le _⟩) K
/-! contracts by what comes back: an int, a long, a reference or null, nothing -/
def MtI (sh : eSh) (M : eM) (as : List eV) (σ : eS) (P : eS → Int → Prop) : Prop := Mt sh M as σ (fun σ' v => ∃ z, v = some (vi z) ∧ P σ' z)
def MtL (sh : eSh) (M : eM) (as : List eV) (σ : eS) (P : eS → Int → Prop) : Prop := Mt sh M as σ (fun σ' v => ∃ z, v = some (vl z) ∧ P σ' z)
def MtR (sh : eSh) (M : eM) (as : List eV) (σ : eS) (P : eS → Option Nat → Prop) : Prop := Mt sh M as σ (fun σ' v => ∃ z, v = some (.inr (.inr z)) ∧ P σ' z)
def MtV (sh : eSh) (M : eM) (as : List eV) (σ : eS) (P : eS → Prop) : Prop := Mt sh M as σ (fun σ' v => v = none ∧ P σ')
theorem ok_callVI (i : Nat) {x c0 ci : Nat} {M' : eM} {as : List eV} {ts : List Nat} {P : eS → Int → Prop} (hd : nth (eTab M) i = some (pc, .invokevirtual x, pc')) (hn : pc + 3 = pc') (hl : eLkV (eOwn M) x (eNm M') as.length) (hM : MtI sh M' (vr c0 :: as) σ P) (hs : nth sh c0 = some (0, ci, ts)) (hc : (eCl.getD ci ("", fun _ => ("", "", "", false), 0)).1 = eOwn M') (hci : ci < eCl.length) (hr : (eRm M').frames + 1 ≤ (eRm M).frames ∧ 8 + (eNL M' + 11) + (eRm M').locals ≤ (eRm M).locals) (hst : st0 = as.reverse ++ vr c0 :: st) (hw : (st.map eCat).sum ≤ 8) (K : ∀ σ' z, P σ' z → Ok sh M pc' ls (vi z :: st) σ' Q) : Ok sh M pc ls st0 σ Q :=
  og_callV i hd hn hl hM hs hc hci hr hst hw (fun σ' v h => by obtain ⟨z, rfl, h⟩ := h; exact K σ' z h)
theorem ok_callVL (i : Nat) {x c0 ci : Nat} {M' : eM} {as : List eV} {ts : List Nat} {P : eS → Int → Prop} (hd : nth (eTab M) i = some (pc, .invokevirtual x, pc')) (hn : pc + 3 = pc') (hl : eLkV (eOwn M) x (eNm M') as.length) (hM : MtL sh M' (vr c0 :: as) σ P) (hs : nth sh c0 = some (0, ci, ts)) (hc : (eCl.getD ci ("", fun _ => ("", "", "", false), 0)).1 = eOwn M') (hci : ci < eCl.length) (hr : (eRm M').frames + 1 ≤ (eRm M).frames ∧ 8 + (eNL M' + 11) + (eRm M').locals ≤ (eRm M).locals) (hst : st0 = as.reverse ++ vr c0 :: st) (hw : (st.map eCat).sum ≤ 8) (K : ∀ σ' z, P σ' z → Ok sh M pc' ls (vl z :: st) σ' Q) : Ok sh M pc ls st0 σ Q :=
  og_callV i hd hn hl hM hs hc hci hr hst hw (fun σ' v h => by obtain ⟨z, rfl, h⟩ := h; exact K σ' z h)
theorem ok_callVR (i : Nat) {x c0 ci : Nat} {M' : eM} {as : List eV} {ts : List Nat} {P : eS → Option Nat → Prop} (hd : nth (eTab M) i = some (pc, .invokevirtual x, pc')) (hn : pc + 3 = pc') (hl : eLkV (eOwn M) x (eNm M') as.length) (hM : MtR sh M' (vr c0 :: as) σ P) (hs : nth sh c0 = some (0, ci, ts)) (hc : (eCl.getD ci ("", fun _ => ("", "", "", false), 0)).1 = eOwn M') (hci : ci < eCl.length) (hr : (eRm M').frames + 1 ≤ (eRm M).frames ∧ 8 + (eNL M' + 11) + (eRm M').locals ≤ (eRm M).locals) (hst : st0 = as.reverse ++ vr c0 :: st) (hw : (st.map eCat).sum ≤ 8) (K : ∀ σ' z, P σ' z → Ok sh M pc' ls (.inr (.inr z) :: st) σ' Q) : Ok sh M pc ls st0 σ Q :=
  og_callV i hd hn hl hM hs hc hci hr hst hw (fun σ' v h => by obtain ⟨z, rfl, h⟩ := h; exact K σ' z h)
theorem ok_callVV (i : Nat) {x c0 ci : Nat} {M' : eM} {as : List eV} {ts : List Nat} {P : eS → Prop} (hd : nth (eTab M) i = some (pc, .invokevirtual x, pc')) (hn : pc + 3 = pc') (hl : eLkV (eOwn M) x (eNm M') as.length) (hM : MtV sh M' (vr c0 :: as) σ P) (hs : nth sh c0 = some (0, ci, ts)) (hc : (eCl.getD ci ("", fun _ => ("", "", "", false), 0)).1 = eOwn M') (hci : ci < eCl.length) (hr : (eRm M').frames + 1 ≤ (eRm M).frames ∧ 8 + (eNL M' + 11) + (eRm M').locals ≤ (eRm M).locals) (hst : st0 = as.reverse ++ vr c0 :: st) (hw : (st.map eCat).sum ≤ 8) (K : ∀ σ', P σ' → Ok sh M pc' ls st σ' Q) : Ok sh M pc ls st0 σ Q :=
  og_callV i hd hn hl hM hs hc hci hr hst hw (fun σ' v h => by obtain ⟨rfl, h⟩ := h; exact K σ' h)
theorem ok_callSI (i : Nat) {x : Nat} {M' : eM} {as : List eV} {P : eS → Int → Prop} (hd : nth (eTab M) i = some (pc, .invokestatic x, pc')) (hn : pc + 3 = pc') (hl : eLkS (eOwn M) x (eNm M') as.length) (hM : MtI sh M' (as) σ P)  (hr : (eRm M').frames + 1 ≤ (eRm M).frames ∧ 8 + (eNL M' + 11) + (eRm M').locals ≤ (eRm M).locals) (hst : st0 = as.reverse ++ st) (hw : (st.map eCat).sum ≤ 8) (K : ∀ σ' z, P σ' z → Ok sh M pc' ls (vi z :: st) σ' Q) : Ok sh M pc ls st0 σ Q :=
  og_callS i hd hn hl hM hr hst hw (fun σ' v h => by obtain ⟨z, rfl, h⟩ := h; exact K σ' z h)
theorem ok_callSL (i : Nat) {x : Nat} {M' : eM} {as : List eV} {P : eS → Int → Prop} (hd : nth (eTab M) i = some (pc, .invokestatic x, pc')) (hn : pc + 3 = pc') (hl : eLkS (eOwn M) x (eNm M') as.length) (hM : MtL sh M' (as) σ P)  (hr : (eRm M').frames + 1 ≤ (eRm M).frames ∧ 8 + (eNL M' + 11) + (eRm M').locals ≤ (eRm M).locals) (hst : st0 = as.reverse ++ st) (hw : (st.map eCat).sum ≤ 8) (K : ∀ σ' z, P σ' z → Ok sh M pc' ls (vl z :: st) σ' Q) : Ok sh M pc ls st0 σ Q :=
  og_callS i hd hn hl hM hr hst hw (fun σ' v h => by obtain ⟨z, rfl, h⟩ := h; exact K σ' z h)
theorem ok_callSV (i : Nat) {x : Nat} {M' : eM} {as : List eV} {P : eS → Prop} (hd : nth (eTab M) i = some (pc, .invokestatic x, pc')) (hn : pc + 3 = pc') (hl : eLkS (eOwn M) x (eNm M') as.length) (hM : MtV sh M' (as) σ P)  (hr : (eRm M').frames + 1 ≤ (eRm M).frames ∧ 8 + (eNL M' + 11) + (eRm M').locals ≤ (eRm M).locals) (hst : st0 = as.reverse ++ st) (hw : (st.map eCat).sum ≤ 8) (K : ∀ σ', P σ' → Ok sh M pc' ls st σ' Q) : Ok sh M pc ls st0 σ Q :=
  og_callS i hd hn hl hM hr hst hw (fun σ' v h => by obtain ⟨rfl, h⟩ := h; exact K σ' h)
end E4
end
section
def dkr (c : ByteArray) (p n : Nat) : Prop := ∃ h : p < c.size, c[p].toNat = n
theorem dk_bind {α β : Type} {x : Decoder α} {f : α → Decoder β} {c : ByteArray} {p q : Nat} {a : α} (h : Reader.runAt x c p = .ok (a, q)) : Reader.runAt (x >>= f) c p = Reader.runAt (f a) c q := by
  show Except.bind (Reader.runAt x c p) (fun y => Reader.runAt (f y.1) c y.2) = _
  rw [h]; rfl
theorem dk_u1 {c : ByteArray} {p n : Nat} (h : dkr c p n) : Reader.runAt (Reader.u1 : Decoder Nat) c p = .ok (n, p + 1) := by
  obtain ⟨h1, h2⟩ := h
  show (dite (p < c.size) (fun h => (do set (p + 1); pure c[p].toNat : Decoder Nat)) (fun _ => throw (HasTruncated.truncated p)) : Decoder Nat) c p = _
  rw [dif_pos h1, ← h2]; rfl
theorem dk_pure {α : Type} {c : ByteArray} {p : Nat} {a : α} : Reader.runAt (Pure.pure a : Decoder α) c p = .ok (a, p) := rfl
theorem dk_u2 {c : ByteArray} {p n m x : Nat} (h : dkr c p n) (h' : dkr c (p + 1) m) (e : n * 256 + m = x) : Reader.runAt (Reader.u2 : Decoder Nat) c p = .ok (x, p + 2) := by
  subst e
  show Reader.runAt (Reader.u1 >>= fun hi => Reader.u1 >>= fun lo => pure (hi * 256 + lo) : Decoder Nat) c p = _
  rw [dk_bind (dk_u1 h), dk_bind (dk_u1 h'), dk_pure]
theorem dk_s1 {c : ByteArray} {p n : Nat} {x : Int} (h : dkr c p n) (e : Reader.signed 8 n = x) : Reader.runAt (Reader.s1 : Decoder Int) c p = .ok (x, p + 1) := by
  subst e
  have e0 : Reader.runAt (Reader.s1 : Decoder Int) c p = Reader.runAt (Reader.u1 >>= fun y => pure (Reader.signed 8 y) : Decoder Int) c p := rfl
  rw [e0, dk_bind (dk_u1 h), dk_pure]
theorem dk_s2 {c : ByteArray} {p n m : Nat} {x : Int} (h : dkr c p n) (h' : dkr c (p + 1) m) (e : Reader.signed 16 (n * 256 + m) = x) : Reader.runAt (Reader.s2 : Decoder Int) c p = .ok (x, p + 2) := by
  subst e
  have e0 : Reader.runAt (Reader.s2 : Decoder Int) c p = Reader.runAt (Reader.u2 >>= fun y => pure (Reader.signed 16 y) : Decoder Int) c p := rfl
  rw [e0, dk_bind (dk_u2 h h' rfl), dk_pure]
theorem dk_ok {c : ByteArray} {p q n : Nat} {i : Instr} (h : Reader.runAt (Decoder.instr p) c p = .ok (i, q)) (e : q - p = n) : decode c p = .ok (i, n) := by
  subst e
  show Except.bind (Reader.runAt (Decoder.instr p) c p) (fun y => Except.ok (y.1, y.2 - p)) = _
  rw [h]; rfl
/-- the code's bytes from p on -/
def dkL (c : ByteArray) (l : List UInt8) (p : Nat) : Prop := l = c.data.toList.drop p
theorem dkL_rd {c : ByteArray} {l s : List UInt8} {a : UInt8} {p : Nat} (h : dkL c l p) (e : l = a :: s) : dkr c p a.toNat := by
  have h1 : (c.data.toList.drop p)[0]? = some a := by rw [← h, e]; rfl
  rw [List.getElem?_drop, Nat.add_zero] at h1
  obtain ⟨h2, h3⟩ := List.getElem?_eq_some_iff.mp h1
  exact ⟨h2, congrArg UInt8.toNat h3⟩
theorem dkL_dr {c : ByteArray} {l : List UInt8} {p : Nat} (h : dkL c l p) (k : Nat) : dkL c (l.drop k) (p + k) := by
  unfold dkL at *
  rw [h, List.drop_drop]
theorem dkL_tl {c : ByteArray} {l s : List UInt8} {a : UInt8} {p : Nat} (h : dkL c l p) (e : l = a :: s) : dkL c s (p + 1) := by
  have := dkL_dr h 1
  rw [e] at this; exact this
def dk0 (l : List UInt8) (n p r : Nat) : Bool := match l with
  | a :: _ => Nat.beq a.toNat n && Nat.beq r (p + 1)
  | _ => false
def dk1 (l : List UInt8) (n x p r : Nat) : Bool := match l with
  | a :: b :: _ => Nat.beq a.toNat n && (Nat.beq b.toNat x && Nat.beq r (p + 2))
  | _ => false
def dk2 (l : List UInt8) (n x p r : Nat) : Bool := match l with
  | a :: b :: d :: _ => Nat.beq a.toNat n && (Nat.beq (b.toNat * 256 + d.toNat) x && Nat.beq r (p + 3))
  | _ => false
def dk1s (l : List UInt8) (n : Nat) (x : Int) (p r : Nat) : Bool := match l with
  | a :: b :: _ => Nat.beq a.toNat n && (decide (Reader.signed 8 b.toNat = x) && Nat.beq r (p + 2))
  | _ => false
def dk2s (l : List UInt8) (n : Nat) (x : Int) (p r : Nat) : Bool := match l with
  | a :: b :: d :: _ => Nat.beq a.toNat n && (decide (Reader.signed 16 (b.toNat * 256 + d.toNat) = x) && Nat.beq r (p + 3))
  | _ => false
def dki (l : List UInt8) (n x : Nat) (y : Int) (p r : Nat) : Bool := match l with
  | a :: b :: d :: _ => Nat.beq a.toNat n && (Nat.beq b.toNat x && (decide (Reader.signed 8 d.toNat = y) && Nat.beq r (p + 3)))
  | _ => false
theorem dk_and {a b : Bool} (h : (a && b) = true) : a = true ∧ b = true := by cases a <;> cases b <;> simp_all
theorem dk0_ok {c : ByteArray} {l : List UInt8} {p r n : Nat} {i : Instr} {f : Nat → Decoder Instr} (e0 : Decoder.instr p = (Reader.u1 >>= f)) (e1 : f n = Pure.pure i) (hl : dkL c l p) (h : dk0 l n p r = true) : decode c p = .ok (i, r - p) := by
  rcases l with _ | ⟨a, s⟩
  · exact absurd h Bool.false_ne_true
  · obtain ⟨h1, h2⟩ := dk_and (show (Nat.beq a.toNat n && Nat.beq r (p + 1)) = true from h)
    have h1 := Nat.eq_of_beq_eq_true h1
    have h2 := Nat.eq_of_beq_eq_true h2
    subst h1
    exact dk_ok (q := p + 1) (by rw [e0, dk_bind (dk_u1 (dkL_rd hl rfl)), e1, dk_pure]) (by omega)
theorem dk1_ok {c : ByteArray} {l : List UInt8} {p r n x : Nat} {i : Instr} {f g : Nat → Decoder Instr} (e0 : Decoder.instr p = (Reader.u1 >>= f)) (e1 : f n = (Reader.u1 >>= g)) (e2 : g x = Pure.pure i) (hl : dkL c l p) (h : dk1 l n x p r = true) : decode c p = .ok (i, r - p) := by
  rcases l with _ | ⟨a, _ | ⟨b, s⟩⟩
  · exact absurd h Bool.false_ne_true
  · exact absurd h Bool.false_ne_true
  · obtain ⟨h1, h2⟩ := dk_and (show (Nat.beq a.toNat n && (Nat.beq b.toNat x && Nat.beq r (p + 2))) = true from h)
    obtain ⟨h2, h3⟩ := dk_and h2
    have h1 := Nat.eq_of_beq_eq_true h1
    have h2 := Nat.eq_of_beq_eq_true h2
    have h3 := Nat.eq_of_beq_eq_true h3
    subst h1 h2
    exact dk_ok (q := p + 1 + 1) (by rw [e0, dk_bind (dk_u1 (dkL_rd hl rfl)), e1, dk_bind (dk_u1 (dkL_rd (dkL_tl hl rfl) rfl)), e2, dk_pure]) (by omega)
theorem dk2_ok {c : ByteArray} {l : List UInt8} {p r n x : Nat} {i : Instr} {f g : Nat → Decoder Instr} (e0 : Decoder.instr p = (Reader.u1 >>= f)) (e1 : f n = (Reader.u2 >>= g)) (e2 : g x = Pure.pure i) (hl : dkL c l p) (h : dk2 l n x p r = true) : decode c p = .ok (i, r - p) := by
  rcases l with _ | ⟨a, _ | ⟨b, _ | ⟨d, s⟩⟩⟩
  · exact absurd h Bool.false_ne_true
  · exact absurd h Bool.false_ne_true
  · exact absurd h Bool.false_ne_true
  · obtain ⟨h1, h2⟩ := dk_and (show (Nat.beq a.toNat n && (Nat.beq (b.toNat * 256 + d.toNat) x && Nat.beq r (p + 3))) = true from h)
    obtain ⟨h2, h3⟩ := dk_and h2
    have h1 := Nat.eq_of_beq_eq_true h1
    have h2 := Nat.eq_of_beq_eq_true h2
    have h3 := Nat.eq_of_beq_eq_true h3
    subst h1
    have hl1 := dkL_tl hl rfl
    exact dk_ok (q := p + 1 + 2) (by rw [e0, dk_bind (dk_u1 (dkL_rd hl rfl)), e1, dk_bind (dk_u2 (dkL_rd hl1 rfl) (dkL_rd (dkL_tl hl1 rfl) rfl) h2), e2, dk_pure]) (by omega)
theorem dk1s_ok {c : ByteArray} {l : List UInt8} {p r n : Nat} {x : Int} {i : Instr} {f : Nat → Decoder Instr} {g : Int → Decoder Instr} (e0 : Decoder.instr p = (Reader.u1 >>= f)) (e1 : f n = (Reader.s1 >>= g)) (e2 : g x = Pure.pure i) (hl : dkL c l p) (h : dk1s l n x p r = true) : decode c p = .ok (i, r - p) := by
  rcases l with _ | ⟨a, _ | ⟨b, s⟩⟩
  · exact absurd h Bool.false_ne_true
  · exact absurd h Bool.false_ne_true
  · obtain ⟨h1, h2⟩ := dk_and (show (Nat.beq a.toNat n && (decide (Reader.signed 8 b.toNat = x) && Nat.beq r (p + 2))) = true from h)
    obtain ⟨h2, h3⟩ := dk_and h2
    have h1 := Nat.eq_of_beq_eq_true h1
    have h2 := of_decide_eq_true h2
    have h3 := Nat.eq_of_beq_eq_true h3
    subst h1
    exact dk_ok (q := p + 1 + 1) (by rw [e0, dk_bind (dk_u1 (dkL_rd hl rfl)), e1, dk_bind (dk_s1 (dkL_rd (dkL_tl hl rfl) rfl) h2), e2, dk_pure]) (by omega)
theorem dk2s_ok {c : ByteArray} {l : List UInt8} {p r n : Nat} {x : Int} {i : Instr} {f : Nat → Decoder Instr} {g : Int → Decoder Instr} (e0 : Decoder.instr p = (Reader.u1 >>= f)) (e1 : f n = (Reader.s2 >>= g)) (e2 : g x = Pure.pure i) (hl : dkL c l p) (h : dk2s l n x p r = true) : decode c p = .ok (i, r - p) := by
  rcases l with _ | ⟨a, _ | ⟨b, _ | ⟨d, s⟩⟩⟩
  · exact absurd h Bool.false_ne_true
  · exact absurd h Bool.false_ne_true
  · exact absurd h Bool.false_ne_true
  · obtain ⟨h1, h2⟩ := dk_and (show (Nat.beq a.toNat n && (decide (Reader.signed 16 (b.toNat * 256 + d.toNat) = x) && Nat.beq r (p + 3))) = true from h)
    obtain ⟨h2, h3⟩ := dk_and h2
    have h1 := Nat.eq_of_beq_eq_true h1
    have h2 := of_decide_eq_true h2
    have h3 := Nat.eq_of_beq_eq_true h3
    subst h1
    have hl1 := dkL_tl hl rfl
    exact dk_ok (q := p + 1 + 2) (by rw [e0, dk_bind (dk_u1 (dkL_rd hl rfl)), e1, dk_bind (dk_s2 (dkL_rd hl1 rfl) (dkL_rd (dkL_tl hl1 rfl) rfl) h2), e2, dk_pure]) (by omega)
theorem dki_ok {c : ByteArray} {l : List UInt8} {p r n x : Nat} {y : Int} {i : Instr} {f g : Nat → Decoder Instr} {k : Int → Decoder Instr} (e0 : Decoder.instr p = (Reader.u1 >>= f)) (e1 : f n = (Reader.u1 >>= g)) (e2 : g x = (Reader.s1 >>= k)) (e3 : k y = Pure.pure i) (hl : dkL c l p) (h : dki l n x y p r = true) : decode c p = .ok (i, r - p) := by
  rcases l with _ | ⟨a, _ | ⟨b, _ | ⟨d, s⟩⟩⟩
  · exact absurd h Bool.false_ne_true
  · exact absurd h Bool.false_ne_true
  · exact absurd h Bool.false_ne_true
  · obtain ⟨h1, h2⟩ := dk_and (show (Nat.beq a.toNat n && (Nat.beq b.toNat x && (decide (Reader.signed 8 d.toNat = y) && Nat.beq r (p + 3)))) = true from h)
    obtain ⟨h2, h4⟩ := dk_and h2
    obtain ⟨h4, h3⟩ := dk_and h4
    have h1 := Nat.eq_of_beq_eq_true h1
    have h2 := Nat.eq_of_beq_eq_true h2
    have h3 := Nat.eq_of_beq_eq_true h3
    have h4 := of_decide_eq_true h4
    subst h1 h2
    have hl1 := dkL_tl hl rfl
    exact dk_ok (q := p + 1 + 1 + 1) (by rw [e0, dk_bind (dk_u1 (dkL_rd hl rfl)), e1, dk_bind (dk_u1 (dkL_rd hl1 rfl)), e2, dk_bind (dk_s1 (dkL_rd (dkL_tl hl1 rfl) rfl) h4), e3, dk_pure]) (by omega)
def dkI (i : Instr) (l : List UInt8) (p r : Nat) : Bool := match i with
  | .aaload => dk0 l 50 p r
  | .aastore => dk0 l 83 p r
  | .aconst_null => dk0 l 1 p r
  | .areturn => dk0 l 176 p r
  | .arraylength => dk0 l 190 p r
  | .baload => dk0 l 51 p r
  | .bastore => dk0 l 84 p r
  | .dup => dk0 l 89 p r
  | .dup2 => dk0 l 92 p r
  | .i2l => dk0 l 133 p r
  | .iadd => dk0 l 96 p r
  | .iaload => dk0 l 46 p r
  | .iand => dk0 l 126 p r
  | .iastore => dk0 l 79 p r
  | .idiv => dk0 l 108 p r
  | .imul => dk0 l 104 p r
  | .ineg => dk0 l 116 p r
  | .ior => dk0 l 128 p r
  | .irem => dk0 l 112 p r
  | .ireturn => dk0 l 172 p r
  | .ishl => dk0 l 120 p r
  | .ishr => dk0 l 122 p r
  | .isub => dk0 l 100 p r
  | .iushr => dk0 l 124 p r
  | .ixor => dk0 l 130 p r
  | .l2i => dk0 l 136 p r
  | .ladd => dk0 l 97 p r
  | .laload => dk0 l 47 p r
  | .land => dk0 l 127 p r
  | .lastore => dk0 l 80 p r
  | .lcmp => dk0 l 148 p r
  | .ldiv => dk0 l 109 p r
  | .lmul => dk0 l 105 p r
  | .lor => dk0 l 129 p r
  | .lrem => dk0 l 113 p r
  | .lreturn => dk0 l 173 p r
  | .lshl => dk0 l 121 p r
  | .lshr => dk0 l 123 p r
  | .lsub => dk0 l 101 p r
  | .lushr => dk0 l 125 p r
  | .lxor => dk0 l 131 p r
  | .pop => dk0 l 87 p r
  | .pop2 => dk0 l 88 p r
  | .return_ => dk0 l 177 p r
  | .iload x => dk1 l 21 x p r
  | .lload x => dk1 l 22 x p r
  | .aload x => dk1 l 25 x p r
  | .istore x => dk1 l 54 x p r
  | .lstore x => dk1 l 55 x p r
  | .astore x => dk1 l 58 x p r
  | .ldc x => dk1 l 18 x p r
  | .ldc_w x => dk2 l 19 x p r
  | .ldc2_w x => dk2 l 20 x p r
  | .getfield x => dk2 l 180 x p r
  | .putfield x => dk2 l 181 x p r
  | .getstatic x => dk2 l 178 x p r
  | .putstatic x => dk2 l 179 x p r
  | .invokevirtual x => dk2 l 182 x p r
  | .invokespecial x => dk2 l 183 x p r
  | .invokestatic x => dk2 l 184 x p r
  | .new x => dk2 l 187 x p r
  | .anewarray x => dk2 l 189 x p r
  | .goto x => dk2s l 167 x p r
  | .ifnull x => dk2s l 198 x p r
  | .ifnonnull x => dk2s l 199 x p r
  | .sipush x => dk2s l 17 x p r
  | .bipush x => dk1s l 16 x p r
  | .iload_n k => dk0 l (26 + k.val) p r
  | .lload_n k => dk0 l (30 + k.val) p r
  | .aload_n k => dk0 l (42 + k.val) p r
  | .istore_n k => dk0 l (59 + k.val) p r
  | .lstore_n k => dk0 l (63 + k.val) p r
  | .astore_n k => dk0 l (75 + k.val) p r
  | .lconst k => dk0 l (9 + k.val) p r
  | .newarray .boolean => dk1 l 188 4 p r
  | .newarray .int => dk1 l 188 10 p r
  | .newarray .long => dk1 l 188 11 p r
  | .ifCond .eq x => dk2s l 153 x p r
  | .if_icmp .eq x => dk2s l 159 x p r
  | .ifCond .ne x => dk2s l 154 x p r
  | .if_icmp .ne x => dk2s l 160 x p r
  | .ifCond .lt x => dk2s l 155 x p r
  | .if_icmp .lt x => dk2s l 161 x p r
  | .ifCond .ge x => dk2s l 156 x p r
  | .if_icmp .ge x => dk2s l 162 x p r
  | .ifCond .gt x => dk2s l 157 x p r
  | .if_icmp .gt x => dk2s l 163 x p r
  | .ifCond .le x => dk2s l 158 x p r
  | .if_icmp .le x => dk2s l 164 x p r
  | .iinc x y => dki l 132 x y p r
  | .iconst z => decide (-1 ≤ z ∧ z ≤ 5) && dk0 l (z + 3).toNat p r
  | _ => false
theorem dkI_ok {c : ByteArray} {l : List UInt8} {p r : Nat} {i : Instr} (hl : dkL c l p) (h : dkI i l p r = true) : decode c p = .ok (i, r - p) := by
  cases i
  case aaload => exact dk0_ok rfl rfl hl (n := 50) h
  case aastore => exact dk0_ok rfl rfl hl (n := 83) h
  case aconst_null => exact dk0_ok rfl rfl hl (n := 1) h
  case areturn => exact dk0_ok rfl rfl hl (n := 176) h
  case arraylength => exact dk0_ok rfl rfl hl (n := 190) h
  case baload => exact dk0_ok rfl rfl hl (n := 51) h
  case bastore => exact dk0_ok rfl rfl hl (n := 84) h
  case dup => exact dk0_ok rfl rfl hl (n := 89) h
  case dup2 => exact dk0_ok rfl rfl hl (n := 92) h
  case i2l => exact dk0_ok rfl rfl hl (n := 133) h
  case iadd => exact dk0_ok rfl rfl hl (n := 96) h
  case iaload => exact dk0_ok rfl rfl hl (n := 46) h
  case iand => exact dk0_ok rfl rfl hl (n := 126) h
  case iastore => exact dk0_ok rfl rfl hl (n := 79) h
  case idiv => exact dk0_ok rfl rfl hl (n := 108) h
  case imul => exact dk0_ok rfl rfl hl (n := 104) h
  case ineg => exact dk0_ok rfl rfl hl (n := 116) h
  case ior => exact dk0_ok rfl rfl hl (n := 128) h
  case irem => exact dk0_ok rfl rfl hl (n := 112) h
  case ireturn => exact dk0_ok rfl rfl hl (n := 172) h
  case ishl => exact dk0_ok rfl rfl hl (n := 120) h
  case ishr => exact dk0_ok rfl rfl hl (n := 122) h
  case isub => exact dk0_ok rfl rfl hl (n := 100) h
  case iushr => exact dk0_ok rfl rfl hl (n := 124) h
  case ixor => exact dk0_ok rfl rfl hl (n := 130) h
  case l2i => exact dk0_ok rfl rfl hl (n := 136) h
  case ladd => exact dk0_ok rfl rfl hl (n := 97) h
  case laload => exact dk0_ok rfl rfl hl (n := 47) h
  case land => exact dk0_ok rfl rfl hl (n := 127) h
  case lastore => exact dk0_ok rfl rfl hl (n := 80) h
  case lcmp => exact dk0_ok rfl rfl hl (n := 148) h
  case ldiv => exact dk0_ok rfl rfl hl (n := 109) h
  case lmul => exact dk0_ok rfl rfl hl (n := 105) h
  case lor => exact dk0_ok rfl rfl hl (n := 129) h
  case lrem => exact dk0_ok rfl rfl hl (n := 113) h
  case lreturn => exact dk0_ok rfl rfl hl (n := 173) h
  case lshl => exact dk0_ok rfl rfl hl (n := 121) h
  case lshr => exact dk0_ok rfl rfl hl (n := 123) h
  case lsub => exact dk0_ok rfl rfl hl (n := 101) h
  case lushr => exact dk0_ok rfl rfl hl (n := 125) h
  case lxor => exact dk0_ok rfl rfl hl (n := 131) h
  case pop => exact dk0_ok rfl rfl hl (n := 87) h
  case pop2 => exact dk0_ok rfl rfl hl (n := 88) h
  case return_ => exact dk0_ok rfl rfl hl (n := 177) h
  case iload x => exact dk1_ok rfl rfl rfl hl (n := 21) (x := x) h
  case lload x => exact dk1_ok rfl rfl rfl hl (n := 22) (x := x) h
  case aload x => exact dk1_ok rfl rfl rfl hl (n := 25) (x := x) h
  case istore x => exact dk1_ok rfl rfl rfl hl (n := 54) (x := x) h
  case lstore x => exact dk1_ok rfl rfl rfl hl (n := 55) (x := x) h
  case astore x => exact dk1_ok rfl rfl rfl hl (n := 58) (x := x) h
  case ldc x => exact dk1_ok rfl rfl rfl hl (n := 18) (x := x) h
  case ldc_w x => exact dk2_ok rfl rfl rfl hl (n := 19) (x := x) h
  case ldc2_w x => exact dk2_ok rfl rfl rfl hl (n := 20) (x := x) h
  case getfield x => exact dk2_ok rfl rfl rfl hl (n := 180) (x := x) h
  case putfield x => exact dk2_ok rfl rfl rfl hl (n := 181) (x := x) h
  case getstatic x => exact dk2_ok rfl rfl rfl hl (n := 178) (x := x) h
  case putstatic x => exact dk2_ok rfl rfl rfl hl (n := 179) (x := x) h
  case invokevirtual x => exact dk2_ok rfl rfl rfl hl (n := 182) (x := x) h
  case invokespecial x => exact dk2_ok rfl rfl rfl hl (n := 183) (x := x) h
  case invokestatic x => exact dk2_ok rfl rfl rfl hl (n := 184) (x := x) h
  case new x => exact dk2_ok rfl rfl rfl hl (n := 187) (x := x) h
  case anewarray x => exact dk2_ok rfl rfl rfl hl (n := 189) (x := x) h
  case goto x => exact dk2s_ok rfl rfl rfl hl (n := 167) (x := x) h
  case ifnull x => exact dk2s_ok rfl rfl rfl hl (n := 198) (x := x) h
  case ifnonnull x => exact dk2s_ok rfl rfl rfl hl (n := 199) (x := x) h
  case sipush x => exact dk2s_ok rfl rfl rfl hl (n := 17) (x := x) h
  case bipush x => exact dk1s_ok rfl rfl rfl hl (n := 16) (x := x) h
  case iload_n k =>
    obtain ⟨k, hk⟩ := k
    have hz : k = 0 ∨ k = 1 ∨ k = 2 ∨ k = 3 := by omega
    rcases hz with e | e | e | e <;> subst e
    · exact dk0_ok rfl rfl hl (n := 26) h
    · exact dk0_ok rfl rfl hl (n := 27) h
    · exact dk0_ok rfl rfl hl (n := 28) h
    · exact dk0_ok rfl rfl hl (n := 29) h
  case lload_n k =>
    obtain ⟨k, hk⟩ := k
    have hz : k = 0 ∨ k = 1 ∨ k = 2 ∨ k = 3 := by omega
    rcases hz with e | e | e | e <;> subst e
    · exact dk0_ok rfl rfl hl (n := 30) h
    · exact dk0_ok rfl rfl hl (n := 31) h
    · exact dk0_ok rfl rfl hl (n := 32) h
    · exact dk0_ok rfl rfl hl (n := 33) h
  case aload_n k =>
    obtain ⟨k, hk⟩ := k
    have hz : k = 0 ∨ k = 1 ∨ k = 2 ∨ k = 3 := by omega
    rcases hz with e | e | e | e <;> subst e
    · exact dk0_ok rfl rfl hl (n := 42) h
    · exact dk0_ok rfl rfl hl (n := 43) h
    · exact dk0_ok rfl rfl hl (n := 44) h
    · exact dk0_ok rfl rfl hl (n := 45) h
  case istore_n k =>
    obtain ⟨k, hk⟩ := k
    have hz : k = 0 ∨ k = 1 ∨ k = 2 ∨ k = 3 := by omega
    rcases hz with e | e | e | e <;> subst e
    · exact dk0_ok rfl rfl hl (n := 59) h
    · exact dk0_ok rfl rfl hl (n := 60) h
    · exact dk0_ok rfl rfl hl (n := 61) h
    · exact dk0_ok rfl rfl hl (n := 62) h
  case lstore_n k =>
    obtain ⟨k, hk⟩ := k
    have hz : k = 0 ∨ k = 1 ∨ k = 2 ∨ k = 3 := by omega
    rcases hz with e | e | e | e <;> subst e
    · exact dk0_ok rfl rfl hl (n := 63) h
    · exact dk0_ok rfl rfl hl (n := 64) h
    · exact dk0_ok rfl rfl hl (n := 65) h
    · exact dk0_ok rfl rfl hl (n := 66) h
  case astore_n k =>
    obtain ⟨k, hk⟩ := k
    have hz : k = 0 ∨ k = 1 ∨ k = 2 ∨ k = 3 := by omega
    rcases hz with e | e | e | e <;> subst e
    · exact dk0_ok rfl rfl hl (n := 75) h
    · exact dk0_ok rfl rfl hl (n := 76) h
    · exact dk0_ok rfl rfl hl (n := 77) h
    · exact dk0_ok rfl rfl hl (n := 78) h
  case lconst k =>
    obtain ⟨k, hk⟩ := k
    have hz : k = 0 ∨ k = 1 := by omega
    rcases hz with e | e <;> subst e
    · exact dk0_ok rfl rfl hl (n := 9) h
    · exact dk0_ok rfl rfl hl (n := 10) h
  case newarray ty =>
    cases ty
    case boolean => exact dk1_ok rfl rfl rfl hl (n := 188) (x := 4) h
    case int => exact dk1_ok rfl rfl rfl hl (n := 188) (x := 10) h
    case long => exact dk1_ok rfl rfl rfl hl (n := 188) (x := 11) h
    all_goals exact absurd h Bool.false_ne_true
  case ifCond cd x =>
    cases cd
    case eq => exact dk2s_ok rfl rfl rfl hl (n := 153) (x := x) h
    case ne => exact dk2s_ok rfl rfl rfl hl (n := 154) (x := x) h
    case lt => exact dk2s_ok rfl rfl rfl hl (n := 155) (x := x) h
    case ge => exact dk2s_ok rfl rfl rfl hl (n := 156) (x := x) h
    case gt => exact dk2s_ok rfl rfl rfl hl (n := 157) (x := x) h
    case le => exact dk2s_ok rfl rfl rfl hl (n := 158) (x := x) h
  case if_icmp cd x =>
    cases cd
    case eq => exact dk2s_ok rfl rfl rfl hl (n := 159) (x := x) h
    case ne => exact dk2s_ok rfl rfl rfl hl (n := 160) (x := x) h
    case lt => exact dk2s_ok rfl rfl rfl hl (n := 161) (x := x) h
    case ge => exact dk2s_ok rfl rfl rfl hl (n := 162) (x := x) h
    case gt => exact dk2s_ok rfl rfl rfl hl (n := 163) (x := x) h
    case le => exact dk2s_ok rfl rfl rfl hl (n := 164) (x := x) h
  case iinc x y => exact dki_ok rfl rfl rfl rfl hl (n := 132) (x := x) (y := y) h
  case iconst z =>
    obtain ⟨h0, h⟩ := dk_and (show (decide (-1 ≤ z ∧ z ≤ 5) && dk0 l (z + 3).toNat p r) = true from h)
    have h0 := of_decide_eq_true h0
    have hz : z = -1 ∨ z = 0 ∨ z = 1 ∨ z = 2 ∨ z = 3 ∨ z = 4 ∨ z = 5 := by omega
    rcases hz with e | e | e | e | e | e | e <;> subst e
    · exact dk0_ok rfl rfl hl (n := 2) h
    · exact dk0_ok rfl rfl hl (n := 3) h
    · exact dk0_ok rfl rfl hl (n := 4) h
    · exact dk0_ok rfl rfl hl (n := 5) h
    · exact dk0_ok rfl rfl hl (n := 6) h
    · exact dk0_ok rfl rfl hl (n := 7) h
    · exact dk0_ok rfl rfl hl (n := 8) h
  all_goals exact absurd h Bool.false_ne_true
def dkT (c : ByteArray) : List (Nat × Instr × Nat) → List UInt8 → Nat → Bool
  | [], _, _ => true
  | (q, i, r) :: t, l, p => Nat.beq p q && ((dkI i l p r || decide (decode c p = .ok (i, r - p))) && dkT c t (l.drop (r - p)) (p + (r - p)))
theorem dkT_ok {c : ByteArray} : ∀ (t : List (Nat × Instr × Nat)) (l : List UInt8) (p : Nat), dkL c l p → dkT c t l p = true → ∀ e ∈ t, decode c e.1 = .ok (e.2.1, e.2.2 - e.1)
  | [], _, _, _, _, e, he => absurd he List.not_mem_nil
  | (q, i, r) :: t, l, p, hl, h, e, he => by
    obtain ⟨h1, h2⟩ := dk_and (show (Nat.beq p q && ((dkI i l p r || decide (decode c p = .ok (i, r - p))) && dkT c t (l.drop (r - p)) (p + (r - p)))) = true from h)
    obtain ⟨h2, h3⟩ := dk_and h2
    have h1 := Nat.eq_of_beq_eq_true h1
    rcases List.mem_cons.mp he with he | he
    · subst he; subst h1
      rcases (Bool.or_eq_true _ _).mp h2 with h2 | h2
      · exact dkI_ok hl h2
      · exact of_decide_eq_true h2
    · exact dkT_ok t _ _ (dkL_dr hl _) h3 e he
theorem dkT_all {c : ByteArray} (t : List (Nat × Instr × Nat)) (p : Nat) (h : dkT c t (c.data.toList.drop p) p = true) : ∀ e ∈ t, decode c e.1 = .ok (e.2.1, e.2.2 - e.1) := dkT_ok t _ p rfl h
end
section
theorem okM_of {M : eM} (h : dkT (eCode M) (eTab M) (eCode M).data.toList 0 = true) (h1 : Cond.code (eNm M) (eCode M) (eNL M) (eRet M) ∈ eTbl) (h2 : plainName (eNm M).cls = true) (h3 : (eNm M).cls = eOwn M) (h4 : (eRm M).cells = 0) (h5 : (eRm M).slots = 0) : okM M :=
  ⟨dkT_ok (eTab M) _ 0 rfl h, h1, h2, h3, h4, h5⟩
end
