def up (σ : eS) (c : Nat) (k : Int) (z : Int) : eS := fun c' k' => if c' = c ∧ k' = k then z else σ c' k'
theorem up_same (σ : eS) (c : Nat) (k z : Int) : up σ c k z c k = z := by simp [up]
theorem up_ne (σ : eS) {c c' : Nat} (k k' z : Int) (h : c' ≠ c) : up σ c k z c' k' = σ c' k' := by simp [up, h]
theorem up_nk (σ : eS) {k k' : Int} (c c' : Nat) (z : Int) (h : k' ≠ k) : up σ c k z c' k' = σ c' k' := by simp [up, h]
theorem eE_up {dA : Nat → ClassId} {ad : Nat → Nat} {σ : eS} {c c' : Nat} {k z : Int} {r : Nat × Nat × List Nat} (h : c' ≠ c) : eE dA ad (up σ c k z) c' r = eE dA ad σ c' r := by
  unfold eE
  simp only [up_ne _ _ _ _ h]
theorem eW_up {sh : eSh} {dA : Nat → ClassId} {ad : Nat → Nat} {σ : eS} {c : Nat} {k z : Int} {r : Nat × Nat × List Nat} (h : sh[c]? = some r) {x : va_E} (hx : eE dA ad (up σ c k z) c r = x) : (eW sh dA ad σ).set c (ad c, x) = eW sh dA ad (up σ c k z) := by
  subst hx
  apply List.ext_getElem?
  intro j
  by_cases hj : j = c
  · subst hj
    rw [eW_at h, List.getElem?_set_self]
    simp only [eW, List.length_mapIdx]
    exact (List.getElem?_eq_some_iff.mp h).1
  · rw [List.getElem?_set_ne (fun q => hj q.symm)]
    simp only [eW, List.getElem?_mapIdx]
    cases sh[j]? with
    | none => rfl
    | some r' => simp only [Option.map_some, eE_up hj]
theorem eGd_up {sh : eSh} {σ : eS} {c : Nat} {k z : Int} (h : eGd sh σ) (h1 : rl z) (h2 : eLong sh c k = false → rg z) : eGd sh (up σ c k z) := by
  intro c' k'
  by_cases hc : c' = c ∧ k' = k
  · obtain ⟨rfl, rfl⟩ := hc
    rw [up_same]
    exact ⟨h1, h2⟩
  · have : up σ c k z c' k' = σ c' k' := by simp [up, hc]
    rw [this]
    exact h c' k'
theorem rg_rl {z : Int} (h : rg z) : rl z := ⟨by omega, by omega⟩
section E3
variable {sh : eSh} {M : eM} {pc pc' tgt : Nat} {ls : List (Option eV)} {st st' : List eV} {σ : eS} {Q : eS → Option eV → Prop}
theorem og_get (i : Nat) {c0 x ci k t : Nat} {kz : Int} {ts : List Nat} (hd : nth (eTab M) i = some (pc, .getfield x, pc')) (hn : pc + 3 = pc') (hf : eFk (eOwn M) x ci k kz) (hs : nth sh c0 = some (0, ci, ts)) (ht : nth ts k = some t) {v : eV} (hv : ∀ ad : Nat → Nat, eFv ad (σ c0 kz) t = eR ad v) (hk : eGd sh σ → eK v) (K : Ok sh M pc' ls (v :: st) σ Q) : Ok sh M pc ls (vr c0 :: st) σ Q := by
  intro l p e s m args below meth c D dA ad H locs la C hH hL hS
  obtain ⟨q, q1, q2, q3, q4, rfl⟩ := hf
  have hw := eW_at (dA := dA) (ad := ad) (σ := σ) (nth_get hs)
  exact va_get (a := ad c0) C.2.1 C.2.2.1 C.2.2.2.2.2.2.2.1 (eCl_in q1) C.2.2.2.2.2.2.1 C.2.2.2.2.2.2.2.2.1 hH.1 c0 hw q1 k q3 (C.2.2.2.2.2.2.2.1 _ q2) (fun x h => h) (v := eR ad v) (by
    show (ts.mapIdx _)[k]? = _
    rw [List.getElem?_mapIdx, nth_get ht]
    exact congrArg some (hv ad)) (C.1.dec hd hn) (Ok.go K C hH hL ⟨hk hH.2.2, hS.2⟩ hn rfl)
theorem eGd_i {c0 ci k : Nat} {ts : List Nat} {t : Nat} (h : eGd sh σ) (hs : nth sh c0 = some (0, ci, ts)) (ht : nth ts k = some t) (h1 : t ≠ 1) : rg (σ c0 (k : Int)) := by
  refine (h c0 k).2 ?_
  unfold eLong
  rw [nth_get hs]
  simp [nth_get ht, h1]
theorem ok_getI (i : Nat) {c0 x ci k t : Nat} {kz : Int} {ts : List Nat} (hd : nth (eTab M) i = some (pc, .getfield x, pc')) (hn : pc + 3 = pc') (hf : eFk (eOwn M) x ci k kz) (hs : nth sh c0 = some (0, ci, ts)) (ht : nth ts k = some t) (h0 : t = 0 ∨ t = 2) (K : Ok sh M pc' ls (vi (σ c0 kz) :: st) σ Q) : Ok sh M pc ls (vr c0 :: st) σ Q := by
  refine og_get i hd hn hf hs ht (fun ad => ?_) (fun h => ?_) K
  · rcases h0 with rfl | rfl <;> rfl
  · obtain ⟨q, q1, q2, q3, q4, rfl⟩ := hf
    exact eGd_i h hs ht (by omega)
theorem ok_getL (i : Nat) {c0 x ci k : Nat} {kz : Int} {ts : List Nat} (hd : nth (eTab M) i = some (pc, .getfield x, pc')) (hn : pc + 3 = pc') (hf : eFk (eOwn M) x ci k kz) (hs : nth sh c0 = some (0, ci, ts)) (ht : nth ts k = some 1) (K : Ok sh M pc' ls (vl (σ c0 kz) :: st) σ Q) : Ok sh M pc ls (vr c0 :: st) σ Q :=
  og_get (v := vl (σ c0 kz)) i hd hn hf hs ht (fun ad => rfl) (fun h => (h c0 kz).1) K
theorem ok_getR (i : Nat) {c0 x ci k r : Nat} {kz : Int} {ts : List Nat} (hd : nth (eTab M) i = some (pc, .getfield x, pc')) (hn : pc + 3 = pc') (hf : eFk (eOwn M) x ci k kz) (hs : nth sh c0 = some (0, ci, ts)) (ht : nth ts k = some (r + 3)) (K : Ok sh M pc' ls (vr r :: st) σ Q) : Ok sh M pc ls (vr c0 :: st) σ Q :=
  og_get (v := vr r) i hd hn hf hs ht (fun ad => by simp [eFv, eR]) (fun h => trivial) K
theorem og_put (i : Nat) {c0 x ci k t : Nat} {z kz : Int} {ts : List Nat} {v : eV} {ty : FieldType} (hd : nth (eTab M) i = some (pc, .putfield x, pc')) (hn : pc + 3 = pc') (hf : eFk (eOwn M) x ci k kz) (hs : nth sh c0 = some (0, ci, ts)) (ht : nth ts k = some t) (hfin : (((eCl.getD ci ("", fun _ => ("", "", "", false), 0)).2.1) k).2.2.2 = false) (hty : parseFieldDescriptor (((eCl.getD ci ("", fun _ => ("", "", "", false), 0)).2.1) k).2.2.1 = some ty) (hv : ∀ ad : Nat → Nat, eFv ad z t = eR ad v ∧ narrow ty (eR ad v) = eR ad v ∧ fits ty (eR ad v) = true) (hg : eK v → rl z ∧ (eLong sh c0 kz = false → rg z)) (K : Ok sh M pc' ls st (up σ c0 kz z) Q) : Ok sh M pc ls (v :: vr c0 :: st) σ Q := by
  intro l p e s m args below meth c D dA ad H locs la C hH hL hS
  obtain ⟨q, q1, q2, q3, q4, rfl⟩ := hf
  have hq : eCl.getD ci ("", fun _ => ("", "", "", false), 0) = q := by rw [List.getD_eq_getElem?_getD, q1]; rfl
  rw [hq] at hfin hty
  have hw := eW_at (dA := dA) (ad := ad) (σ := σ) (nth_get hs)
  have hkl : k < ts.length := (List.getElem?_eq_some_iff.mp (nth_get ht)).1
  refine va_put (a := ad c0) C.2.1 C.2.2.1 C.2.2.2.2.2.2.2.1 (eCl_in q1) (eTyOf.getD ci (fun _ => .int)) (eCl_ty ci q4 q q1) (eCl_nm ci q4 q q1) C.2.2.2.2.2.2.1 C.2.2.2.2.2.2.2.2.1 hH.1 (eD C.2.2.2.2.2.2.2.2.2.2) hH.2.1 c0 hw q1 k q3 (C.2.2.2.2.2.2.2.1 _ q2) (fun x h => h) hfin hty (hv ad).2.1 (hv ad).2.2 (by rw [List.length_mapIdx]; exact hkl) (C.1.dec hd hn) (fun H1 locs1 hP1 _ hS1 => ?_)
  have he : eE dA ad (up σ c0 k z) c0 (0, ci, ts) = .inr (ci, (ts.mapIdx (fun j t => eFv ad (σ c0 (j : Nat)) t)).set k (eR ad v)) := by
    show Sum.inr (ci, ts.mapIdx _) = _
    congr 2
    apply List.ext_getElem?
    intro j
    by_cases hj : j = k
    · subst hj
      rw [List.getElem?_set_self (by rw [List.length_mapIdx]; exact hkl), List.getElem?_mapIdx, nth_get ht, Option.map_some, up_same]
      exact congrArg some (hv ad).1
    · rw [List.getElem?_set_ne (fun q => hj q.symm), List.getElem?_mapIdx, List.getElem?_mapIdx, up_nk _ _ _ _ (by omega)]
  rw [eW_up (nth_get hs) he] at hP1
  have hk2 := hg hS.1
  exact Ok.go K C ⟨hP1, hS1, eGd_up hH.2.2 hk2.1 hk2.2⟩ hL hS.2.2 hn rfl
theorem ok_putI (i : Nat) {c0 x ci k : Nat} {z kz : Int} {ts : List Nat} (hd : nth (eTab M) i = some (pc, .putfield x, pc')) (hn : pc + 3 = pc') (hf : eFk (eOwn M) x ci k kz) (hs : nth sh c0 = some (0, ci, ts)) (ht : nth ts k = some 0) (hfin : (((eCl.getD ci ("", fun _ => ("", "", "", false), 0)).2.1) k).2.2.2 = false) (hty : parseFieldDescriptor (((eCl.getD ci ("", fun _ => ("", "", "", false), 0)).2.1) k).2.2.1 = some .int) (K : Ok sh M pc' ls st (up σ c0 kz z) Q) : Ok sh M pc ls (vi z :: vr c0 :: st) σ Q :=
  og_put i hd hn hf hs ht hfin hty (fun ad => ⟨rfl, rfl, rfl⟩) (fun h => ⟨rg_rl h, fun _ => h⟩) K
theorem ok_putZ (i : Nat) {c0 x ci k : Nat} {z kz : Int} {ts : List Nat} (hd : nth (eTab M) i = some (pc, .putfield x, pc')) (hn : pc + 3 = pc') (hf : eFk (eOwn M) x ci k kz) (hs : nth sh c0 = some (0, ci, ts)) (ht : nth ts k = some 2) (hfin : (((eCl.getD ci ("", fun _ => ("", "", "", false), 0)).2.1) k).2.2.2 = false) (hty : parseFieldDescriptor (((eCl.getD ci ("", fun _ => ("", "", "", false), 0)).2.1) k).2.2.1 = some .boolean) (hz : z = 0 ∨ z = 1) (K : Ok sh M pc' ls st (up σ c0 kz z) Q) : Ok sh M pc ls (vi z :: vr c0 :: st) σ Q :=
  og_put i hd hn hf hs ht hfin hty (fun ad => by rcases hz with rfl | rfl <;> exact ⟨rfl, rfl, rfl⟩) (fun h => ⟨rg_rl h, fun _ => h⟩) K
theorem ok_putL (i : Nat) {c0 x ci k : Nat} {z kz : Int} {ts : List Nat} (hd : nth (eTab M) i = some (pc, .putfield x, pc')) (hn : pc + 3 = pc') (hf : eFk (eOwn M) x ci k kz) (hs : nth sh c0 = some (0, ci, ts)) (ht : nth ts k = some 1) (hfin : (((eCl.getD ci ("", fun _ => ("", "", "", false), 0)).2.1) k).2.2.2 = false) (hty : parseFieldDescriptor (((eCl.getD ci ("", fun _ => ("", "", "", false), 0)).2.1) k).2.2.1 = some .long) (K : Ok sh M pc' ls st (up σ c0 kz z) Q) : Ok sh M pc ls (vl z :: vr c0 :: st) σ Q :=
  og_put i hd hn hf hs ht hfin hty (fun ad => ⟨rfl, rfl, rfl⟩) (fun h => ⟨h, fun q => by
    obtain ⟨q0, q1, q2, q3, q4, rfl⟩ := hf
    unfold eLong at q
    rw [nth_get hs] at q
    simp [nth_get ht] at q⟩) K
/-! arrays -/
theorem ix_nat {j : Int} {n : Nat} (hj : rg j) (h0 : 0 ≤ j) (h1 : j < n) : (Int32.ofInt j).toNatClampNeg = j.toNat ∧ vp_in (Int32.ofInt j) n := by
  have e := rg_in hj
  have e2 : (Int32.ofInt j).toNatClampNeg = j.toNat := by
    show (Int32.ofInt j).toInt.toNat = _
    rw [e]
  refine ⟨e2, vp_in_iff.mpr ?_⟩
  rw [e]
  exact ⟨h0, h1⟩
theorem eKt {M : eM} {p : Program} {s : State} {m : MethodId} {args : Array Value} {meth : Method} {c : Code} {D : va_G} {dA : Nat → ClassId} {ad : Nat → Nat} {c0 : Nat} {r : Nat × Nat × List Nat} (C : eCx sh M p s m args meth c D dA ad) (hs : nth sh c0 = some r) (hr : r.1 ≠ 0) : va_K D eCl [(dA c0, eTy r.1)] s := by
  refine ⟨C.2.2.2.2.2.2.2.2.1.1, fun k q h => ?_⟩
  match k, h with
  | 0, h => cases h; exact C.2.2.2.2.2.2.2.2.2.1 c0 r (nth_get hs) hr
  | k + 1, h => simp at h
theorem eGd_a {c0 t n : Nat} {rs : List Nat} {k : Int} (h : eGd sh σ) (hs : nth sh c0 = some (t, n, rs)) (ht : t = 1 ∨ t = 3) : rg (σ c0 k) := by
  refine (h c0 k).2 ?_
  unfold eLong
  rw [nth_get hs]
  rcases ht with rfl | rfl <;> rfl
theorem ok_iald (i : Nat) {c0 n : Nat} {j : Int} {rs : List Nat} (hd : nth (eTab M) i = some (pc, .iaload, pc')) (hn : pc + 1 = pc') (hs : nth sh c0 = some (1, n, rs)) (hj : 0 ≤ j ∧ j < (n : Int)) (K : Ok sh M pc' ls (vi (σ c0 j) :: st) σ Q) : Ok sh M pc ls (vi j :: vr c0 :: st) σ Q := by
  intro l p e s m args below meth c D dA ad H locs la C hH hL hS
  obtain ⟨e1, e2⟩ := ix_nat hS.1 hj.1 hj.2
  have hw := eW_at (dA := dA) (ad := ad) (σ := σ) (nth_get hs)
  refine va_iald (a := ad c0) C.2.1 C.2.2.1 (eKt C hs (Nat.succ_ne_zero _)) hH.1 c0 0 hw rfl e2 (C.1.dec hd hn) (Ok.go K C hH hL ⟨eGd_a hH.2.2 hs (Or.inl rfl), hS.2.2⟩ hn ?_)
  rw [e1]
  show Value.int (Int32.ofInt (σ c0 j)) :: _ = Value.int (Int32.ofInt (σ c0 (j.toNat : Int))) :: _
  rw [Int.toNat_of_nonneg hj.1]
theorem ok_lald (i : Nat) {c0 n : Nat} {j : Int} {rs : List Nat} (hd : nth (eTab M) i = some (pc, .laload, pc')) (hn : pc + 1 = pc') (hs : nth sh c0 = some (2, n, rs)) (hj : 0 ≤ j ∧ j < (n : Int)) (K : Ok sh M pc' ls (vl (σ c0 j) :: st) σ Q) : Ok sh M pc ls (vi j :: vr c0 :: st) σ Q := by
  intro l p e s m args below meth c D dA ad H locs la C hH hL hS
  obtain ⟨e1, e2⟩ := ix_nat hS.1 hj.1 hj.2
  have hw := eW_at (dA := dA) (ad := ad) (σ := σ) (nth_get hs)
  refine va_lald (a := ad c0) C.2.1 C.2.2.1 (eKt C hs (Nat.succ_ne_zero _)) hH.1 c0 0 hw rfl e2 (C.1.dec hd hn) (Ok.go K C hH hL ⟨(hH.2.2 c0 j).1, hS.2.2⟩ hn ?_)
  rw [e1]
  show Value.long (Int64.ofInt (σ c0 j)) :: _ = Value.long (Int64.ofInt (σ c0 (j.toNat : Int))) :: _
  rw [Int.toNat_of_nonneg hj.1]
theorem ok_zald (i : Nat) {c0 n : Nat} {j : Int} {rs : List Nat} (hd : nth (eTab M) i = some (pc, .baload, pc')) (hn : pc + 1 = pc') (hs : nth sh c0 = some (3, n, rs)) (hj : 0 ≤ j ∧ j < (n : Int)) (K : Ok sh M pc' ls (vi (σ c0 j) :: st) σ Q) : Ok sh M pc ls (vi j :: vr c0 :: st) σ Q := by
  intro l p e s m args below meth c D dA ad H locs la C hH hL hS
  obtain ⟨e1, e2⟩ := ix_nat hS.1 hj.1 hj.2
  have hw := eW_at (dA := dA) (ad := ad) (σ := σ) (nth_get hs)
  refine va_zald (a := ad c0) C.2.1 C.2.2.1 (eKt C hs (Nat.succ_ne_zero _)) hH.1 c0 0 hw rfl e2 (C.1.dec hd hn) (Ok.go K C hH hL ⟨eGd_a hH.2.2 hs (Or.inr rfl), hS.2.2⟩ hn ?_)
  rw [e1]
  show Value.int (Int32.ofInt (σ c0 j)) :: _ = Value.int (Int32.ofInt (σ c0 (j.toNat : Int))) :: _
  rw [Int.toNat_of_nonneg hj.1]
theorem ok_aald (i r : Nat) {c0 n t : Nat} {j : Int} {rs : List Nat} (hd : nth (eTab M) i = some (pc, .aaload, pc')) (hn : pc + 1 = pc') (hs : nth sh c0 = some (t, n, rs)) (ht : t = 4 ∨ t = 5) (hj : 0 ≤ j ∧ j < (n : Int)) (hr : rs[j.toNat]? = some r) (K : Ok sh M pc' ls (vr r :: st) σ Q) : Ok sh M pc ls (vi j :: vr c0 :: st) σ Q := by
  intro l p e s m args below meth c D dA ad H locs la C hH hL hS
  obtain ⟨e1, e2⟩ := ix_nat hS.1 hj.1 hj.2
  have hw := eW_at (dA := dA) (ad := ad) (σ := σ) (nth_get hs)
  have hz : ∀ f : Nat → Option Nat, f (Int32.ofInt j).toNatClampNeg = some (ad r) → (vr r :: st).map (eR ad) = va_rf (f (Int32.ofInt j).toNatClampNeg) :: st.map (eR ad) := fun f h => by rw [h]; rfl
  rcases ht with rfl | rfl
  · exact va_aldq (a := ad c0) (C := "EvenTables$Table") C.2.1 C.2.2.1 (eKt C hs (Nat.succ_ne_zero _)) hH.1 c0 0 hw rfl e2 (C.1.dec hd hn) (Ok.go K C hH hL ⟨trivial, hS.2.2⟩ hn (hz (fun k => rs[k]?.map ad) (by show (rs[_]?).map ad = _; rw [e1, hr]; rfl)))
  · exact va_aldq (a := ad c0) (C := "EvenTables$Peeler") C.2.1 C.2.2.1 (eKt C hs (Nat.succ_ne_zero _)) hH.1 c0 0 hw rfl e2 (C.1.dec hd hn) (Ok.go K C hH hL ⟨trivial, hS.2.2⟩ hn (hz (fun k => rs[k]?.map ad) (by show (rs[_]?).map ad = _; rw [e1, hr]; rfl)))
theorem eE_ia {dA : Nat → ClassId} {ad : Nat → Nat} {c0 n t : Nat} {rs : List Nat} {j z : Int} (ht : t = 1 ∨ t = 3) (h0 : 0 ≤ j) : eE dA ad (up σ c0 j z) c0 (t, n, rs) = .inl (dA c0, n, .inl (upd (fun k => Int32.ofInt (σ c0 ((k : Nat) : Int))) j.toNat (Int32.ofInt z))) := by
  have : eE dA ad (up σ c0 j z) c0 (t, n, rs) = .inl (dA c0, n, .inl (fun k => Int32.ofInt (up σ c0 j z c0 ((k : Nat) : Int)))) := by rcases ht with rfl | rfl <;> rfl
  rw [this]
  congr 4
  funext k
  unfold upd
  by_cases hk : k = j.toNat
  · rw [if_pos hk, hk, Int.toNat_of_nonneg h0, up_same]
  · rw [if_neg hk, up_nk _ _ _ _ (by omega)]
theorem ok_iast (i : Nat) {c0 n : Nat} {j z : Int} {rs : List Nat} (hd : nth (eTab M) i = some (pc, .iastore, pc')) (hn : pc + 1 = pc') (hs : nth sh c0 = some (1, n, rs)) (hj : 0 ≤ j ∧ j < (n : Int)) (K : Ok sh M pc' ls st (up σ c0 j z) Q) : Ok sh M pc ls (vi z :: vi j :: vr c0 :: st) σ Q := by
  intro l p e s m args below meth c D dA ad H locs la C hH hL hS
  obtain ⟨e1, e2⟩ := ix_nat hS.2.1 hj.1 hj.2
  have hw := eW_at (dA := dA) (ad := ad) (σ := σ) (nth_get hs)
  refine va_iast (a := ad c0) C.2.1 C.2.2.1 (eKt C hs (Nat.succ_ne_zero _)) hH.1 (eD C.2.2.2.2.2.2.2.2.2.2) hH.2.1 c0 0 hw rfl e2 (C.1.dec hd hn) (fun H1 locs1 hP1 _ hS1 => ?_)
  rw [e1, eW_up (nth_get hs) (eE_ia (Or.inl rfl) hj.1)] at hP1
  exact Ok.go K C ⟨hP1, hS1, eGd_up hH.2.2 (rg_rl hS.1) (fun _ => hS.1)⟩ hL hS.2.2.2 hn rfl
theorem ok_zast (i : Nat) {c0 n : Nat} {j z : Int} {rs : List Nat} (hd : nth (eTab M) i = some (pc, .bastore, pc')) (hn : pc + 1 = pc') (hs : nth sh c0 = some (3, n, rs)) (hj : 0 ≤ j ∧ j < (n : Int)) (hz : z = 0 ∨ z = 1) (K : Ok sh M pc' ls st (up σ c0 j z) Q) : Ok sh M pc ls (vi z :: vi j :: vr c0 :: st) σ Q := by
  intro l p e s m args below meth c D dA ad H locs la C hH hL hS
  obtain ⟨e1, e2⟩ := ix_nat hS.2.1 hj.1 hj.2
  have hw := eW_at (dA := dA) (ad := ad) (σ := σ) (nth_get hs)
  refine va_zast (a := ad c0) C.2.1 C.2.2.1 (eKt C hs (Nat.succ_ne_zero _)) hH.1 (eD C.2.2.2.2.2.2.2.2.2.2) hH.2.1 c0 0 hw rfl e2 (C.1.dec hd hn) (fun H1 locs1 hP1 _ hS1 => ?_)
  have hna : vp_nar .boolean (Int32.ofInt z) = Int32.ofInt z := by rcases hz with rfl | rfl <;> rfl
  rw [hna, e1, eW_up (nth_get hs) (eE_ia (Or.inr rfl) hj.1)] at hP1
  exact Ok.go K C ⟨hP1, hS1, eGd_up hH.2.2 (rg_rl hS.1) (fun _ => hS.1)⟩ hL hS.2.2.2 hn rfl
theorem ok_last (i : Nat) {c0 n : Nat} {j z : Int} {rs : List Nat} (hd : nth (eTab M) i = some (pc, .lastore, pc')) (hn : pc + 1 = pc') (hs : nth sh c0 = some (2, n, rs)) (hj : 0 ≤ j ∧ j < (n : Int)) (K : Ok sh M pc' ls st (up σ c0 j z) Q) : Ok sh M pc ls (vl z :: vi j :: vr c0 :: st) σ Q := by
  intro l p e s m args below meth c D dA ad H locs la C hH hL hS
  obtain ⟨e1, e2⟩ := ix_nat hS.2.1 hj.1 hj.2
  have hw := eW_at (dA := dA) (ad := ad) (σ := σ) (nth_get hs)
  refine va_last (a := ad c0) C.2.1 C.2.2.1 (eKt C hs (Nat.succ_ne_zero _)) hH.1 (eD C.2.2.2.2.2.2.2.2.2.2) hH.2.1 c0 0 hw rfl e2 (C.1.dec hd hn) (fun H1 locs1 hP1 _ hS1 => ?_)
  have he : eE dA ad (up σ c0 j z) c0 (2, n, rs) = .inl (dA c0, n, .inr (.inl (vp_updL (fun k => Int64.ofInt (σ c0 ((k : Nat) : Int))) j.toNat (Int64.ofInt z)))) := by
    show Sum.inl (dA c0, n, Sum.inr (Sum.inl (fun k : Nat => Int64.ofInt (up σ c0 j z c0 (k : Int))))) = _
    congr 5
    funext k
    unfold vp_updL
    by_cases hk : k = j.toNat
    · rw [if_pos hk, hk, Int.toNat_of_nonneg hj.1, up_same]
    · rw [if_neg hk, up_nk _ _ _ _ (by omega)]
  rw [e1, eW_up (nth_get hs) he] at hP1
  exact Ok.go K C ⟨hP1, hS1, eGd_up hH.2.2 hS.1 (fun q => by unfold eLong at q; rw [nth_get hs] at q; cases q)⟩ hL hS.2.2.2 hn rfl
theorem ok_alen (i : Nat) {c0 n t : Nat} {nz : Int} {rs : List Nat} (hd : nth (eTab M) i = some (pc, .arraylength, pc')) (hn : pc + 1 = pc') (hs : nth sh c0 = some (t, n, rs)) (ht : t = 1) (hz : (n : Int) = nz) (hr : rg nz) (K : Ok sh M pc' ls (vi nz :: st) σ Q) : Ok sh M pc ls (vr c0 :: st) σ Q := by
  intro l p e s m args below meth c D dA ad H locs la C hH hL hS
  subst ht
  have hw := eW_at (dA := dA) (ad := ad) (σ := σ) (nth_get hs)
  exact va_alen (a := ad c0) (v := Int32.ofInt nz) C.2.1 C.2.2.1 (eKt C hs (Nat.succ_ne_zero _)) hH.1 c0 0 hw rfl (by show Int32.ofNat n = _; rw [← hz]; rfl) (C.1.dec hd hn) (Ok.go K C hH hL ⟨hr, hS.2⟩ hn rfl)
end E3
