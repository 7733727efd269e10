/-! Math.max, Math.min, System.arraycopy -/
theorem mx_of {a b : Int} (ha : rg a) (hb : rg b) : (if Int32.ofInt a < Int32.ofInt b then Int32.ofInt b else Int32.ofInt a) = Int32.ofInt (max a b) ∧ rg (max a b) := by
  have e := rg_lt ha hb
  by_cases h : a < b
  · rw [if_pos (e.mpr h)]
    have : max a b = b := by omega
    rw [this]
    exact ⟨rfl, hb⟩
  · rw [if_neg (fun q => h (e.mp q))]
    have : max a b = a := by omega
    rw [this]
    exact ⟨rfl, ha⟩
theorem mn_of {a b : Int} (ha : rg a) (hb : rg b) : (if Int32.ofInt b < Int32.ofInt a then Int32.ofInt b else Int32.ofInt a) = Int32.ofInt (min a b) ∧ rg (min a b) := by
  have e := rg_lt hb ha
  by_cases h : b < a
  · rw [if_pos (e.mpr h)]
    have : min a b = b := by omega
    rw [this]
    exact ⟨rfl, hb⟩
  · rw [if_neg (fun q => h (e.mp q))]
    have : min a b = a := by omega
    rw [this]
    exact ⟨rfl, ha⟩
theorem mxL_of {a b : Int} (ha : rl a) (hb : rl b) : (if Int64.ofInt b < Int64.ofInt a then Int64.ofInt a else Int64.ofInt b) = Int64.ofInt (max a b) ∧ rl (max a b) := by
  have e := rl_lt hb ha
  by_cases h : b < a
  · rw [if_pos (e.mpr h)]
    have : max a b = a := by omega
    rw [this]
    exact ⟨rfl, ha⟩
  · rw [if_neg (fun q => h (e.mp q))]
    have : max a b = b := by omega
    rw [this]
    exact ⟨rfl, hb⟩
theorem mnL_of {a b : Int} (ha : rl a) (hb : rl b) : (if Int64.ofInt b < Int64.ofInt a then Int64.ofInt b else Int64.ofInt a) = Int64.ofInt (min a b) ∧ rl (min a b) := by
  have e := rl_lt hb ha
  by_cases h : b < a
  · rw [if_pos (e.mpr h)]
    have : min a b = b := by omega
    rw [this]
    exact ⟨rfl, hb⟩
  · rw [if_neg (fun q => h (e.mp q))]
    have : min a b = a := by omega
    rw [this]
    exact ⟨rfl, ha⟩
/-- part of a row of ints, copied -/
def cp (σ : eS) (c0 : Nat) (sp : Int) (c1 : Nat) (dp n : Int) : eS := fun c k => if c = c1 ∧ dp ≤ k ∧ k < dp + n then σ c0 (sp + (k - dp)) else σ c k
theorem eW_ch {sh : eSh} {dA : Nat → ClassId} {ad : Nat → Nat} {σ σ' : eS} {c : Nat} {r : Nat × Nat × List Nat} (h : sh[c]? = some r) (ho : ∀ c', c' ≠ c → ∀ k, σ' c' k = σ c' k) {x : va_E} (hx : eE dA ad σ' c r = x) : (eW sh dA ad σ).set c (ad c, x) = eW sh dA ad σ' := by
  subst hx
  apply List.ext_getElem?
  intro j
  by_cases hj : j = c
  · subst hj
    rw [eW_at h, List.getElem?_set_self]
    simp only [eW, List.length_mapIdx]
    exact (List.getElem?_eq_some_iff.mp h).1
  · rw [List.getElem?_set_ne (fun q => hj q.symm)]
    simp only [eW, List.getElem?_mapIdx]
    cases sh[j]? with
    | none => rfl
    | some r' =>
      simp only [Option.map_some]
      unfold eE
      simp only [ho j hj]
section E5
variable {sh : eSh} {M : eM} {pc pc' tgt : Nat} {ls : List (Option eV)} {st : List eV} {σ : eS} {Q : eS → Option eV → Prop}
theorem ok_mmax (i : Nat) {x : Nat} {a b : Int} (hd : nth (eTab M) i = some (pc, .invokestatic x, pc')) (hn : pc + 3 = pc') (hl : eLkS (eOwn M) x yJ9_max_7cf53 2) (hr : 1 ≤ (eRm M).frames ∧ (st.map eCat).sum + 13 ≤ (eRm M).locals) (K : Ok sh M pc' ls (vi (max a b) :: st) σ Q) : Ok sh M pc ls (vi b :: vi a :: st) σ Q := by
  intro l p e s m args below meth c D dA ad H locs la C hH hL hS
  obtain ⟨hb, ha, hs⟩ := hS
  obtain ⟨w1, w2, w3, -⟩ := hl
  refine va_mmax C.2.1 C.2.2.1 (by rw [C.2.2.2.1, hL.1]) C.2.2.2.2.2.2.1 (C.2.2.2.2.2.2.2.1 _ w1) (C.2.2.2.2.2.2.2.1 _ w3) (C.2.2.2.2.2.2.2.1 _ w2) (C.2.2.2.2.2.2.2.1 _ cw_J9_max_7cf53) hr.1 (by rw [cat_sum]; exact hr.2) (Nat.zero_le _) (Nat.zero_le _) (C.1.dec hd hn) (Ok.go K C hH hL ⟨(mx_of ha hb).2, hs⟩ hn ?_)
  show Value.int (Int32.ofInt (max a b)) :: _ = _
  rw [(mx_of ha hb).1]
theorem ok_mmin (i : Nat) {x : Nat} {a b : Int} (hd : nth (eTab M) i = some (pc, .invokestatic x, pc')) (hn : pc + 3 = pc') (hl : eLkS (eOwn M) x yJ9_min_7cf53 2) (hr : 1 ≤ (eRm M).frames ∧ (st.map eCat).sum + 13 ≤ (eRm M).locals) (K : Ok sh M pc' ls (vi (min a b) :: st) σ Q) : Ok sh M pc ls (vi b :: vi a :: st) σ Q := by
  intro l p e s m args below meth c D dA ad H locs la C hH hL hS
  obtain ⟨hb, ha, hs⟩ := hS
  obtain ⟨w1, w2, w3, -⟩ := hl
  refine va_mmin C.2.1 C.2.2.1 (by rw [C.2.2.2.1, hL.1]) C.2.2.2.2.2.2.1 (C.2.2.2.2.2.2.2.1 _ w1) (C.2.2.2.2.2.2.2.1 _ w3) (C.2.2.2.2.2.2.2.1 _ w2) (C.2.2.2.2.2.2.2.1 _ cw_J9_min_7cf53) hr.1 (by rw [cat_sum]; exact hr.2) (Nat.zero_le _) (Nat.zero_le _) (C.1.dec hd hn) (Ok.go K C hH hL ⟨(mn_of ha hb).2, hs⟩ hn ?_)
  show Value.int (Int32.ofInt (min a b)) :: _ = _
  rw [(mn_of ha hb).1]
theorem ok_mmaxL (i : Nat) {x : Nat} {a b : Int} (hd : nth (eTab M) i = some (pc, .invokestatic x, pc')) (hn : pc + 3 = pc') (hl : eLkS (eOwn M) x yJ9_max_f86c9 2) (hr : 1 ≤ (eRm M).frames ∧ (st.map eCat).sum + 15 ≤ (eRm M).locals) (K : Ok sh M pc' ls (vl (max a b) :: st) σ Q) : Ok sh M pc ls (vl b :: vl a :: st) σ Q := by
  intro l p e s m args below meth c D dA ad H locs la C hH hL hS
  obtain ⟨hb, ha, hs⟩ := hS
  obtain ⟨w1, w2, w3, -⟩ := hl
  refine va_mmax_long C.2.1 C.2.2.1 (by rw [C.2.2.2.1, hL.1]) C.2.2.2.2.2.2.1 (C.2.2.2.2.2.2.2.1 _ w1) (C.2.2.2.2.2.2.2.1 _ w3) (C.2.2.2.2.2.2.2.1 _ w2) (C.2.2.2.2.2.2.2.1 _ cw_J9_max_f86c9) hr.1 (by rw [cat_sum]; exact hr.2) (Nat.zero_le _) (Nat.zero_le _) (C.1.dec hd hn) (Ok.go K C hH hL ⟨(mxL_of ha hb).2, hs⟩ hn ?_)
  show Value.long (Int64.ofInt (max a b)) :: _ = _
  rw [(mxL_of ha hb).1]
theorem ok_mminL (i : Nat) {x : Nat} {a b : Int} (hd : nth (eTab M) i = some (pc, .invokestatic x, pc')) (hn : pc + 3 = pc') (hl : eLkS (eOwn M) x yJ9_min_f86c9 2) (hr : 1 ≤ (eRm M).frames ∧ (st.map eCat).sum + 15 ≤ (eRm M).locals) (K : Ok sh M pc' ls (vl (min a b) :: st) σ Q) : Ok sh M pc ls (vl b :: vl a :: st) σ Q := by
  intro l p e s m args below meth c D dA ad H locs la C hH hL hS
  obtain ⟨hb, ha, hs⟩ := hS
  obtain ⟨w1, w2, w3, -⟩ := hl
  refine va_mmin_long C.2.1 C.2.2.1 (by rw [C.2.2.2.1, hL.1]) C.2.2.2.2.2.2.1 (C.2.2.2.2.2.2.2.1 _ w1) (C.2.2.2.2.2.2.2.1 _ w3) (C.2.2.2.2.2.2.2.1 _ w2) (C.2.2.2.2.2.2.2.1 _ cw_J9_min_f86c9) hr.1 (by rw [cat_sum]; exact hr.2) (Nat.zero_le _) (Nat.zero_le _) (C.1.dec hd hn) (Ok.go K C hH hL ⟨(mnL_of ha hb).2, hs⟩ hn ?_)
  show Value.long (Int64.ofInt (min a b)) :: _ = _
  rw [(mnL_of ha hb).1]
theorem ok_copy (i : Nat) {x c0 c1 n0 n1 : Nat} {r0 r1 : List Nat} {sp dp n : Int} (hd : nth (eTab M) i = some (pc, .invokestatic x, pc')) (hn : pc + 3 = pc') (hl : Cond.methodLink (eOwn M) x arraycopyName ∈ eTbl) (hr : 1 ≤ (eRm M).frames ∧ (st.map eCat).sum + (nativeFrameWords "java/lang/System" "arraycopy" 5 + 11) ≤ (eRm M).locals) (hs0 : nth sh c0 = some (1, n0, r0)) (hs1 : nth sh c1 = some (1, n1, r1)) (h1 : 0 ≤ sp) (h2 : 0 ≤ dp) (h3 : 0 ≤ n) (h4 : sp + n ≤ n0) (h5 : dp + n ≤ n1) (K : Ok sh M pc' ls st (cp σ c0 sp c1 dp n) Q) : Ok sh M pc ls (vi n :: vi dp :: vr c1 :: vi sp :: vr c0 :: st) σ Q := by
  intro l p e s m args below meth c D dA ad H locs la C hH hL hS
  obtain ⟨kn, kd, -, ks, -, hs⟩ := hS
  have w0 := eW_at (dA := dA) (ad := ad) (σ := σ) (nth_get hs0)
  have w1 := eW_at (dA := dA) (ad := ad) (σ := σ) (nth_get hs1)
  have en : (Int32.ofInt n).toNatClampNeg = n.toNat := by show (Int32.ofInt n).toInt.toNat = _; rw [rg_in kn]
  have ed : (Int32.ofInt dp).toNatClampNeg = dp.toNat := by show (Int32.ofInt dp).toInt.toNat = _; rw [rg_in kd]
  have es : (Int32.ofInt sp).toNatClampNeg = sp.toNat := by show (Int32.ofInt sp).toInt.toNat = _; rw [rg_in ks]
  have nn : ∀ {z : Int}, rg z → 0 ≤ z → ¬ Int32.ofInt z < 0 := fun {z} hz h0 q => by
    have := (rg_lt hz rg_0).mp (by rw [of_0]; exact q)
    omega
  have hK2 : va_K D eCl [(dA c0, .int), (dA c1, .int)] s := by
    refine ⟨C.2.2.2.2.2.2.2.2.1.1, fun k q h => ?_⟩
    match k, h with
    | 0, h => cases h; exact C.2.2.2.2.2.2.2.2.2.1 c0 _ (nth_get hs0) (Nat.succ_ne_zero _)
    | 1, h => cases h; exact C.2.2.2.2.2.2.2.2.2.1 c1 _ (nth_get hs1) (Nat.succ_ne_zero _)
    | k + 2, h => simp at h
  refine va_copyi (a := ad c1) C.2.1 C.2.2.1 (by rw [C.2.2.2.1, hL.1]) C.2.2.2.2.2.2.1 (C.2.2.2.2.2.2.2.1 _ hl) (C.2.2.2.2.2.2.2.1 _ (wd3 106 rfl rfl)) (C.2.2.2.2.2.2.2.1 _ (wd3 105 rfl rfl)) (C.2.2.2.2.2.2.2.1 _ (wd1 17 rfl rfl)) hK2 hH.1 (eD C.2.2.2.2.2.2.2.2.2.2) hH.2.1 c0 c1 0 1 w0 w1 rfl rfl rfl (nn ks h1) (nn kd h2) (nn kn h3) (by show _ ≤ n0; rw [es, en]; omega) (by show _ ≤ n1; rw [ed, en]; omega) (fun i _ => rfl) hr.1 (by rw [cat_sum]; exact hr.2) (C.1.dec hd hn) (fun H1 locs1 hP1 _ hS1 => ?_)
  have he : eE dA ad (cp σ c0 sp c1 dp n) c1 (1, n1, r1) = .inl (dA c1, n1, .inl (va_cpy (fun k => Int32.ofInt (σ c0 ((k : Nat) : Int))) (fun k => Int32.ofInt (σ c1 ((k : Nat) : Int))) sp.toNat dp.toNat n.toNat)) := by
    show Sum.inl (dA c1, n1, Sum.inl (fun k : Nat => Int32.ofInt (cp σ c0 sp c1 dp n c1 (k : Int)))) = _
    congr 4
    funext k
    unfold va_cpy cp
    by_cases hk : dp.toNat ≤ k ∧ k < dp.toNat + n.toNat
    · rw [if_pos hk, if_pos ⟨rfl, by omega, by omega⟩]
      congr 2
      omega
    · rw [if_neg hk, if_neg (by omega)]
  rw [es, ed, en, eW_ch (nth_get hs1) (fun c' hc k => by simp [cp, hc]) he] at hP1
  refine Ok.go K C ⟨hP1, hS1, fun c' k' => ?_⟩ hL hs hn rfl
  have g0 := hH.2.2 c0 (sp + (k' - dp))
  have g1 := hH.2.2 c' k'
  have l0 : eLong sh c0 (sp + (k' - dp)) = false := by unfold eLong; rw [nth_get hs0]; rfl
  unfold cp
  by_cases hc : c' = c1 ∧ dp ≤ k' ∧ k' < dp + n
  · rw [if_pos hc]
    exact ⟨g0.1, fun _ => g0.2 l0⟩
  · rw [if_neg hc]
    exact g1
end E5
