theorem eKA.moved {sh : eSh} {dA : Nat → ClassId} {u U : State} (hvm : u.vm.Alike U.vm) (h : eKA sh dA u) : eKA sh dA U := fun c r h1 h2 => ⟨arrOfT_moved hvm (h c r h1 h2).1, (h c r h1 h2).2.moved hvm⟩
section E4
variable {sh : eSh} {M : eM} {pc pc' tgt : Nat} {ls : List (Option eV)} {st st0 : List eV} {σ : eS} {Q : eS → Option eV → Prop}
theorem ePc_blind {D : va_G} {dA : Nat → ClassId} {ad : Nat → Nat} {as : List eV} : FrameBlind (ePc sh D dA ad as σ) := fun a U g mk q =>
  ⟨q.1, q.2.1, va_K.moved (u := U) (U := U.calling g mk a) (Vm.Alike.refl U.vm) q.2.2.1, eKA.moved (u := U) (U := U.calling g mk a) (Vm.Alike.refl U.vm) q.2.2.2⟩
theorem cat_sum (ad : Nat → Nat) : ∀ l : List eV, ((l.map (eR ad)).map fun v => v.category).sum = (l.map eCat).sum
  | [] => rfl
  | v :: l => by simp only [List.map_cons, List.sum_cons, eR_cat, cat_sum ad l]
/-- behind a call -/
theorem og_back {l : Launch} {p : Program} {e : Env} {s : State} {m : MethodId} {args : Array Value} {below : List Frame} {meth : Method} {c : Code} {D : va_G} {dA : Nat → ClassId} {ad : Nat → Nat} {H : Heap} {locs : List Loc} {la : Array Slot} {Q' : eS → Option eV → Prop} {stk : List Value} {a : Array Value}
    (C : eCx sh M p s m args meth c D dA ad) (hH : eHp sh s D dA ad σ H locs) (hL : eLs la (eNL M) ad ls) (hS : eKs st) (hn : pc + 3 = pc') (hrun : va_Run p l e (eRm M) s m args below meth c H locs 0 0 0 0 (F0 m pc la stk) (st.map (eR ad)) (eQ sh D dA ad Q' a) (eA sh ad))
    (K : ∀ σ' v, Q' σ' v → Ok sh M pc' ls (v.toList ++ st) σ' Q) : W p l e (eRm M) s m args below meth c H locs 0 0 (MQ below (eQ sh D dA ad Q) args s 0 0 (eA sh ad)) (F0 m pc la stk) := by
  intro T hT X
  obtain ⟨v, st₀, t, T', L, h0, X', hL', e1, e2, ⟨⟨v', σ', hv, hq, hk, hgd, hP'⟩, hF⟩, hgo⟩ := hrun T hT X
  cases hv
  have hS' : va_S (eA sh ad) s.heap T'.heap (locs ++ L) := by
    refine ⟨?_, fun q h1 h2 => ?_, fun q hq' => ?_⟩
    · rw [e1]
      exact Nat.le_trans hH.2.1.1 (by rw [← h0]; exact hF.1)
    · rw [e1, hF.2 q (by rw [h0]; exact Nat.lt_of_lt_of_le h1 hH.2.1.1) h2, h0]
      exact hH.2.1.2.1 q h1 h2
    · rcases List.mem_append.mp hq' with h | h
      · exact hH.2.1.2.2 q h
      · exact hL' q h
  have hks : eKs (v'.toList ++ st) := by
    cases v' with
    | none => exact hS
    | some x => exact ⟨hk x rfl, hS⟩
  have h := K σ' v' hq l p e s m args below meth c D dA ad T'.heap (locs ++ L) la C ⟨by rw [e1]; exact hP', hS', hgd⟩ hL hks
  obtain ⟨t2, a1, b1⟩ := h T' rfl X'
  refine ⟨t2, hgo t2 ?_, b1⟩
  have : (v'.toList ++ st).map (eR ad) = (v'.map (eR ad)).toList ++ st.map (eR ad) := by cases v' <;> rfl
  rw [this, ← hn] at a1
  exact a1
theorem og_callV (i : Nat) {x c0 ci : Nat} {M' : eM} {as : List eV} {Q' : eS → Option eV → Prop} {ts : List Nat} (hd : nth (eTab M) i = some (pc, .invokevirtual x, pc')) (hn : pc + 3 = pc') (hl : eLkV (eOwn M) x (eNm M') as.length) (hM : Mt sh M' (vr c0 :: as) σ Q') (hs : nth sh c0 = some (0, ci, ts)) (hc : (eCl.getD ci ("", fun _ => ("", "", "", false), 0)).1 = eOwn M') (hci : ci < eCl.length)
    (hr : (eRm M').frames + 1 ≤ (eRm M).frames ∧ 8 + (eNL M' + 11) + (eRm M').locals ≤ (eRm M).locals) (hst : st0 = as.reverse ++ vr c0 :: st) (hw : (st.map eCat).sum ≤ 8) (K : ∀ σ' v, Q' σ' v → Ok sh M pc' ls (v.toList ++ st) σ' Q) : Ok sh M pc ls st0 σ Q := by
  intro l p e s m args below meth c D dA ad H locs la C hH hL hS
  obtain ⟨w1, w2, w3, w4, w5, w6, w7⟩ := hl
  subst hst
  have hcls : (eNm M').cls = eOwn M' := hM.1.2.2.2.1
  have ksA : ∀ (xs : List eV), eKs (xs.reverse ++ vr c0 :: st) → eKs (vr c0 :: xs) ∧ eKs st := by
    intro xs h
    have h1 := eKs_at h
    exact ⟨eKs_of fun v hv => by
      rcases List.mem_cons.mp hv with rfl | hv
      · trivial
      · exact h1 v (List.mem_append_left _ (List.mem_reverse.mpr hv)), eKs_of fun v hv => h1 v (List.mem_append_right _ (List.mem_cons_of_mem _ hv))⟩
  obtain ⟨k1, k2⟩ := ksA as hS
  have hMet := hM.2 l D dA ad C.2.2.2.2.2.2.2.2.2.2 k1 hH.2.2
  have hstk : (as.reverse ++ vr c0 :: st).map (eR ad) = (as.map (eR ad)).reverse ++ .ref (ad c0) :: st.map (eR ad) := by
    rw [List.map_append, List.map_reverse, List.map_cons]
    rfl
  rw [hstk]
  have hq1 : eCl[ci]? = some (eCl.getD ci ("", fun _ => ("", "", "", false), 0)) := by
    rw [List.getD_eq_getElem?_getD, List.getElem?_eq_getElem hci]
    rfl
  have hg : GoodIn eTbl (wsV (eOwn M) x (eOwn M') (eNm M') (eWs M')) := eGoodIn fun w hw => by
    simp only [wsV, List.mem_append, List.mem_cons, List.not_mem_nil, or_false] at hw
    rcases hw with (rfl | rfl | rfl | rfl) | hw
    · exact w1
    · exact w3
    · rw [← hcls]; exact w4
    · rw [← hcls]; exact w2
    · rcases List.mem_cons.mp hw with rfl | hw
      · exact hM.1.2.1
      · exact hw
  refine og_back C hH hL k2 hn (va_runV (C := eOwn M') (As := as.map (eR ad)) (rest := st.map (eR ad)) (b := ad c0) ⟨C.2.1, C.2.2.1, C.2.2.2.1, C.2.2.2.2.2.2.1, C.2.2.2.2.2.2.2.1⟩ hMet (cwV as.length C.2.2.2.2.2.2.2.1 hg rfl hM.1.2.2.2.2.1 hM.1.2.2.2.2.2 ⟨hcls, w5, w6, w7⟩ hr) ⟨ePc_blind, ?_, fun U hU hW => ⟨rfl, by rw [hU]; exact hH.1, va_K.moved hW.alike C.2.2.2.2.2.2.2.2.1, eKA.moved hW.alike C.2.2.2.2.2.2.2.2.2.1⟩⟩ rfl (by rw [List.length_map]) hL.1 rfl (lv_room (by rw [cat_sum]; exact hw)) (C.1.dec hd hn) ⟨Nat.zero_le _, Nat.zero_le _⟩) K
  have hw1 := eW_at (dA := dA) (ad := ad) (σ := σ) (nth_get hs)
  have := va_recv (q0 := c0) C.2.2.2.2.2.2.2.2.1 hH.1 hq1 hw1
  rwa [hc] at this
theorem og_callS (i : Nat) {x : Nat} {M' : eM} {as : List eV} {Q' : eS → Option eV → Prop} (hd : nth (eTab M) i = some (pc, .invokestatic x, pc')) (hn : pc + 3 = pc') (hl : eLkS (eOwn M) x (eNm M') as.length) (hM : Mt sh M' as σ Q')
    (hr : (eRm M').frames + 1 ≤ (eRm M).frames ∧ 8 + (eNL M' + 11) + (eRm M').locals ≤ (eRm M).locals) (hst : st0 = as.reverse ++ st) (hw : (st.map eCat).sum ≤ 8) (K : ∀ σ' v, Q' σ' v → Ok sh M pc' ls (v.toList ++ st) σ' Q) : Ok sh M pc ls st0 σ Q := by
  intro l p e s m args below meth c D dA ad H locs la C hH hL hS
  obtain ⟨w1, w2, w3, w5, w6, w7⟩ := hl
  subst hst
  have h1 := eKs_at hS
  have k1 : eKs as := eKs_of fun v hv => h1 v (List.mem_append_left _ (List.mem_reverse.mpr hv))
  have k2 : eKs st := eKs_of fun v hv => h1 v (List.mem_append_right _ hv)
  have hMet := hM.2 l D dA ad C.2.2.2.2.2.2.2.2.2.2 k1 hH.2.2
  have hstk : (as.reverse ++ st).map (eR ad) = (as.map (eR ad)).reverse ++ st.map (eR ad) := by
    rw [List.map_append, List.map_reverse]
  rw [hstk]
  have hg : GoodIn eTbl (eWs M') := eGoodIn fun w hw => by
    rcases List.mem_cons.mp hw with rfl | hw
    · exact hM.1.2.1
    · exact hw
  exact og_back C hH hL k2 hn (va_runS (As := as.map (eR ad)) (rest := st.map (eR ad)) ⟨C.2.1, C.2.2.1, C.2.2.2.1, C.2.2.2.2.2.2.1, C.2.2.2.2.2.2.2.1⟩ hMet ⟨callB_of as.length C.2.2.2.2.2.2.2.1 hg rfl hM.1.2.2.2.2.1 hM.1.2.2.2.2.2 (C.2.2.2.2.2.2.2.1 _ w2) (C.2.2.2.2.2.2.2.1 _ w1) ⟨w5, w6, w7⟩ hr, C.2.2.2.2.2.2.2.1 _ w3⟩ ⟨ePc_blind, fun U hU hW => ⟨rfl, by rw [hU]; exact hH.1, va_K.moved hW.alike C.2.2.2.2.2.2.2.2.1, eKA.moved hW.alike C.2.2.2.2.2.2.2.2.2.1⟩⟩ rfl (by rw [List.length_map]) hL.1 rfl (lv_room (by rw [cat_sum]; exact hw)) (C.1.dec hd hn) ⟨Nat.zero_le _, Nat.zero_le _⟩) K
/-! contracts by what comes back: an int, a long, a reference or null, nothing -/
def MtI (sh : eSh) (M : eM) (as : List eV) (σ : eS) (P : eS → Int → Prop) : Prop := Mt sh M as σ (fun σ' v => ∃ z, v = some (vi z) ∧ P σ' z)
def MtL (sh : eSh) (M : eM) (as : List eV) (σ : eS) (P : eS → Int → Prop) : Prop := Mt sh M as σ (fun σ' v => ∃ z, v = some (vl z) ∧ P σ' z)
def MtR (sh : eSh) (M : eM) (as : List eV) (σ : eS) (P : eS → Option Nat → Prop) : Prop := Mt sh M as σ (fun σ' v => ∃ z, v = some (.inr (.inr z)) ∧ P σ' z)
def MtV (sh : eSh) (M : eM) (as : List eV) (σ : eS) (P : eS → Prop) : Prop := Mt sh M as σ (fun σ' v => v = none ∧ P σ')
theorem ok_callVI (i : Nat) {x c0 ci : Nat} {M' : eM} {as : List eV} {ts : List Nat} {P : eS → Int → Prop} (hd : nth (eTab M) i = some (pc, .invokevirtual x, pc')) (hn : pc + 3 = pc') (hl : eLkV (eOwn M) x (eNm M') as.length) (hM : MtI sh M' (vr c0 :: as) σ P) (hs : nth sh c0 = some (0, ci, ts)) (hc : (eCl.getD ci ("", fun _ => ("", "", "", false), 0)).1 = eOwn M') (hci : ci < eCl.length) (hr : (eRm M').frames + 1 ≤ (eRm M).frames ∧ 8 + (eNL M' + 11) + (eRm M').locals ≤ (eRm M).locals) (hst : st0 = as.reverse ++ vr c0 :: st) (hw : (st.map eCat).sum ≤ 8) (K : ∀ σ' z, P σ' z → Ok sh M pc' ls (vi z :: st) σ' Q) : Ok sh M pc ls st0 σ Q :=
  og_callV i hd hn hl hM hs hc hci hr hst hw (fun σ' v h => by obtain ⟨z, rfl, h⟩ := h; exact K σ' z h)
theorem ok_callVL (i : Nat) {x c0 ci : Nat} {M' : eM} {as : List eV} {ts : List Nat} {P : eS → Int → Prop} (hd : nth (eTab M) i = some (pc, .invokevirtual x, pc')) (hn : pc + 3 = pc') (hl : eLkV (eOwn M) x (eNm M') as.length) (hM : MtL sh M' (vr c0 :: as) σ P) (hs : nth sh c0 = some (0, ci, ts)) (hc : (eCl.getD ci ("", fun _ => ("", "", "", false), 0)).1 = eOwn M') (hci : ci < eCl.length) (hr : (eRm M').frames + 1 ≤ (eRm M).frames ∧ 8 + (eNL M' + 11) + (eRm M').locals ≤ (eRm M).locals) (hst : st0 = as.reverse ++ vr c0 :: st) (hw : (st.map eCat).sum ≤ 8) (K : ∀ σ' z, P σ' z → Ok sh M pc' ls (vl z :: st) σ' Q) : Ok sh M pc ls st0 σ Q :=
  og_callV i hd hn hl hM hs hc hci hr hst hw (fun σ' v h => by obtain ⟨z, rfl, h⟩ := h; exact K σ' z h)
theorem ok_callVR (i : Nat) {x c0 ci : Nat} {M' : eM} {as : List eV} {ts : List Nat} {P : eS → Option Nat → Prop} (hd : nth (eTab M) i = some (pc, .invokevirtual x, pc')) (hn : pc + 3 = pc') (hl : eLkV (eOwn M) x (eNm M') as.length) (hM : MtR sh M' (vr c0 :: as) σ P) (hs : nth sh c0 = some (0, ci, ts)) (hc : (eCl.getD ci ("", fun _ => ("", "", "", false), 0)).1 = eOwn M') (hci : ci < eCl.length) (hr : (eRm M').frames + 1 ≤ (eRm M).frames ∧ 8 + (eNL M' + 11) + (eRm M').locals ≤ (eRm M).locals) (hst : st0 = as.reverse ++ vr c0 :: st) (hw : (st.map eCat).sum ≤ 8) (K : ∀ σ' z, P σ' z → Ok sh M pc' ls (.inr (.inr z) :: st) σ' Q) : Ok sh M pc ls st0 σ Q :=
  og_callV i hd hn hl hM hs hc hci hr hst hw (fun σ' v h => by obtain ⟨z, rfl, h⟩ := h; exact K σ' z h)
theorem ok_callVV (i : Nat) {x c0 ci : Nat} {M' : eM} {as : List eV} {ts : List Nat} {P : eS → Prop} (hd : nth (eTab M) i = some (pc, .invokevirtual x, pc')) (hn : pc + 3 = pc') (hl : eLkV (eOwn M) x (eNm M') as.length) (hM : MtV sh M' (vr c0 :: as) σ P) (hs : nth sh c0 = some (0, ci, ts)) (hc : (eCl.getD ci ("", fun _ => ("", "", "", false), 0)).1 = eOwn M') (hci : ci < eCl.length) (hr : (eRm M').frames + 1 ≤ (eRm M).frames ∧ 8 + (eNL M' + 11) + (eRm M').locals ≤ (eRm M).locals) (hst : st0 = as.reverse ++ vr c0 :: st) (hw : (st.map eCat).sum ≤ 8) (K : ∀ σ', P σ' → Ok sh M pc' ls st σ' Q) : Ok sh M pc ls st0 σ Q :=
  og_callV i hd hn hl hM hs hc hci hr hst hw (fun σ' v h => by obtain ⟨rfl, h⟩ := h; exact K σ' h)
theorem ok_callSI (i : Nat) {x : Nat} {M' : eM} {as : List eV} {P : eS → Int → Prop} (hd : nth (eTab M) i = some (pc, .invokestatic x, pc')) (hn : pc + 3 = pc') (hl : eLkS (eOwn M) x (eNm M') as.length) (hM : MtI sh M' (as) σ P)  (hr : (eRm M').frames + 1 ≤ (eRm M).frames ∧ 8 + (eNL M' + 11) + (eRm M').locals ≤ (eRm M).locals) (hst : st0 = as.reverse ++ st) (hw : (st.map eCat).sum ≤ 8) (K : ∀ σ' z, P σ' z → Ok sh M pc' ls (vi z :: st) σ' Q) : Ok sh M pc ls st0 σ Q :=
  og_callS i hd hn hl hM hr hst hw (fun σ' v h => by obtain ⟨z, rfl, h⟩ := h; exact K σ' z h)
theorem ok_callSL (i : Nat) {x : Nat} {M' : eM} {as : List eV} {P : eS → Int → Prop} (hd : nth (eTab M) i = some (pc, .invokestatic x, pc')) (hn : pc + 3 = pc') (hl : eLkS (eOwn M) x (eNm M') as.length) (hM : MtL sh M' (as) σ P)  (hr : (eRm M').frames + 1 ≤ (eRm M).frames ∧ 8 + (eNL M' + 11) + (eRm M').locals ≤ (eRm M).locals) (hst : st0 = as.reverse ++ st) (hw : (st.map eCat).sum ≤ 8) (K : ∀ σ' z, P σ' z → Ok sh M pc' ls (vl z :: st) σ' Q) : Ok sh M pc ls st0 σ Q :=
  og_callS i hd hn hl hM hr hst hw (fun σ' v h => by obtain ⟨z, rfl, h⟩ := h; exact K σ' z h)
theorem ok_callSV (i : Nat) {x : Nat} {M' : eM} {as : List eV} {P : eS → Prop} (hd : nth (eTab M) i = some (pc, .invokestatic x, pc')) (hn : pc + 3 = pc') (hl : eLkS (eOwn M) x (eNm M') as.length) (hM : MtV sh M' (as) σ P)  (hr : (eRm M').frames + 1 ≤ (eRm M).frames ∧ 8 + (eNL M' + 11) + (eRm M').locals ≤ (eRm M).locals) (hst : st0 = as.reverse ++ st) (hw : (st.map eCat).sum ≤ 8) (K : ∀ σ', P σ' → Ok sh M pc' ls st σ' Q) : Ok sh M pc ls st0 σ Q :=
  og_callS i hd hn hl hM hr hst hw (fun σ' v h => by obtain ⟨rfl, h⟩ := h; exact K σ' h)
end E4
