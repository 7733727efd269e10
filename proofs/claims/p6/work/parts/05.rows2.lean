def eAl (ad : Nat → Nat) : Nat → List (Option eV) → List (Nat × Value)
  | _, [] => []
  | n, none :: l => eAl ad (n + 1) l
  | n, some v :: l => (n, eR ad v) :: eAl ad (n + 1) l
theorem eAl_mem (ad : Nat → Nat) : ∀ (l : List (Option eV)) (n i : Nat) (v : eV), l[i]? = some (some v) → (n + i, eR ad v) ∈ eAl ad n l
  | [], n, i, v, h => by simp at h
  | a :: l, n, 0, v, h => by
    simp only [List.getElem?_cons_zero, Option.some.injEq] at h
    subst h
    exact List.mem_cons_self
  | a :: l, n, i + 1, v, h => by
    rw [List.getElem?_cons_succ] at h
    have h1 := eAl_mem ad l (n + 1) i v h
    rw [show n + 1 + i = n + (i + 1) by omega] at h1
    cases a with
    | none => exact h1
    | some w => exact List.mem_cons_of_mem _ h1
theorem eAl_inv (ad : Nat → Nat) : ∀ (l : List (Option eV)) (n : Nat) (q : Nat × Value), q ∈ eAl ad n l → ∃ (i : Nat) (v : eV), q = (n + i, eR ad v) ∧ l[i]? = some (some v)
  | [], n, q, h => by cases h
  | none :: l, n, q, h => by
    obtain ⟨i, v, h1, h2⟩ := eAl_inv ad l (n + 1) q h
    exact ⟨i + 1, v, by rw [h1]; congr 1; omega, by rw [List.getElem?_cons_succ]; exact h2⟩
  | some w :: l, n, q, h => by
    rcases List.mem_cons.mp h with h | h
    · exact ⟨0, w, h, rfl⟩
    · obtain ⟨i, v, h1, h2⟩ := eAl_inv ad l (n + 1) q h
      exact ⟨i + 1, v, by rw [h1]; congr 1; omega, by rw [List.getElem?_cons_succ]; exact h2⟩
theorem eLs.has {la : Array Slot} {nL : Nat} {ad : Nat → Nat} {ls : List (Option eV)} (h : eLs la nL ad ls) : lv_has la nL (eAl ad 0 ls) := by
  refine ⟨h.1, h.2.2.1, fun q hq => ?_⟩
  obtain ⟨i, v, rfl, h2⟩ := eAl_inv ad ls 0 q hq
  rw [Nat.zero_add]
  exact (h.2.2.2 i v h2).1
def eClr : Option eV → Option eV
  | some (.inr (.inl _)) => none
  | x => x
def eNl : Option eV → Bool
  | some (.inr (.inl _)) => false
  | _ => true
theorem eClr_id {x : Option eV} (h : eNl x = true) : eClr x = x := by
  rcases x with _ | (z | z | _ | c) <;> first | rfl | cases h
theorem eClr_some {x : Option eV} {v : eV} (h : eClr x = some v) : x = some v ∧ eCat v = 1 := by
  rcases x with _ | (z | z | _ | c)
  · cases h
  · cases h; exact ⟨rfl, rfl⟩
  · cases h
  · cases h; exact ⟨rfl, rfl⟩
  · cases h; exact ⟨rfl, rfl⟩
def eSet : Nat → eV → List (Option eV) → List (Option eV)
  | _, _, [] => []
  | 0, v, _ :: l => some v :: l
  | 1, v, a :: _ :: l => eClr a :: some v :: l
  | 1, _, [a] => [a]
  | n + 2, v, a :: l => a :: eSet (n + 1) v l
theorem eSet_len : ∀ (n : Nat) (v : eV) (l : List (Option eV)), (eSet n v l).length = l.length
  | _, _, [] => by simp [eSet]
  | 0, v, _ :: l => rfl
  | 1, v, a :: _ :: l => rfl
  | 1, _, [a] => rfl
  | n + 2, v, a :: l => by show (a :: eSet (n + 1) v l).length = _; rw [List.length_cons, eSet_len (n + 1) v l, List.length_cons]
theorem eSet_at : ∀ (n : Nat) (v : eV) (l : List (Option eV)) (i : Nat) (w : eV), n < l.length → (eSet n v l)[i]? = some (some w) → (i = n ∧ w = v) ∨ (i ≠ n ∧ l[i]? = some (some w) ∧ ¬ (i + 1 = n ∧ eCat w = 2))
  | _, _, [], i, w, h, _ => by cases h
  | 0, v, _ :: l, 0, w, _, h => by cases h; exact Or.inl ⟨rfl, rfl⟩
  | 0, v, _ :: l, i + 1, w, _, h => Or.inr ⟨by omega, h, by omega⟩
  | 1, v, a :: _ :: l, 0, w, _, h => by
    have h1 : eClr a = some w := by simpa [eSet] using h
    obtain ⟨h2, h3⟩ := eClr_some h1
    exact Or.inr ⟨by omega, by rw [h2]; rfl, by omega⟩
  | 1, v, a :: _ :: l, 1, w, _, h => by cases h; exact Or.inl ⟨rfl, rfl⟩
  | 1, v, a :: _ :: l, i + 2, w, _, h => Or.inr ⟨by omega, h, by omega⟩
  | 1, _, [a], i, w, h, _ => by simp at h
  | n + 2, v, a :: l, 0, w, _, h => Or.inr ⟨by omega, h, by omega⟩
  | n + 2, v, a :: l, i + 1, w, hl, h => by
    have h1 : (eSet (n + 1) v l)[i]? = some (some w) := h
    rcases eSet_at (n + 1) v l i w (by have h9 : n + 2 < l.length + 1 := by simpa using hl
                                       omega) h1 with ⟨h2, h3⟩ | ⟨h2, h3, h4⟩
    · exact Or.inl ⟨by omega, h3⟩
    · exact Or.inr ⟨by omega, h3, by omega⟩
/-- a long's second half: what stood there is gone -/
def eDrop : Nat → List (Option eV) → List (Option eV)
  | _, [] => []
  | 0, _ :: l => none :: l
  | n + 1, a :: l => a :: eDrop n l
theorem eDrop_len : ∀ (n : Nat) (l : List (Option eV)), (eDrop n l).length = l.length
  | _, [] => by simp [eDrop]
  | 0, _ :: l => rfl
  | n + 1, a :: l => by show (a :: eDrop n l).length = _; rw [List.length_cons, eDrop_len n l, List.length_cons]
theorem eDrop_at : ∀ (n : Nat) (l : List (Option eV)) (i : Nat) (w : eV), (eDrop n l)[i]? = some (some w) → i ≠ n ∧ l[i]? = some (some w)
  | _, [], i, w, h => by simp [eDrop] at h
  | 0, _ :: l, 0, w, h => by simp [eDrop] at h
  | 0, _ :: l, i + 1, w, h => ⟨by omega, h⟩
  | n + 1, a :: l, 0, w, h => ⟨by omega, h⟩
  | n + 1, a :: l, i + 1, w, h => by
    have h1 : (eDrop n l)[i]? = some (some w) := h
    obtain ⟨h2, h3⟩ := eDrop_at n l i w h1
    exact ⟨by omega, h3⟩
theorem eLs.st1 {la la' : Array Slot} {nL : Nat} {ad : Nat → Nat} {ls : List (Option eV)} {j : Nat} {v : eV} (h : eLs la nL ad ls) (hj : j < nL) (hk : eK v) (h' : lv_has la' nL ((j, eR ad v) :: (eAl ad 0 ls).filter (fun q => !(q.1 == j) && !(q.1 + 1 == j && q.2.category == 2)))) : eLs la' nL ad (eSet j v ls) := by
  refine ⟨h'.1, by rw [eSet_len]; exact h.2.1, h'.2.1, fun i w hw => ?_⟩
  rcases eSet_at j v ls i w (by rw [h.2.1]; exact hj) hw with ⟨rfl, rfl⟩ | ⟨h1, h2, h3⟩
  · exact ⟨h'.2.2 _ List.mem_cons_self, hk⟩
  · refine ⟨h'.2.2 (i, eR ad w) (List.mem_cons_of_mem _ (List.mem_filter.mpr ⟨?_, ?_⟩)), (h.2.2.2 i w h2).2⟩
    · have := eAl_mem ad ls 0 i w h2
      rwa [Nat.zero_add] at this
    · simp only [eR_cat, Bool.and_eq_true, Bool.not_eq_true', beq_eq_false_iff_ne, ne_eq, Bool.and_eq_false_iff]
      refine ⟨h1, ?_⟩
      by_cases q : i + 1 = j
      · exact Or.inr fun z => h3 ⟨q, z⟩
      · exact Or.inl q
theorem eLs.st2 {la la' : Array Slot} {nL : Nat} {ad : Nat → Nat} {ls : List (Option eV)} {j : Nat} {v : eV} (h : eLs la nL ad ls) (hj : j < nL) (hk : eK v) (h' : lv_has la' nL ((j, eR ad v) :: (eAl ad 0 ls).filter (fun q => !(q.1 == j) && (!(q.1 == j + 1) && !(q.1 + 1 == j && q.2.category == 2))))) : eLs la' nL ad (eDrop (j + 1) (eSet j v ls)) := by
  refine ⟨h'.1, by rw [eDrop_len, eSet_len]; exact h.2.1, h'.2.1, fun i w hw => ?_⟩
  obtain ⟨h0, hw⟩ := eDrop_at _ _ _ _ hw
  rcases eSet_at j v ls i w (by rw [h.2.1]; exact hj) hw with ⟨rfl, rfl⟩ | ⟨h1, h2, h3⟩
  · exact ⟨h'.2.2 _ List.mem_cons_self, hk⟩
  · refine ⟨h'.2.2 (i, eR ad w) (List.mem_cons_of_mem _ (List.mem_filter.mpr ⟨?_, ?_⟩)), (h.2.2.2 i w h2).2⟩
    · have := eAl_mem ad ls 0 i w h2
      rwa [Nat.zero_add] at this
    · simp only [eR_cat, Bool.and_eq_true, Bool.not_eq_true', beq_eq_false_iff_ne, ne_eq, Bool.and_eq_false_iff]
      refine ⟨h1, h0, ?_⟩
      by_cases q : i + 1 = j
      · exact Or.inr fun z => h3 ⟨q, z⟩
      · exact Or.inl q
section E2
variable {sh : eSh} {M : eM} {pc pc' tgt : Nat} {ls : List (Option eV)} {st st' : List eV} {σ : eS} {Q : eS → Option eV → Prop}
theorem ok_iload_n (i : Nat) {k : Fin 4} {z : Int} (hd : nth (eTab M) i = some (pc, .iload_n k, pc')) (hn : pc + 1 = pc') (hl : nth ls k.val = some (some (vi z))) (K : Ok sh M pc' ls (vi z :: st) σ Q) : Ok sh M pc ls st σ Q := by
  intro l p e s m args below meth c D dA ad H locs la C hH hL hS
  have h := hL.2.2.2 _ _ (nth_get hl)
  exact lv_iload_n C.2.1 C.2.2.1 (C.1.dec hd hn) rfl h.1 (Ok.go K C hH hL ⟨h.2, hS⟩ hn rfl)
theorem ok_iload (i : Nat) {k : Nat} {z : Int} (hd : nth (eTab M) i = some (pc, .iload k, pc')) (hn : pc + 2 = pc') (hl : nth ls k = some (some (vi z))) (K : Ok sh M pc' ls (vi z :: st) σ Q) : Ok sh M pc ls st σ Q := by
  intro l p e s m args below meth c D dA ad H locs la C hH hL hS
  have h := hL.2.2.2 _ _ (nth_get hl)
  exact lv_iload C.2.1 C.2.2.1 (C.1.dec hd hn) h.1 (Ok.go K C hH hL ⟨h.2, hS⟩ hn rfl)
theorem ok_lload_n (i : Nat) {k : Fin 4} {z : Int} (hd : nth (eTab M) i = some (pc, .lload_n k, pc')) (hn : pc + 1 = pc') (hl : nth ls k.val = some (some (vl z))) (K : Ok sh M pc' ls (vl z :: st) σ Q) : Ok sh M pc ls st σ Q := by
  intro l p e s m args below meth c D dA ad H locs la C hH hL hS
  have h := hL.2.2.2 _ _ (nth_get hl)
  exact lv_lload_n C.2.1 C.2.2.1 (C.1.dec hd hn) rfl h.1 (Ok.go K C hH hL ⟨h.2, hS⟩ hn rfl)
theorem ok_lload (i : Nat) {k : Nat} {z : Int} (hd : nth (eTab M) i = some (pc, .lload k, pc')) (hn : pc + 2 = pc') (hl : nth ls k = some (some (vl z))) (K : Ok sh M pc' ls (vl z :: st) σ Q) : Ok sh M pc ls st σ Q := by
  intro l p e s m args below meth c D dA ad H locs la C hH hL hS
  have h := hL.2.2.2 _ _ (nth_get hl)
  exact lv_lload C.2.1 C.2.2.1 (C.1.dec hd hn) h.1 (Ok.go K C hH hL ⟨h.2, hS⟩ hn rfl)
theorem ok_aload_n (i : Nat) {k : Fin 4} {z : Option Nat} (hd : nth (eTab M) i = some (pc, .aload_n k, pc')) (hn : pc + 1 = pc') (hl : nth ls k.val = some (some (.inr (.inr z)))) (K : Ok sh M pc' ls (.inr (.inr z) :: st) σ Q) : Ok sh M pc ls st σ Q := by
  intro l p e s m args below meth c D dA ad H locs la C hH hL hS
  have h := hL.2.2.2 _ _ (nth_get hl)
  cases z with
  | none => exact lv_aload_nN C.2.1 C.2.2.1 (C.1.dec hd hn) rfl h.1 (Ok.go K C hH hL ⟨h.2, hS⟩ hn rfl)
  | some z => exact lv_aload_n C.2.1 C.2.2.1 (C.1.dec hd hn) rfl h.1 (Ok.go K C hH hL ⟨h.2, hS⟩ hn rfl)
theorem ok_aload (i : Nat) {k : Nat} {z : Option Nat} (hd : nth (eTab M) i = some (pc, .aload k, pc')) (hn : pc + 2 = pc') (hl : nth ls k = some (some (.inr (.inr z)))) (K : Ok sh M pc' ls (.inr (.inr z) :: st) σ Q) : Ok sh M pc ls st σ Q := by
  intro l p e s m args below meth c D dA ad H locs la C hH hL hS
  have h := hL.2.2.2 _ _ (nth_get hl)
  cases z with
  | none => exact lv_aloadN C.2.1 C.2.2.1 (C.1.dec hd hn) h.1 (Ok.go K C hH hL ⟨h.2, hS⟩ hn rfl)
  | some z => exact lv_aload C.2.1 C.2.2.1 (C.1.dec hd hn) h.1 (Ok.go K C hH hL ⟨h.2, hS⟩ hn rfl)
theorem og_istore_n (i : Nat) {k : Nat} {kf : Fin 4} {z : Int} (hd : nth (eTab M) i = some (pc, .istore_n kf, pc')) (hn : pc + 1 = pc') (hk : kf.val = k) (hl : k < eNL M) (K : Ok sh M pc' (eSet k (vi z) ls) st σ Q) : Ok sh M pc ls (vi z :: st) σ Q := by
  intro l p e s m args below meth c D dA ad H locs la C hH hL hS
  exact lv_istore_n C.2.1 C.2.2.1 (C.1.dec hd hn) hk hL.has hl rfl (fun la' h' => Ok.go K C hH (hL.st1 (by omega) hS.1 h') hS.2 hn rfl)
theorem og_istore (i : Nat) {k : Nat} {z : Int} (hd : nth (eTab M) i = some (pc, .istore k, pc')) (hn : pc + 2 = pc') (hl : k < eNL M) (K : Ok sh M pc' (eSet k (vi z) ls) st σ Q) : Ok sh M pc ls (vi z :: st) σ Q := by
  intro l p e s m args below meth c D dA ad H locs la C hH hL hS
  exact lv_istore C.2.1 C.2.2.1 (C.1.dec hd hn) hL.has hl rfl (fun la' h' => Ok.go K C hH (hL.st1 (by omega) hS.1 h') hS.2 hn rfl)
theorem og_lstore_n (i : Nat) {k : Nat} {kf : Fin 4} {z : Int} (hd : nth (eTab M) i = some (pc, .lstore_n kf, pc')) (hn : pc + 1 = pc') (hk : kf.val = k) (hl : k + 1 < eNL M) (K : Ok sh M pc' (eDrop (k + 1) (eSet k (vl z) ls)) st σ Q) : Ok sh M pc ls (vl z :: st) σ Q := by
  intro l p e s m args below meth c D dA ad H locs la C hH hL hS
  exact lv_lstore_n C.2.1 C.2.2.1 (C.1.dec hd hn) hk hL.has hl rfl (fun la' h' => Ok.go K C hH (hL.st2 (by omega) hS.1 h') hS.2 hn rfl)
theorem og_lstore (i : Nat) {k : Nat} {z : Int} (hd : nth (eTab M) i = some (pc, .lstore k, pc')) (hn : pc + 2 = pc') (hl : k + 1 < eNL M) (K : Ok sh M pc' (eDrop (k + 1) (eSet k (vl z) ls)) st σ Q) : Ok sh M pc ls (vl z :: st) σ Q := by
  intro l p e s m args below meth c D dA ad H locs la C hH hL hS
  exact lv_lstore C.2.1 C.2.2.1 (C.1.dec hd hn) hL.has hl rfl (fun la' h' => Ok.go K C hH (hL.st2 (by omega) hS.1 h') hS.2 hn rfl)
theorem og_astore_n (i : Nat) {k : Nat} {kf : Fin 4} {z : Nat} (hd : nth (eTab M) i = some (pc, .astore_n kf, pc')) (hn : pc + 1 = pc') (hk : kf.val = k) (hl : k < eNL M) (K : Ok sh M pc' (eSet k (vr z) ls) st σ Q) : Ok sh M pc ls (vr z :: st) σ Q := by
  intro l p e s m args below meth c D dA ad H locs la C hH hL hS
  exact lv_astore_n C.2.1 C.2.2.1 (C.1.dec hd hn) hk hL.has hl rfl (fun la' h' => Ok.go K C hH (hL.st1 (by omega) hS.1 h') hS.2 hn rfl)
theorem og_astore (i : Nat) {k : Nat} {z : Nat} (hd : nth (eTab M) i = some (pc, .astore k, pc')) (hn : pc + 2 = pc') (hl : k < eNL M) (K : Ok sh M pc' (eSet k (vr z) ls) st σ Q) : Ok sh M pc ls (vr z :: st) σ Q := by
  intro l p e s m args below meth c D dA ad H locs la C hH hL hS
  exact lv_astore C.2.1 C.2.2.1 (C.1.dec hd hn) hL.has hl rfl (fun la' h' => Ok.go K C hH (hL.st1 (by omega) hS.1 h') hS.2 hn rfl)
theorem og_astore_nN (i : Nat) {k : Nat} {kf : Fin 4} (hd : nth (eTab M) i = some (pc, .astore_n kf, pc')) (hn : pc + 1 = pc') (hk : kf.val = k) (hl : k < eNL M) (K : Ok sh M pc' (eSet k (vn) ls) st σ Q) : Ok sh M pc ls (vn :: st) σ Q := by
  intro l p e s m args below meth c D dA ad H locs la C hH hL hS
  exact lv_astore_nN C.2.1 C.2.2.1 (C.1.dec hd hn) hk hL.has hl rfl (fun la' h' => Ok.go K C hH (hL.st1 (by omega) hS.1 h') hS.2 hn rfl)
theorem og_astoreN (i : Nat) {k : Nat} (hd : nth (eTab M) i = some (pc, .astore k, pc')) (hn : pc + 2 = pc') (hl : k < eNL M) (K : Ok sh M pc' (eSet k (vn) ls) st σ Q) : Ok sh M pc ls (vn :: st) σ Q := by
  intro l p e s m args below meth c D dA ad H locs la C hH hL hS
  exact lv_astoreN C.2.1 C.2.2.1 (C.1.dec hd hn) hL.has hl rfl (fun la' h' => Ok.go K C hH (hL.st1 (by omega) hS.1 h') hS.2 hn rfl)
theorem og_astore_nO (i : Nat) {k : Nat} {kf : Fin 4} {z : Option Nat} (hd : nth (eTab M) i = some (pc, .astore_n kf, pc')) (hn : pc + 1 = pc') (hk : kf.val = k) (hl : k < eNL M) (K : Ok sh M pc' (eSet k (.inr (.inr z)) ls) st σ Q) : Ok sh M pc ls (.inr (.inr z) :: st) σ Q := by
  cases z with
  | none => exact og_astore_nN i hd hn hk hl K
  | some z => exact og_astore_n i hd hn hk hl K
theorem og_astoreO (i : Nat) {k : Nat} {z : Option Nat} (hd : nth (eTab M) i = some (pc, .astore k, pc')) (hn : pc + 2 = pc') (hl : k < eNL M) (K : Ok sh M pc' (eSet k (.inr (.inr z)) ls) st σ Q) : Ok sh M pc ls (.inr (.inr z) :: st) σ Q := by
  cases z with
  | none => exact og_astoreN i hd hn hl K
  | some z => exact og_astore i hd hn hl K
theorem og_len (k : ls.length = eNL M → Ok sh M pc ls st σ Q) : Ok sh M pc ls st σ Q := fun l p e s m args below meth c D dA ad H locs la C hH hL hS => k hL.2.1 l p e s m args below meth c D dA ad H locs la C hH hL hS
theorem og_iinc (i : Nat) {k : Nat} {n z : Int} (hd : nth (eTab M) i = some (pc, .iinc k n, pc')) (hn : pc + 3 = pc') (hl : nth ls k = some (some (vi z))) (hr : rg (z + n)) (K : Ok sh M pc' (eSet k (vi (z + n)) ls) st σ Q) : Ok sh M pc ls st σ Q := by
  intro l p e s m args below meth c D dA ad H locs la C hH hL hS
  have hj : k < eNL M := by rw [← hL.2.1]; exact (List.getElem?_eq_some_iff.mp (nth_get hl)).1
  have hm := eAl_mem ad ls 0 k (vi z) (nth_get hl)
  rw [Nat.zero_add] at hm
  obtain ⟨q, hq⟩ := List.getElem?_of_mem hm
  exact lv_iinc (v := Int32.ofInt (z + n)) C.2.1 C.2.2.1 (C.1.dec hd hn) hL.has hq (by rw [Int32.ofInt_add]) hj rfl (fun la' h' => Ok.go K C hH (hL.st1 hj hr h') hS hn rfl)
theorem ok_ist0 (i : Nat) {r : List (Option eV)} {y : Option eV} {z : Int} (hd : nth (eTab M) i = some (pc, .istore_n 0, pc')) (hn : pc + 1 = pc') (k : Ok sh M pc' (some (vi z) :: r) st σ Q) : Ok sh M pc (y :: r) (vi z :: st) σ Q :=
  og_len fun h => og_istore_n (k := 0) i hd hn rfl (by rw [← h]; simp) (by exact k)
theorem ok_ast0 (i : Nat) {r : List (Option eV)} {y : Option eV} {z : Option Nat} (hd : nth (eTab M) i = some (pc, .astore_n 0, pc')) (hn : pc + 1 = pc') (k : Ok sh M pc' (some (.inr (.inr z)) :: r) st σ Q) : Ok sh M pc (y :: r) (.inr (.inr z) :: st) σ Q :=
  og_len fun h => og_astore_nO (k := 0) i hd hn rfl (by rw [← h]; simp) (by exact k)
theorem ok_lst0 (i : Nat) {r : List (Option eV)} {y2 : Option eV} {y : Option eV} {z : Int} (hd : nth (eTab M) i = some (pc, .lstore_n 0, pc')) (hn : pc + 1 = pc') (k : Ok sh M pc' (some (vl z) :: none :: r) st σ Q) : Ok sh M pc (y :: y2 :: r) (vl z :: st) σ Q :=
  og_len fun h => og_lstore_n (k := 0) i hd hn rfl (by rw [← h]; simp) (by exact k)
theorem ok_inc0 (i : Nat) {r : List (Option eV)} {n z : Int} (hd : nth (eTab M) i = some (pc, .iinc 0 n, pc')) (hn : pc + 3 = pc') (hr : rg (z + n)) (k : Ok sh M pc' (some (vi (z + n)) :: r) st σ Q) : Ok sh M pc (some (vi z) :: r) st σ Q :=
  og_iinc (k := 0) i hd hn rfl hr (by exact k)
theorem ok_ist1 (i : Nat) {r : List (Option eV)} {x0 y : Option eV} {z : Int} (hd : nth (eTab M) i = some (pc, .istore_n 1, pc')) (hn : pc + 1 = pc') (hp : eNl x0 = true) (k : Ok sh M pc' (x0 :: some (vi z) :: r) st σ Q) : Ok sh M pc (x0 :: y :: r) (vi z :: st) σ Q :=
  og_len fun h => og_istore_n (k := 1) i hd hn rfl (by rw [← h]; simp) (by show Ok sh M pc' (eClr x0 :: some (vi z) :: r) st σ Q; rw [eClr_id hp]; exact k)
theorem ok_ast1 (i : Nat) {r : List (Option eV)} {x0 y : Option eV} {z : Option Nat} (hd : nth (eTab M) i = some (pc, .astore_n 1, pc')) (hn : pc + 1 = pc') (hp : eNl x0 = true) (k : Ok sh M pc' (x0 :: some (.inr (.inr z)) :: r) st σ Q) : Ok sh M pc (x0 :: y :: r) (.inr (.inr z) :: st) σ Q :=
  og_len fun h => og_astore_nO (k := 1) i hd hn rfl (by rw [← h]; simp) (by show Ok sh M pc' (eClr x0 :: some (.inr (.inr z)) :: r) st σ Q; rw [eClr_id hp]; exact k)
theorem ok_lst1 (i : Nat) {r : List (Option eV)} {y2 : Option eV} {x0 y : Option eV} {z : Int} (hd : nth (eTab M) i = some (pc, .lstore_n 1, pc')) (hn : pc + 1 = pc') (hp : eNl x0 = true) (k : Ok sh M pc' (x0 :: some (vl z) :: none :: r) st σ Q) : Ok sh M pc (x0 :: y :: y2 :: r) (vl z :: st) σ Q :=
  og_len fun h => og_lstore_n (k := 1) i hd hn rfl (by rw [← h]; simp) (by show Ok sh M pc' (eClr x0 :: some (vl z) :: none :: r) st σ Q; rw [eClr_id hp]; exact k)
theorem ok_inc1 (i : Nat) {r : List (Option eV)} {x0 : Option eV} {n z : Int} (hd : nth (eTab M) i = some (pc, .iinc 1 n, pc')) (hn : pc + 3 = pc') (hp : eNl x0 = true) (hr : rg (z + n)) (k : Ok sh M pc' (x0 :: some (vi (z + n)) :: r) st σ Q) : Ok sh M pc (x0 :: some (vi z) :: r) st σ Q :=
  og_iinc (k := 1) i hd hn rfl hr (by show Ok sh M pc' (eClr x0 :: some (vi (z + n)) :: r) st σ Q; rw [eClr_id hp]; exact k)
theorem ok_ist2 (i : Nat) {r : List (Option eV)} {x0 x1 y : Option eV} {z : Int} (hd : nth (eTab M) i = some (pc, .istore_n 2, pc')) (hn : pc + 1 = pc') (hp : eNl x1 = true) (k : Ok sh M pc' (x0 :: x1 :: some (vi z) :: r) st σ Q) : Ok sh M pc (x0 :: x1 :: y :: r) (vi z :: st) σ Q :=
  og_len fun h => og_istore_n (k := 2) i hd hn rfl (by rw [← h]; simp) (by show Ok sh M pc' (x0 :: eClr x1 :: some (vi z) :: r) st σ Q; rw [eClr_id hp]; exact k)
theorem ok_ast2 (i : Nat) {r : List (Option eV)} {x0 x1 y : Option eV} {z : Option Nat} (hd : nth (eTab M) i = some (pc, .astore_n 2, pc')) (hn : pc + 1 = pc') (hp : eNl x1 = true) (k : Ok sh M pc' (x0 :: x1 :: some (.inr (.inr z)) :: r) st σ Q) : Ok sh M pc (x0 :: x1 :: y :: r) (.inr (.inr z) :: st) σ Q :=
  og_len fun h => og_astore_nO (k := 2) i hd hn rfl (by rw [← h]; simp) (by show Ok sh M pc' (x0 :: eClr x1 :: some (.inr (.inr z)) :: r) st σ Q; rw [eClr_id hp]; exact k)
theorem ok_lst2 (i : Nat) {r : List (Option eV)} {y2 : Option eV} {x0 x1 y : Option eV} {z : Int} (hd : nth (eTab M) i = some (pc, .lstore_n 2, pc')) (hn : pc + 1 = pc') (hp : eNl x1 = true) (k : Ok sh M pc' (x0 :: x1 :: some (vl z) :: none :: r) st σ Q) : Ok sh M pc (x0 :: x1 :: y :: y2 :: r) (vl z :: st) σ Q :=
  og_len fun h => og_lstore_n (k := 2) i hd hn rfl (by rw [← h]; simp) (by show Ok sh M pc' (x0 :: eClr x1 :: some (vl z) :: none :: r) st σ Q; rw [eClr_id hp]; exact k)
theorem ok_inc2 (i : Nat) {r : List (Option eV)} {x0 x1 : Option eV} {n z : Int} (hd : nth (eTab M) i = some (pc, .iinc 2 n, pc')) (hn : pc + 3 = pc') (hp : eNl x1 = true) (hr : rg (z + n)) (k : Ok sh M pc' (x0 :: x1 :: some (vi (z + n)) :: r) st σ Q) : Ok sh M pc (x0 :: x1 :: some (vi z) :: r) st σ Q :=
  og_iinc (k := 2) i hd hn rfl hr (by show Ok sh M pc' (x0 :: eClr x1 :: some (vi (z + n)) :: r) st σ Q; rw [eClr_id hp]; exact k)
theorem ok_ist3 (i : Nat) {r : List (Option eV)} {x0 x1 x2 y : Option eV} {z : Int} (hd : nth (eTab M) i = some (pc, .istore_n 3, pc')) (hn : pc + 1 = pc') (hp : eNl x2 = true) (k : Ok sh M pc' (x0 :: x1 :: x2 :: some (vi z) :: r) st σ Q) : Ok sh M pc (x0 :: x1 :: x2 :: y :: r) (vi z :: st) σ Q :=
  og_len fun h => og_istore_n (k := 3) i hd hn rfl (by rw [← h]; simp) (by show Ok sh M pc' (x0 :: x1 :: eClr x2 :: some (vi z) :: r) st σ Q; rw [eClr_id hp]; exact k)
theorem ok_ast3 (i : Nat) {r : List (Option eV)} {x0 x1 x2 y : Option eV} {z : Option Nat} (hd : nth (eTab M) i = some (pc, .astore_n 3, pc')) (hn : pc + 1 = pc') (hp : eNl x2 = true) (k : Ok sh M pc' (x0 :: x1 :: x2 :: some (.inr (.inr z)) :: r) st σ Q) : Ok sh M pc (x0 :: x1 :: x2 :: y :: r) (.inr (.inr z) :: st) σ Q :=
  og_len fun h => og_astore_nO (k := 3) i hd hn rfl (by rw [← h]; simp) (by show Ok sh M pc' (x0 :: x1 :: eClr x2 :: some (.inr (.inr z)) :: r) st σ Q; rw [eClr_id hp]; exact k)
theorem ok_lst3 (i : Nat) {r : List (Option eV)} {y2 : Option eV} {x0 x1 x2 y : Option eV} {z : Int} (hd : nth (eTab M) i = some (pc, .lstore_n 3, pc')) (hn : pc + 1 = pc') (hp : eNl x2 = true) (k : Ok sh M pc' (x0 :: x1 :: x2 :: some (vl z) :: none :: r) st σ Q) : Ok sh M pc (x0 :: x1 :: x2 :: y :: y2 :: r) (vl z :: st) σ Q :=
  og_len fun h => og_lstore_n (k := 3) i hd hn rfl (by rw [← h]; simp) (by show Ok sh M pc' (x0 :: x1 :: eClr x2 :: some (vl z) :: none :: r) st σ Q; rw [eClr_id hp]; exact k)
theorem ok_inc3 (i : Nat) {r : List (Option eV)} {x0 x1 x2 : Option eV} {n z : Int} (hd : nth (eTab M) i = some (pc, .iinc 3 n, pc')) (hn : pc + 3 = pc') (hp : eNl x2 = true) (hr : rg (z + n)) (k : Ok sh M pc' (x0 :: x1 :: x2 :: some (vi (z + n)) :: r) st σ Q) : Ok sh M pc (x0 :: x1 :: x2 :: some (vi z) :: r) st σ Q :=
  og_iinc (k := 3) i hd hn rfl hr (by show Ok sh M pc' (x0 :: x1 :: eClr x2 :: some (vi (z + n)) :: r) st σ Q; rw [eClr_id hp]; exact k)
theorem ok_ist4 (i : Nat) {r : List (Option eV)} {x0 x1 x2 x3 y : Option eV} {z : Int} (hd : nth (eTab M) i = some (pc, .istore 4, pc')) (hn : pc + 2 = pc') (hp : eNl x3 = true) (k : Ok sh M pc' (x0 :: x1 :: x2 :: x3 :: some (vi z) :: r) st σ Q) : Ok sh M pc (x0 :: x1 :: x2 :: x3 :: y :: r) (vi z :: st) σ Q :=
  og_len fun h => og_istore (k := 4) i hd hn (by rw [← h]; simp) (by show Ok sh M pc' (x0 :: x1 :: x2 :: eClr x3 :: some (vi z) :: r) st σ Q; rw [eClr_id hp]; exact k)
theorem ok_ast4 (i : Nat) {r : List (Option eV)} {x0 x1 x2 x3 y : Option eV} {z : Option Nat} (hd : nth (eTab M) i = some (pc, .astore 4, pc')) (hn : pc + 2 = pc') (hp : eNl x3 = true) (k : Ok sh M pc' (x0 :: x1 :: x2 :: x3 :: some (.inr (.inr z)) :: r) st σ Q) : Ok sh M pc (x0 :: x1 :: x2 :: x3 :: y :: r) (.inr (.inr z) :: st) σ Q :=
  og_len fun h => og_astoreO (k := 4) i hd hn (by rw [← h]; simp) (by show Ok sh M pc' (x0 :: x1 :: x2 :: eClr x3 :: some (.inr (.inr z)) :: r) st σ Q; rw [eClr_id hp]; exact k)
theorem ok_lst4 (i : Nat) {r : List (Option eV)} {y2 : Option eV} {x0 x1 x2 x3 y : Option eV} {z : Int} (hd : nth (eTab M) i = some (pc, .lstore 4, pc')) (hn : pc + 2 = pc') (hp : eNl x3 = true) (k : Ok sh M pc' (x0 :: x1 :: x2 :: x3 :: some (vl z) :: none :: r) st σ Q) : Ok sh M pc (x0 :: x1 :: x2 :: x3 :: y :: y2 :: r) (vl z :: st) σ Q :=
  og_len fun h => og_lstore (k := 4) i hd hn (by rw [← h]; simp) (by show Ok sh M pc' (x0 :: x1 :: x2 :: eClr x3 :: some (vl z) :: none :: r) st σ Q; rw [eClr_id hp]; exact k)
theorem ok_inc4 (i : Nat) {r : List (Option eV)} {x0 x1 x2 x3 : Option eV} {n z : Int} (hd : nth (eTab M) i = some (pc, .iinc 4 n, pc')) (hn : pc + 3 = pc') (hp : eNl x3 = true) (hr : rg (z + n)) (k : Ok sh M pc' (x0 :: x1 :: x2 :: x3 :: some (vi (z + n)) :: r) st σ Q) : Ok sh M pc (x0 :: x1 :: x2 :: x3 :: some (vi z) :: r) st σ Q :=
  og_iinc (k := 4) i hd hn rfl hr (by show Ok sh M pc' (x0 :: x1 :: x2 :: eClr x3 :: some (vi (z + n)) :: r) st σ Q; rw [eClr_id hp]; exact k)
theorem ok_ist5 (i : Nat) {r : List (Option eV)} {x0 x1 x2 x3 x4 y : Option eV} {z : Int} (hd : nth (eTab M) i = some (pc, .istore 5, pc')) (hn : pc + 2 = pc') (hp : eNl x4 = true) (k : Ok sh M pc' (x0 :: x1 :: x2 :: x3 :: x4 :: some (vi z) :: r) st σ Q) : Ok sh M pc (x0 :: x1 :: x2 :: x3 :: x4 :: y :: r) (vi z :: st) σ Q :=
  og_len fun h => og_istore (k := 5) i hd hn (by rw [← h]; simp) (by show Ok sh M pc' (x0 :: x1 :: x2 :: x3 :: eClr x4 :: some (vi z) :: r) st σ Q; rw [eClr_id hp]; exact k)
theorem ok_ast5 (i : Nat) {r : List (Option eV)} {x0 x1 x2 x3 x4 y : Option eV} {z : Option Nat} (hd : nth (eTab M) i = some (pc, .astore 5, pc')) (hn : pc + 2 = pc') (hp : eNl x4 = true) (k : Ok sh M pc' (x0 :: x1 :: x2 :: x3 :: x4 :: some (.inr (.inr z)) :: r) st σ Q) : Ok sh M pc (x0 :: x1 :: x2 :: x3 :: x4 :: y :: r) (.inr (.inr z) :: st) σ Q :=
  og_len fun h => og_astoreO (k := 5) i hd hn (by rw [← h]; simp) (by show Ok sh M pc' (x0 :: x1 :: x2 :: x3 :: eClr x4 :: some (.inr (.inr z)) :: r) st σ Q; rw [eClr_id hp]; exact k)
theorem ok_lst5 (i : Nat) {r : List (Option eV)} {y2 : Option eV} {x0 x1 x2 x3 x4 y : Option eV} {z : Int} (hd : nth (eTab M) i = some (pc, .lstore 5, pc')) (hn : pc + 2 = pc') (hp : eNl x4 = true) (k : Ok sh M pc' (x0 :: x1 :: x2 :: x3 :: x4 :: some (vl z) :: none :: r) st σ Q) : Ok sh M pc (x0 :: x1 :: x2 :: x3 :: x4 :: y :: y2 :: r) (vl z :: st) σ Q :=
  og_len fun h => og_lstore (k := 5) i hd hn (by rw [← h]; simp) (by show Ok sh M pc' (x0 :: x1 :: x2 :: x3 :: eClr x4 :: some (vl z) :: none :: r) st σ Q; rw [eClr_id hp]; exact k)
theorem ok_inc5 (i : Nat) {r : List (Option eV)} {x0 x1 x2 x3 x4 : Option eV} {n z : Int} (hd : nth (eTab M) i = some (pc, .iinc 5 n, pc')) (hn : pc + 3 = pc') (hp : eNl x4 = true) (hr : rg (z + n)) (k : Ok sh M pc' (x0 :: x1 :: x2 :: x3 :: x4 :: some (vi (z + n)) :: r) st σ Q) : Ok sh M pc (x0 :: x1 :: x2 :: x3 :: x4 :: some (vi z) :: r) st σ Q :=
  og_iinc (k := 5) i hd hn rfl hr (by show Ok sh M pc' (x0 :: x1 :: x2 :: x3 :: eClr x4 :: some (vi (z + n)) :: r) st σ Q; rw [eClr_id hp]; exact k)
theorem ok_ist6 (i : Nat) {r : List (Option eV)} {x0 x1 x2 x3 x4 x5 y : Option eV} {z : Int} (hd : nth (eTab M) i = some (pc, .istore 6, pc')) (hn : pc + 2 = pc') (hp : eNl x5 = true) (k : Ok sh M pc' (x0 :: x1 :: x2 :: x3 :: x4 :: x5 :: some (vi z) :: r) st σ Q) : Ok sh M pc (x0 :: x1 :: x2 :: x3 :: x4 :: x5 :: y :: r) (vi z :: st) σ Q :=
  og_len fun h => og_istore (k := 6) i hd hn (by rw [← h]; simp) (by show Ok sh M pc' (x0 :: x1 :: x2 :: x3 :: x4 :: eClr x5 :: some (vi z) :: r) st σ Q; rw [eClr_id hp]; exact k)
theorem ok_ast6 (i : Nat) {r : List (Option eV)} {x0 x1 x2 x3 x4 x5 y : Option eV} {z : Option Nat} (hd : nth (eTab M) i = some (pc, .astore 6, pc')) (hn : pc + 2 = pc') (hp : eNl x5 = true) (k : Ok sh M pc' (x0 :: x1 :: x2 :: x3 :: x4 :: x5 :: some (.inr (.inr z)) :: r) st σ Q) : Ok sh M pc (x0 :: x1 :: x2 :: x3 :: x4 :: x5 :: y :: r) (.inr (.inr z) :: st) σ Q :=
  og_len fun h => og_astoreO (k := 6) i hd hn (by rw [← h]; simp) (by show Ok sh M pc' (x0 :: x1 :: x2 :: x3 :: x4 :: eClr x5 :: some (.inr (.inr z)) :: r) st σ Q; rw [eClr_id hp]; exact k)
theorem ok_lst6 (i : Nat) {r : List (Option eV)} {y2 : Option eV} {x0 x1 x2 x3 x4 x5 y : Option eV} {z : Int} (hd : nth (eTab M) i = some (pc, .lstore 6, pc')) (hn : pc + 2 = pc') (hp : eNl x5 = true) (k : Ok sh M pc' (x0 :: x1 :: x2 :: x3 :: x4 :: x5 :: some (vl z) :: none :: r) st σ Q) : Ok sh M pc (x0 :: x1 :: x2 :: x3 :: x4 :: x5 :: y :: y2 :: r) (vl z :: st) σ Q :=
  og_len fun h => og_lstore (k := 6) i hd hn (by rw [← h]; simp) (by show Ok sh M pc' (x0 :: x1 :: x2 :: x3 :: x4 :: eClr x5 :: some (vl z) :: none :: r) st σ Q; rw [eClr_id hp]; exact k)
theorem ok_inc6 (i : Nat) {r : List (Option eV)} {x0 x1 x2 x3 x4 x5 : Option eV} {n z : Int} (hd : nth (eTab M) i = some (pc, .iinc 6 n, pc')) (hn : pc + 3 = pc') (hp : eNl x5 = true) (hr : rg (z + n)) (k : Ok sh M pc' (x0 :: x1 :: x2 :: x3 :: x4 :: x5 :: some (vi (z + n)) :: r) st σ Q) : Ok sh M pc (x0 :: x1 :: x2 :: x3 :: x4 :: x5 :: some (vi z) :: r) st σ Q :=
  og_iinc (k := 6) i hd hn rfl hr (by show Ok sh M pc' (x0 :: x1 :: x2 :: x3 :: x4 :: eClr x5 :: some (vi (z + n)) :: r) st σ Q; rw [eClr_id hp]; exact k)
theorem ok_ist7 (i : Nat) {r : List (Option eV)} {x0 x1 x2 x3 x4 x5 x6 y : Option eV} {z : Int} (hd : nth (eTab M) i = some (pc, .istore 7, pc')) (hn : pc + 2 = pc') (hp : eNl x6 = true) (k : Ok sh M pc' (x0 :: x1 :: x2 :: x3 :: x4 :: x5 :: x6 :: some (vi z) :: r) st σ Q) : Ok sh M pc (x0 :: x1 :: x2 :: x3 :: x4 :: x5 :: x6 :: y :: r) (vi z :: st) σ Q :=
  og_len fun h => og_istore (k := 7) i hd hn (by rw [← h]; simp) (by show Ok sh M pc' (x0 :: x1 :: x2 :: x3 :: x4 :: x5 :: eClr x6 :: some (vi z) :: r) st σ Q; rw [eClr_id hp]; exact k)
theorem ok_ast7 (i : Nat) {r : List (Option eV)} {x0 x1 x2 x3 x4 x5 x6 y : Option eV} {z : Option Nat} (hd : nth (eTab M) i = some (pc, .astore 7, pc')) (hn : pc + 2 = pc') (hp : eNl x6 = true) (k : Ok sh M pc' (x0 :: x1 :: x2 :: x3 :: x4 :: x5 :: x6 :: some (.inr (.inr z)) :: r) st σ Q) : Ok sh M pc (x0 :: x1 :: x2 :: x3 :: x4 :: x5 :: x6 :: y :: r) (.inr (.inr z) :: st) σ Q :=
  og_len fun h => og_astoreO (k := 7) i hd hn (by rw [← h]; simp) (by show Ok sh M pc' (x0 :: x1 :: x2 :: x3 :: x4 :: x5 :: eClr x6 :: some (.inr (.inr z)) :: r) st σ Q; rw [eClr_id hp]; exact k)
theorem ok_lst7 (i : Nat) {r : List (Option eV)} {y2 : Option eV} {x0 x1 x2 x3 x4 x5 x6 y : Option eV} {z : Int} (hd : nth (eTab M) i = some (pc, .lstore 7, pc')) (hn : pc + 2 = pc') (hp : eNl x6 = true) (k : Ok sh M pc' (x0 :: x1 :: x2 :: x3 :: x4 :: x5 :: x6 :: some (vl z) :: none :: r) st σ Q) : Ok sh M pc (x0 :: x1 :: x2 :: x3 :: x4 :: x5 :: x6 :: y :: y2 :: r) (vl z :: st) σ Q :=
  og_len fun h => og_lstore (k := 7) i hd hn (by rw [← h]; simp) (by show Ok sh M pc' (x0 :: x1 :: x2 :: x3 :: x4 :: x5 :: eClr x6 :: some (vl z) :: none :: r) st σ Q; rw [eClr_id hp]; exact k)
theorem ok_inc7 (i : Nat) {r : List (Option eV)} {x0 x1 x2 x3 x4 x5 x6 : Option eV} {n z : Int} (hd : nth (eTab M) i = some (pc, .iinc 7 n, pc')) (hn : pc + 3 = pc') (hp : eNl x6 = true) (hr : rg (z + n)) (k : Ok sh M pc' (x0 :: x1 :: x2 :: x3 :: x4 :: x5 :: x6 :: some (vi (z + n)) :: r) st σ Q) : Ok sh M pc (x0 :: x1 :: x2 :: x3 :: x4 :: x5 :: x6 :: some (vi z) :: r) st σ Q :=
  og_iinc (k := 7) i hd hn rfl hr (by show Ok sh M pc' (x0 :: x1 :: x2 :: x3 :: x4 :: x5 :: eClr x6 :: some (vi (z + n)) :: r) st σ Q; rw [eClr_id hp]; exact k)
theorem ok_ist8 (i : Nat) {r : List (Option eV)} {x0 x1 x2 x3 x4 x5 x6 x7 y : Option eV} {z : Int} (hd : nth (eTab M) i = some (pc, .istore 8, pc')) (hn : pc + 2 = pc') (hp : eNl x7 = true) (k : Ok sh M pc' (x0 :: x1 :: x2 :: x3 :: x4 :: x5 :: x6 :: x7 :: some (vi z) :: r) st σ Q) : Ok sh M pc (x0 :: x1 :: x2 :: x3 :: x4 :: x5 :: x6 :: x7 :: y :: r) (vi z :: st) σ Q :=
  og_len fun h => og_istore (k := 8) i hd hn (by rw [← h]; simp) (by show Ok sh M pc' (x0 :: x1 :: x2 :: x3 :: x4 :: x5 :: x6 :: eClr x7 :: some (vi z) :: r) st σ Q; rw [eClr_id hp]; exact k)
theorem ok_ast8 (i : Nat) {r : List (Option eV)} {x0 x1 x2 x3 x4 x5 x6 x7 y : Option eV} {z : Option Nat} (hd : nth (eTab M) i = some (pc, .astore 8, pc')) (hn : pc + 2 = pc') (hp : eNl x7 = true) (k : Ok sh M pc' (x0 :: x1 :: x2 :: x3 :: x4 :: x5 :: x6 :: x7 :: some (.inr (.inr z)) :: r) st σ Q) : Ok sh M pc (x0 :: x1 :: x2 :: x3 :: x4 :: x5 :: x6 :: x7 :: y :: r) (.inr (.inr z) :: st) σ Q :=
  og_len fun h => og_astoreO (k := 8) i hd hn (by rw [← h]; simp) (by show Ok sh M pc' (x0 :: x1 :: x2 :: x3 :: x4 :: x5 :: x6 :: eClr x7 :: some (.inr (.inr z)) :: r) st σ Q; rw [eClr_id hp]; exact k)
theorem ok_lst8 (i : Nat) {r : List (Option eV)} {y2 : Option eV} {x0 x1 x2 x3 x4 x5 x6 x7 y : Option eV} {z : Int} (hd : nth (eTab M) i = some (pc, .lstore 8, pc')) (hn : pc + 2 = pc') (hp : eNl x7 = true) (k : Ok sh M pc' (x0 :: x1 :: x2 :: x3 :: x4 :: x5 :: x6 :: x7 :: some (vl z) :: none :: r) st σ Q) : Ok sh M pc (x0 :: x1 :: x2 :: x3 :: x4 :: x5 :: x6 :: x7 :: y :: y2 :: r) (vl z :: st) σ Q :=
  og_len fun h => og_lstore (k := 8) i hd hn (by rw [← h]; simp) (by show Ok sh M pc' (x0 :: x1 :: x2 :: x3 :: x4 :: x5 :: x6 :: eClr x7 :: some (vl z) :: none :: r) st σ Q; rw [eClr_id hp]; exact k)
theorem ok_inc8 (i : Nat) {r : List (Option eV)} {x0 x1 x2 x3 x4 x5 x6 x7 : Option eV} {n z : Int} (hd : nth (eTab M) i = some (pc, .iinc 8 n, pc')) (hn : pc + 3 = pc') (hp : eNl x7 = true) (hr : rg (z + n)) (k : Ok sh M pc' (x0 :: x1 :: x2 :: x3 :: x4 :: x5 :: x6 :: x7 :: some (vi (z + n)) :: r) st σ Q) : Ok sh M pc (x0 :: x1 :: x2 :: x3 :: x4 :: x5 :: x6 :: x7 :: some (vi z) :: r) st σ Q :=
  og_iinc (k := 8) i hd hn rfl hr (by show Ok sh M pc' (x0 :: x1 :: x2 :: x3 :: x4 :: x5 :: x6 :: eClr x7 :: some (vi (z + n)) :: r) st σ Q; rw [eClr_id hp]; exact k)
theorem ok_ist9 (i : Nat) {r : List (Option eV)} {x0 x1 x2 x3 x4 x5 x6 x7 x8 y : Option eV} {z : Int} (hd : nth (eTab M) i = some (pc, .istore 9, pc')) (hn : pc + 2 = pc') (hp : eNl x8 = true) (k : Ok sh M pc' (x0 :: x1 :: x2 :: x3 :: x4 :: x5 :: x6 :: x7 :: x8 :: some (vi z) :: r) st σ Q) : Ok sh M pc (x0 :: x1 :: x2 :: x3 :: x4 :: x5 :: x6 :: x7 :: x8 :: y :: r) (vi z :: st) σ Q :=
  og_len fun h => og_istore (k := 9) i hd hn (by rw [← h]; simp) (by show Ok sh M pc' (x0 :: x1 :: x2 :: x3 :: x4 :: x5 :: x6 :: x7 :: eClr x8 :: some (vi z) :: r) st σ Q; rw [eClr_id hp]; exact k)
theorem ok_ast9 (i : Nat) {r : List (Option eV)} {x0 x1 x2 x3 x4 x5 x6 x7 x8 y : Option eV} {z : Option Nat} (hd : nth (eTab M) i = some (pc, .astore 9, pc')) (hn : pc + 2 = pc') (hp : eNl x8 = true) (k : Ok sh M pc' (x0 :: x1 :: x2 :: x3 :: x4 :: x5 :: x6 :: x7 :: x8 :: some (.inr (.inr z)) :: r) st σ Q) : Ok sh M pc (x0 :: x1 :: x2 :: x3 :: x4 :: x5 :: x6 :: x7 :: x8 :: y :: r) (.inr (.inr z) :: st) σ Q :=
  og_len fun h => og_astoreO (k := 9) i hd hn (by rw [← h]; simp) (by show Ok sh M pc' (x0 :: x1 :: x2 :: x3 :: x4 :: x5 :: x6 :: x7 :: eClr x8 :: some (.inr (.inr z)) :: r) st σ Q; rw [eClr_id hp]; exact k)
theorem ok_lst9 (i : Nat) {r : List (Option eV)} {y2 : Option eV} {x0 x1 x2 x3 x4 x5 x6 x7 x8 y : Option eV} {z : Int} (hd : nth (eTab M) i = some (pc, .lstore 9, pc')) (hn : pc + 2 = pc') (hp : eNl x8 = true) (k : Ok sh M pc' (x0 :: x1 :: x2 :: x3 :: x4 :: x5 :: x6 :: x7 :: x8 :: some (vl z) :: none :: r) st σ Q) : Ok sh M pc (x0 :: x1 :: x2 :: x3 :: x4 :: x5 :: x6 :: x7 :: x8 :: y :: y2 :: r) (vl z :: st) σ Q :=
  og_len fun h => og_lstore (k := 9) i hd hn (by rw [← h]; simp) (by show Ok sh M pc' (x0 :: x1 :: x2 :: x3 :: x4 :: x5 :: x6 :: x7 :: eClr x8 :: some (vl z) :: none :: r) st σ Q; rw [eClr_id hp]; exact k)
theorem ok_inc9 (i : Nat) {r : List (Option eV)} {x0 x1 x2 x3 x4 x5 x6 x7 x8 : Option eV} {n z : Int} (hd : nth (eTab M) i = some (pc, .iinc 9 n, pc')) (hn : pc + 3 = pc') (hp : eNl x8 = true) (hr : rg (z + n)) (k : Ok sh M pc' (x0 :: x1 :: x2 :: x3 :: x4 :: x5 :: x6 :: x7 :: x8 :: some (vi (z + n)) :: r) st σ Q) : Ok sh M pc (x0 :: x1 :: x2 :: x3 :: x4 :: x5 :: x6 :: x7 :: x8 :: some (vi z) :: r) st σ Q :=
  og_iinc (k := 9) i hd hn rfl hr (by show Ok sh M pc' (x0 :: x1 :: x2 :: x3 :: x4 :: x5 :: x6 :: x7 :: eClr x8 :: some (vi (z + n)) :: r) st σ Q; rw [eClr_id hp]; exact k)
theorem ok_ist10 (i : Nat) {r : List (Option eV)} {x0 x1 x2 x3 x4 x5 x6 x7 x8 x9 y : Option eV} {z : Int} (hd : nth (eTab M) i = some (pc, .istore 10, pc')) (hn : pc + 2 = pc') (hp : eNl x9 = true) (k : Ok sh M pc' (x0 :: x1 :: x2 :: x3 :: x4 :: x5 :: x6 :: x7 :: x8 :: x9 :: some (vi z) :: r) st σ Q) : Ok sh M pc (x0 :: x1 :: x2 :: x3 :: x4 :: x5 :: x6 :: x7 :: x8 :: x9 :: y :: r) (vi z :: st) σ Q :=
  og_len fun h => og_istore (k := 10) i hd hn (by rw [← h]; simp) (by show Ok sh M pc' (x0 :: x1 :: x2 :: x3 :: x4 :: x5 :: x6 :: x7 :: x8 :: eClr x9 :: some (vi z) :: r) st σ Q; rw [eClr_id hp]; exact k)
theorem ok_ast10 (i : Nat) {r : List (Option eV)} {x0 x1 x2 x3 x4 x5 x6 x7 x8 x9 y : Option eV} {z : Option Nat} (hd : nth (eTab M) i = some (pc, .astore 10, pc')) (hn : pc + 2 = pc') (hp : eNl x9 = true) (k : Ok sh M pc' (x0 :: x1 :: x2 :: x3 :: x4 :: x5 :: x6 :: x7 :: x8 :: x9 :: some (.inr (.inr z)) :: r) st σ Q) : Ok sh M pc (x0 :: x1 :: x2 :: x3 :: x4 :: x5 :: x6 :: x7 :: x8 :: x9 :: y :: r) (.inr (.inr z) :: st) σ Q :=
  og_len fun h => og_astoreO (k := 10) i hd hn (by rw [← h]; simp) (by show Ok sh M pc' (x0 :: x1 :: x2 :: x3 :: x4 :: x5 :: x6 :: x7 :: x8 :: eClr x9 :: some (.inr (.inr z)) :: r) st σ Q; rw [eClr_id hp]; exact k)
theorem ok_lst10 (i : Nat) {r : List (Option eV)} {y2 : Option eV} {x0 x1 x2 x3 x4 x5 x6 x7 x8 x9 y : Option eV} {z : Int} (hd : nth (eTab M) i = some (pc, .lstore 10, pc')) (hn : pc + 2 = pc') (hp : eNl x9 = true) (k : Ok sh M pc' (x0 :: x1 :: x2 :: x3 :: x4 :: x5 :: x6 :: x7 :: x8 :: x9 :: some (vl z) :: none :: r) st σ Q) : Ok sh M pc (x0 :: x1 :: x2 :: x3 :: x4 :: x5 :: x6 :: x7 :: x8 :: x9 :: y :: y2 :: r) (vl z :: st) σ Q :=
  og_len fun h => og_lstore (k := 10) i hd hn (by rw [← h]; simp) (by show Ok sh M pc' (x0 :: x1 :: x2 :: x3 :: x4 :: x5 :: x6 :: x7 :: x8 :: eClr x9 :: some (vl z) :: none :: r) st σ Q; rw [eClr_id hp]; exact k)
theorem ok_inc10 (i : Nat) {r : List (Option eV)} {x0 x1 x2 x3 x4 x5 x6 x7 x8 x9 : Option eV} {n z : Int} (hd : nth (eTab M) i = some (pc, .iinc 10 n, pc')) (hn : pc + 3 = pc') (hp : eNl x9 = true) (hr : rg (z + n)) (k : Ok sh M pc' (x0 :: x1 :: x2 :: x3 :: x4 :: x5 :: x6 :: x7 :: x8 :: x9 :: some (vi (z + n)) :: r) st σ Q) : Ok sh M pc (x0 :: x1 :: x2 :: x3 :: x4 :: x5 :: x6 :: x7 :: x8 :: x9 :: some (vi z) :: r) st σ Q :=
  og_iinc (k := 10) i hd hn rfl hr (by show Ok sh M pc' (x0 :: x1 :: x2 :: x3 :: x4 :: x5 :: x6 :: x7 :: x8 :: eClr x9 :: some (vi (z + n)) :: r) st σ Q; rw [eClr_id hp]; exact k)
theorem ok_ist11 (i : Nat) {r : List (Option eV)} {x0 x1 x2 x3 x4 x5 x6 x7 x8 x9 x10 y : Option eV} {z : Int} (hd : nth (eTab M) i = some (pc, .istore 11, pc')) (hn : pc + 2 = pc') (hp : eNl x10 = true) (k : Ok sh M pc' (x0 :: x1 :: x2 :: x3 :: x4 :: x5 :: x6 :: x7 :: x8 :: x9 :: x10 :: some (vi z) :: r) st σ Q) : Ok sh M pc (x0 :: x1 :: x2 :: x3 :: x4 :: x5 :: x6 :: x7 :: x8 :: x9 :: x10 :: y :: r) (vi z :: st) σ Q :=
  og_len fun h => og_istore (k := 11) i hd hn (by rw [← h]; simp) (by show Ok sh M pc' (x0 :: x1 :: x2 :: x3 :: x4 :: x5 :: x6 :: x7 :: x8 :: x9 :: eClr x10 :: some (vi z) :: r) st σ Q; rw [eClr_id hp]; exact k)
theorem ok_ast11 (i : Nat) {r : List (Option eV)} {x0 x1 x2 x3 x4 x5 x6 x7 x8 x9 x10 y : Option eV} {z : Option Nat} (hd : nth (eTab M) i = some (pc, .astore 11, pc')) (hn : pc + 2 = pc') (hp : eNl x10 = true) (k : Ok sh M pc' (x0 :: x1 :: x2 :: x3 :: x4 :: x5 :: x6 :: x7 :: x8 :: x9 :: x10 :: some (.inr (.inr z)) :: r) st σ Q) : Ok sh M pc (x0 :: x1 :: x2 :: x3 :: x4 :: x5 :: x6 :: x7 :: x8 :: x9 :: x10 :: y :: r) (.inr (.inr z) :: st) σ Q :=
  og_len fun h => og_astoreO (k := 11) i hd hn (by rw [← h]; simp) (by show Ok sh M pc' (x0 :: x1 :: x2 :: x3 :: x4 :: x5 :: x6 :: x7 :: x8 :: x9 :: eClr x10 :: some (.inr (.inr z)) :: r) st σ Q; rw [eClr_id hp]; exact k)
theorem ok_lst11 (i : Nat) {r : List (Option eV)} {y2 : Option eV} {x0 x1 x2 x3 x4 x5 x6 x7 x8 x9 x10 y : Option eV} {z : Int} (hd : nth (eTab M) i = some (pc, .lstore 11, pc')) (hn : pc + 2 = pc') (hp : eNl x10 = true) (k : Ok sh M pc' (x0 :: x1 :: x2 :: x3 :: x4 :: x5 :: x6 :: x7 :: x8 :: x9 :: x10 :: some (vl z) :: none :: r) st σ Q) : Ok sh M pc (x0 :: x1 :: x2 :: x3 :: x4 :: x5 :: x6 :: x7 :: x8 :: x9 :: x10 :: y :: y2 :: r) (vl z :: st) σ Q :=
  og_len fun h => og_lstore (k := 11) i hd hn (by rw [← h]; simp) (by show Ok sh M pc' (x0 :: x1 :: x2 :: x3 :: x4 :: x5 :: x6 :: x7 :: x8 :: x9 :: eClr x10 :: some (vl z) :: none :: r) st σ Q; rw [eClr_id hp]; exact k)
theorem ok_inc11 (i : Nat) {r : List (Option eV)} {x0 x1 x2 x3 x4 x5 x6 x7 x8 x9 x10 : Option eV} {n z : Int} (hd : nth (eTab M) i = some (pc, .iinc 11 n, pc')) (hn : pc + 3 = pc') (hp : eNl x10 = true) (hr : rg (z + n)) (k : Ok sh M pc' (x0 :: x1 :: x2 :: x3 :: x4 :: x5 :: x6 :: x7 :: x8 :: x9 :: x10 :: some (vi (z + n)) :: r) st σ Q) : Ok sh M pc (x0 :: x1 :: x2 :: x3 :: x4 :: x5 :: x6 :: x7 :: x8 :: x9 :: x10 :: some (vi z) :: r) st σ Q :=
  og_iinc (k := 11) i hd hn rfl hr (by show Ok sh M pc' (x0 :: x1 :: x2 :: x3 :: x4 :: x5 :: x6 :: x7 :: x8 :: x9 :: eClr x10 :: some (vi (z + n)) :: r) st σ Q; rw [eClr_id hp]; exact k)
theorem ok_ist12 (i : Nat) {r : List (Option eV)} {x0 x1 x2 x3 x4 x5 x6 x7 x8 x9 x10 x11 y : Option eV} {z : Int} (hd : nth (eTab M) i = some (pc, .istore 12, pc')) (hn : pc + 2 = pc') (hp : eNl x11 = true) (k : Ok sh M pc' (x0 :: x1 :: x2 :: x3 :: x4 :: x5 :: x6 :: x7 :: x8 :: x9 :: x10 :: x11 :: some (vi z) :: r) st σ Q) : Ok sh M pc (x0 :: x1 :: x2 :: x3 :: x4 :: x5 :: x6 :: x7 :: x8 :: x9 :: x10 :: x11 :: y :: r) (vi z :: st) σ Q :=
  og_len fun h => og_istore (k := 12) i hd hn (by rw [← h]; simp) (by show Ok sh M pc' (x0 :: x1 :: x2 :: x3 :: x4 :: x5 :: x6 :: x7 :: x8 :: x9 :: x10 :: eClr x11 :: some (vi z) :: r) st σ Q; rw [eClr_id hp]; exact k)
theorem ok_ast12 (i : Nat) {r : List (Option eV)} {x0 x1 x2 x3 x4 x5 x6 x7 x8 x9 x10 x11 y : Option eV} {z : Option Nat} (hd : nth (eTab M) i = some (pc, .astore 12, pc')) (hn : pc + 2 = pc') (hp : eNl x11 = true) (k : Ok sh M pc' (x0 :: x1 :: x2 :: x3 :: x4 :: x5 :: x6 :: x7 :: x8 :: x9 :: x10 :: x11 :: some (.inr (.inr z)) :: r) st σ Q) : Ok sh M pc (x0 :: x1 :: x2 :: x3 :: x4 :: x5 :: x6 :: x7 :: x8 :: x9 :: x10 :: x11 :: y :: r) (.inr (.inr z) :: st) σ Q :=
  og_len fun h => og_astoreO (k := 12) i hd hn (by rw [← h]; simp) (by show Ok sh M pc' (x0 :: x1 :: x2 :: x3 :: x4 :: x5 :: x6 :: x7 :: x8 :: x9 :: x10 :: eClr x11 :: some (.inr (.inr z)) :: r) st σ Q; rw [eClr_id hp]; exact k)
theorem ok_lst12 (i : Nat) {r : List (Option eV)} {y2 : Option eV} {x0 x1 x2 x3 x4 x5 x6 x7 x8 x9 x10 x11 y : Option eV} {z : Int} (hd : nth (eTab M) i = some (pc, .lstore 12, pc')) (hn : pc + 2 = pc') (hp : eNl x11 = true) (k : Ok sh M pc' (x0 :: x1 :: x2 :: x3 :: x4 :: x5 :: x6 :: x7 :: x8 :: x9 :: x10 :: x11 :: some (vl z) :: none :: r) st σ Q) : Ok sh M pc (x0 :: x1 :: x2 :: x3 :: x4 :: x5 :: x6 :: x7 :: x8 :: x9 :: x10 :: x11 :: y :: y2 :: r) (vl z :: st) σ Q :=
  og_len fun h => og_lstore (k := 12) i hd hn (by rw [← h]; simp) (by show Ok sh M pc' (x0 :: x1 :: x2 :: x3 :: x4 :: x5 :: x6 :: x7 :: x8 :: x9 :: x10 :: eClr x11 :: some (vl z) :: none :: r) st σ Q; rw [eClr_id hp]; exact k)
theorem ok_inc12 (i : Nat) {r : List (Option eV)} {x0 x1 x2 x3 x4 x5 x6 x7 x8 x9 x10 x11 : Option eV} {n z : Int} (hd : nth (eTab M) i = some (pc, .iinc 12 n, pc')) (hn : pc + 3 = pc') (hp : eNl x11 = true) (hr : rg (z + n)) (k : Ok sh M pc' (x0 :: x1 :: x2 :: x3 :: x4 :: x5 :: x6 :: x7 :: x8 :: x9 :: x10 :: x11 :: some (vi (z + n)) :: r) st σ Q) : Ok sh M pc (x0 :: x1 :: x2 :: x3 :: x4 :: x5 :: x6 :: x7 :: x8 :: x9 :: x10 :: x11 :: some (vi z) :: r) st σ Q :=
  og_iinc (k := 12) i hd hn rfl hr (by show Ok sh M pc' (x0 :: x1 :: x2 :: x3 :: x4 :: x5 :: x6 :: x7 :: x8 :: x9 :: x10 :: eClr x11 :: some (vi (z + n)) :: r) st σ Q; rw [eClr_id hp]; exact k)
theorem ok_ist13 (i : Nat) {r : List (Option eV)} {x0 x1 x2 x3 x4 x5 x6 x7 x8 x9 x10 x11 x12 y : Option eV} {z : Int} (hd : nth (eTab M) i = some (pc, .istore 13, pc')) (hn : pc + 2 = pc') (hp : eNl x12 = true) (k : Ok sh M pc' (x0 :: x1 :: x2 :: x3 :: x4 :: x5 :: x6 :: x7 :: x8 :: x9 :: x10 :: x11 :: x12 :: some (vi z) :: r) st σ Q) : Ok sh M pc (x0 :: x1 :: x2 :: x3 :: x4 :: x5 :: x6 :: x7 :: x8 :: x9 :: x10 :: x11 :: x12 :: y :: r) (vi z :: st) σ Q :=
  og_len fun h => og_istore (k := 13) i hd hn (by rw [← h]; simp) (by show Ok sh M pc' (x0 :: x1 :: x2 :: x3 :: x4 :: x5 :: x6 :: x7 :: x8 :: x9 :: x10 :: x11 :: eClr x12 :: some (vi z) :: r) st σ Q; rw [eClr_id hp]; exact k)
theorem ok_ast13 (i : Nat) {r : List (Option eV)} {x0 x1 x2 x3 x4 x5 x6 x7 x8 x9 x10 x11 x12 y : Option eV} {z : Option Nat} (hd : nth (eTab M) i = some (pc, .astore 13, pc')) (hn : pc + 2 = pc') (hp : eNl x12 = true) (k : Ok sh M pc' (x0 :: x1 :: x2 :: x3 :: x4 :: x5 :: x6 :: x7 :: x8 :: x9 :: x10 :: x11 :: x12 :: some (.inr (.inr z)) :: r) st σ Q) : Ok sh M pc (x0 :: x1 :: x2 :: x3 :: x4 :: x5 :: x6 :: x7 :: x8 :: x9 :: x10 :: x11 :: x12 :: y :: r) (.inr (.inr z) :: st) σ Q :=
  og_len fun h => og_astoreO (k := 13) i hd hn (by rw [← h]; simp) (by show Ok sh M pc' (x0 :: x1 :: x2 :: x3 :: x4 :: x5 :: x6 :: x7 :: x8 :: x9 :: x10 :: x11 :: eClr x12 :: some (.inr (.inr z)) :: r) st σ Q; rw [eClr_id hp]; exact k)
theorem ok_lst13 (i : Nat) {r : List (Option eV)} {y2 : Option eV} {x0 x1 x2 x3 x4 x5 x6 x7 x8 x9 x10 x11 x12 y : Option eV} {z : Int} (hd : nth (eTab M) i = some (pc, .lstore 13, pc')) (hn : pc + 2 = pc') (hp : eNl x12 = true) (k : Ok sh M pc' (x0 :: x1 :: x2 :: x3 :: x4 :: x5 :: x6 :: x7 :: x8 :: x9 :: x10 :: x11 :: x12 :: some (vl z) :: none :: r) st σ Q) : Ok sh M pc (x0 :: x1 :: x2 :: x3 :: x4 :: x5 :: x6 :: x7 :: x8 :: x9 :: x10 :: x11 :: x12 :: y :: y2 :: r) (vl z :: st) σ Q :=
  og_len fun h => og_lstore (k := 13) i hd hn (by rw [← h]; simp) (by show Ok sh M pc' (x0 :: x1 :: x2 :: x3 :: x4 :: x5 :: x6 :: x7 :: x8 :: x9 :: x10 :: x11 :: eClr x12 :: some (vl z) :: none :: r) st σ Q; rw [eClr_id hp]; exact k)
theorem ok_inc13 (i : Nat) {r : List (Option eV)} {x0 x1 x2 x3 x4 x5 x6 x7 x8 x9 x10 x11 x12 : Option eV} {n z : Int} (hd : nth (eTab M) i = some (pc, .iinc 13 n, pc')) (hn : pc + 3 = pc') (hp : eNl x12 = true) (hr : rg (z + n)) (k : Ok sh M pc' (x0 :: x1 :: x2 :: x3 :: x4 :: x5 :: x6 :: x7 :: x8 :: x9 :: x10 :: x11 :: x12 :: some (vi (z + n)) :: r) st σ Q) : Ok sh M pc (x0 :: x1 :: x2 :: x3 :: x4 :: x5 :: x6 :: x7 :: x8 :: x9 :: x10 :: x11 :: x12 :: some (vi z) :: r) st σ Q :=
  og_iinc (k := 13) i hd hn rfl hr (by show Ok sh M pc' (x0 :: x1 :: x2 :: x3 :: x4 :: x5 :: x6 :: x7 :: x8 :: x9 :: x10 :: x11 :: eClr x12 :: some (vi (z + n)) :: r) st σ Q; rw [eClr_id hp]; exact k)
theorem ok_ist14 (i : Nat) {r : List (Option eV)} {x0 x1 x2 x3 x4 x5 x6 x7 x8 x9 x10 x11 x12 x13 y : Option eV} {z : Int} (hd : nth (eTab M) i = some (pc, .istore 14, pc')) (hn : pc + 2 = pc') (hp : eNl x13 = true) (k : Ok sh M pc' (x0 :: x1 :: x2 :: x3 :: x4 :: x5 :: x6 :: x7 :: x8 :: x9 :: x10 :: x11 :: x12 :: x13 :: some (vi z) :: r) st σ Q) : Ok sh M pc (x0 :: x1 :: x2 :: x3 :: x4 :: x5 :: x6 :: x7 :: x8 :: x9 :: x10 :: x11 :: x12 :: x13 :: y :: r) (vi z :: st) σ Q :=
  og_len fun h => og_istore (k := 14) i hd hn (by rw [← h]; simp) (by show Ok sh M pc' (x0 :: x1 :: x2 :: x3 :: x4 :: x5 :: x6 :: x7 :: x8 :: x9 :: x10 :: x11 :: x12 :: eClr x13 :: some (vi z) :: r) st σ Q; rw [eClr_id hp]; exact k)
theorem ok_ast14 (i : Nat) {r : List (Option eV)} {x0 x1 x2 x3 x4 x5 x6 x7 x8 x9 x10 x11 x12 x13 y : Option eV} {z : Option Nat} (hd : nth (eTab M) i = some (pc, .astore 14, pc')) (hn : pc + 2 = pc') (hp : eNl x13 = true) (k : Ok sh M pc' (x0 :: x1 :: x2 :: x3 :: x4 :: x5 :: x6 :: x7 :: x8 :: x9 :: x10 :: x11 :: x12 :: x13 :: some (.inr (.inr z)) :: r) st σ Q) : Ok sh M pc (x0 :: x1 :: x2 :: x3 :: x4 :: x5 :: x6 :: x7 :: x8 :: x9 :: x10 :: x11 :: x12 :: x13 :: y :: r) (.inr (.inr z) :: st) σ Q :=
  og_len fun h => og_astoreO (k := 14) i hd hn (by rw [← h]; simp) (by show Ok sh M pc' (x0 :: x1 :: x2 :: x3 :: x4 :: x5 :: x6 :: x7 :: x8 :: x9 :: x10 :: x11 :: x12 :: eClr x13 :: some (.inr (.inr z)) :: r) st σ Q; rw [eClr_id hp]; exact k)
theorem ok_lst14 (i : Nat) {r : List (Option eV)} {y2 : Option eV} {x0 x1 x2 x3 x4 x5 x6 x7 x8 x9 x10 x11 x12 x13 y : Option eV} {z : Int} (hd : nth (eTab M) i = some (pc, .lstore 14, pc')) (hn : pc + 2 = pc') (hp : eNl x13 = true) (k : Ok sh M pc' (x0 :: x1 :: x2 :: x3 :: x4 :: x5 :: x6 :: x7 :: x8 :: x9 :: x10 :: x11 :: x12 :: x13 :: some (vl z) :: none :: r) st σ Q) : Ok sh M pc (x0 :: x1 :: x2 :: x3 :: x4 :: x5 :: x6 :: x7 :: x8 :: x9 :: x10 :: x11 :: x12 :: x13 :: y :: y2 :: r) (vl z :: st) σ Q :=
  og_len fun h => og_lstore (k := 14) i hd hn (by rw [← h]; simp) (by show Ok sh M pc' (x0 :: x1 :: x2 :: x3 :: x4 :: x5 :: x6 :: x7 :: x8 :: x9 :: x10 :: x11 :: x12 :: eClr x13 :: some (vl z) :: none :: r) st σ Q; rw [eClr_id hp]; exact k)
theorem ok_inc14 (i : Nat) {r : List (Option eV)} {x0 x1 x2 x3 x4 x5 x6 x7 x8 x9 x10 x11 x12 x13 : Option eV} {n z : Int} (hd : nth (eTab M) i = some (pc, .iinc 14 n, pc')) (hn : pc + 3 = pc') (hp : eNl x13 = true) (hr : rg (z + n)) (k : Ok sh M pc' (x0 :: x1 :: x2 :: x3 :: x4 :: x5 :: x6 :: x7 :: x8 :: x9 :: x10 :: x11 :: x12 :: x13 :: some (vi (z + n)) :: r) st σ Q) : Ok sh M pc (x0 :: x1 :: x2 :: x3 :: x4 :: x5 :: x6 :: x7 :: x8 :: x9 :: x10 :: x11 :: x12 :: x13 :: some (vi z) :: r) st σ Q :=
  og_iinc (k := 14) i hd hn rfl hr (by show Ok sh M pc' (x0 :: x1 :: x2 :: x3 :: x4 :: x5 :: x6 :: x7 :: x8 :: x9 :: x10 :: x11 :: x12 :: eClr x13 :: some (vi (z + n)) :: r) st σ Q; rw [eClr_id hp]; exact k)
theorem ok_ist15 (i : Nat) {r : List (Option eV)} {x0 x1 x2 x3 x4 x5 x6 x7 x8 x9 x10 x11 x12 x13 x14 y : Option eV} {z : Int} (hd : nth (eTab M) i = some (pc, .istore 15, pc')) (hn : pc + 2 = pc') (hp : eNl x14 = true) (k : Ok sh M pc' (x0 :: x1 :: x2 :: x3 :: x4 :: x5 :: x6 :: x7 :: x8 :: x9 :: x10 :: x11 :: x12 :: x13 :: x14 :: some (vi z) :: r) st σ Q) : Ok sh M pc (x0 :: x1 :: x2 :: x3 :: x4 :: x5 :: x6 :: x7 :: x8 :: x9 :: x10 :: x11 :: x12 :: x13 :: x14 :: y :: r) (vi z :: st) σ Q :=
  og_len fun h => og_istore (k := 15) i hd hn (by rw [← h]; simp) (by show Ok sh M pc' (x0 :: x1 :: x2 :: x3 :: x4 :: x5 :: x6 :: x7 :: x8 :: x9 :: x10 :: x11 :: x12 :: x13 :: eClr x14 :: some (vi z) :: r) st σ Q; rw [eClr_id hp]; exact k)
theorem ok_ast15 (i : Nat) {r : List (Option eV)} {x0 x1 x2 x3 x4 x5 x6 x7 x8 x9 x10 x11 x12 x13 x14 y : Option eV} {z : Option Nat} (hd : nth (eTab M) i = some (pc, .astore 15, pc')) (hn : pc + 2 = pc') (hp : eNl x14 = true) (k : Ok sh M pc' (x0 :: x1 :: x2 :: x3 :: x4 :: x5 :: x6 :: x7 :: x8 :: x9 :: x10 :: x11 :: x12 :: x13 :: x14 :: some (.inr (.inr z)) :: r) st σ Q) : Ok sh M pc (x0 :: x1 :: x2 :: x3 :: x4 :: x5 :: x6 :: x7 :: x8 :: x9 :: x10 :: x11 :: x12 :: x13 :: x14 :: y :: r) (.inr (.inr z) :: st) σ Q :=
  og_len fun h => og_astoreO (k := 15) i hd hn (by rw [← h]; simp) (by show Ok sh M pc' (x0 :: x1 :: x2 :: x3 :: x4 :: x5 :: x6 :: x7 :: x8 :: x9 :: x10 :: x11 :: x12 :: x13 :: eClr x14 :: some (.inr (.inr z)) :: r) st σ Q; rw [eClr_id hp]; exact k)
theorem ok_lst15 (i : Nat) {r : List (Option eV)} {y2 : Option eV} {x0 x1 x2 x3 x4 x5 x6 x7 x8 x9 x10 x11 x12 x13 x14 y : Option eV} {z : Int} (hd : nth (eTab M) i = some (pc, .lstore 15, pc')) (hn : pc + 2 = pc') (hp : eNl x14 = true) (k : Ok sh M pc' (x0 :: x1 :: x2 :: x3 :: x4 :: x5 :: x6 :: x7 :: x8 :: x9 :: x10 :: x11 :: x12 :: x13 :: x14 :: some (vl z) :: none :: r) st σ Q) : Ok sh M pc (x0 :: x1 :: x2 :: x3 :: x4 :: x5 :: x6 :: x7 :: x8 :: x9 :: x10 :: x11 :: x12 :: x13 :: x14 :: y :: y2 :: r) (vl z :: st) σ Q :=
  og_len fun h => og_lstore (k := 15) i hd hn (by rw [← h]; simp) (by show Ok sh M pc' (x0 :: x1 :: x2 :: x3 :: x4 :: x5 :: x6 :: x7 :: x8 :: x9 :: x10 :: x11 :: x12 :: x13 :: eClr x14 :: some (vl z) :: none :: r) st σ Q; rw [eClr_id hp]; exact k)
theorem ok_inc15 (i : Nat) {r : List (Option eV)} {x0 x1 x2 x3 x4 x5 x6 x7 x8 x9 x10 x11 x12 x13 x14 : Option eV} {n z : Int} (hd : nth (eTab M) i = some (pc, .iinc 15 n, pc')) (hn : pc + 3 = pc') (hp : eNl x14 = true) (hr : rg (z + n)) (k : Ok sh M pc' (x0 :: x1 :: x2 :: x3 :: x4 :: x5 :: x6 :: x7 :: x8 :: x9 :: x10 :: x11 :: x12 :: x13 :: x14 :: some (vi (z + n)) :: r) st σ Q) : Ok sh M pc (x0 :: x1 :: x2 :: x3 :: x4 :: x5 :: x6 :: x7 :: x8 :: x9 :: x10 :: x11 :: x12 :: x13 :: x14 :: some (vi z) :: r) st σ Q :=
  og_iinc (k := 15) i hd hn rfl hr (by show Ok sh M pc' (x0 :: x1 :: x2 :: x3 :: x4 :: x5 :: x6 :: x7 :: x8 :: x9 :: x10 :: x11 :: x12 :: x13 :: eClr x14 :: some (vi (z + n)) :: r) st σ Q; rw [eClr_id hp]; exact k)
theorem ok_ist16 (i : Nat) {r : List (Option eV)} {x0 x1 x2 x3 x4 x5 x6 x7 x8 x9 x10 x11 x12 x13 x14 x15 y : Option eV} {z : Int} (hd : nth (eTab M) i = some (pc, .istore 16, pc')) (hn : pc + 2 = pc') (hp : eNl x15 = true) (k : Ok sh M pc' (x0 :: x1 :: x2 :: x3 :: x4 :: x5 :: x6 :: x7 :: x8 :: x9 :: x10 :: x11 :: x12 :: x13 :: x14 :: x15 :: some (vi z) :: r) st σ Q) : Ok sh M pc (x0 :: x1 :: x2 :: x3 :: x4 :: x5 :: x6 :: x7 :: x8 :: x9 :: x10 :: x11 :: x12 :: x13 :: x14 :: x15 :: y :: r) (vi z :: st) σ Q :=
  og_len fun h => og_istore (k := 16) i hd hn (by rw [← h]; simp) (by show Ok sh M pc' (x0 :: x1 :: x2 :: x3 :: x4 :: x5 :: x6 :: x7 :: x8 :: x9 :: x10 :: x11 :: x12 :: x13 :: x14 :: eClr x15 :: some (vi z) :: r) st σ Q; rw [eClr_id hp]; exact k)
theorem ok_ast16 (i : Nat) {r : List (Option eV)} {x0 x1 x2 x3 x4 x5 x6 x7 x8 x9 x10 x11 x12 x13 x14 x15 y : Option eV} {z : Option Nat} (hd : nth (eTab M) i = some (pc, .astore 16, pc')) (hn : pc + 2 = pc') (hp : eNl x15 = true) (k : Ok sh M pc' (x0 :: x1 :: x2 :: x3 :: x4 :: x5 :: x6 :: x7 :: x8 :: x9 :: x10 :: x11 :: x12 :: x13 :: x14 :: x15 :: some (.inr (.inr z)) :: r) st σ Q) : Ok sh M pc (x0 :: x1 :: x2 :: x3 :: x4 :: x5 :: x6 :: x7 :: x8 :: x9 :: x10 :: x11 :: x12 :: x13 :: x14 :: x15 :: y :: r) (.inr (.inr z) :: st) σ Q :=
  og_len fun h => og_astoreO (k := 16) i hd hn (by rw [← h]; simp) (by show Ok sh M pc' (x0 :: x1 :: x2 :: x3 :: x4 :: x5 :: x6 :: x7 :: x8 :: x9 :: x10 :: x11 :: x12 :: x13 :: x14 :: eClr x15 :: some (.inr (.inr z)) :: r) st σ Q; rw [eClr_id hp]; exact k)
theorem ok_lst16 (i : Nat) {r : List (Option eV)} {y2 : Option eV} {x0 x1 x2 x3 x4 x5 x6 x7 x8 x9 x10 x11 x12 x13 x14 x15 y : Option eV} {z : Int} (hd : nth (eTab M) i = some (pc, .lstore 16, pc')) (hn : pc + 2 = pc') (hp : eNl x15 = true) (k : Ok sh M pc' (x0 :: x1 :: x2 :: x3 :: x4 :: x5 :: x6 :: x7 :: x8 :: x9 :: x10 :: x11 :: x12 :: x13 :: x14 :: x15 :: some (vl z) :: none :: r) st σ Q) : Ok sh M pc (x0 :: x1 :: x2 :: x3 :: x4 :: x5 :: x6 :: x7 :: x8 :: x9 :: x10 :: x11 :: x12 :: x13 :: x14 :: x15 :: y :: y2 :: r) (vl z :: st) σ Q :=
  og_len fun h => og_lstore (k := 16) i hd hn (by rw [← h]; simp) (by show Ok sh M pc' (x0 :: x1 :: x2 :: x3 :: x4 :: x5 :: x6 :: x7 :: x8 :: x9 :: x10 :: x11 :: x12 :: x13 :: x14 :: eClr x15 :: some (vl z) :: none :: r) st σ Q; rw [eClr_id hp]; exact k)
theorem ok_inc16 (i : Nat) {r : List (Option eV)} {x0 x1 x2 x3 x4 x5 x6 x7 x8 x9 x10 x11 x12 x13 x14 x15 : Option eV} {n z : Int} (hd : nth (eTab M) i = some (pc, .iinc 16 n, pc')) (hn : pc + 3 = pc') (hp : eNl x15 = true) (hr : rg (z + n)) (k : Ok sh M pc' (x0 :: x1 :: x2 :: x3 :: x4 :: x5 :: x6 :: x7 :: x8 :: x9 :: x10 :: x11 :: x12 :: x13 :: x14 :: x15 :: some (vi (z + n)) :: r) st σ Q) : Ok sh M pc (x0 :: x1 :: x2 :: x3 :: x4 :: x5 :: x6 :: x7 :: x8 :: x9 :: x10 :: x11 :: x12 :: x13 :: x14 :: x15 :: some (vi z) :: r) st σ Q :=
  og_iinc (k := 16) i hd hn rfl hr (by show Ok sh M pc' (x0 :: x1 :: x2 :: x3 :: x4 :: x5 :: x6 :: x7 :: x8 :: x9 :: x10 :: x11 :: x12 :: x13 :: x14 :: eClr x15 :: some (vi (z + n)) :: r) st σ Q; rw [eClr_id hp]; exact k)
theorem ok_ist17 (i : Nat) {r : List (Option eV)} {x0 x1 x2 x3 x4 x5 x6 x7 x8 x9 x10 x11 x12 x13 x14 x15 x16 y : Option eV} {z : Int} (hd : nth (eTab M) i = some (pc, .istore 17, pc')) (hn : pc + 2 = pc') (hp : eNl x16 = true) (k : Ok sh M pc' (x0 :: x1 :: x2 :: x3 :: x4 :: x5 :: x6 :: x7 :: x8 :: x9 :: x10 :: x11 :: x12 :: x13 :: x14 :: x15 :: x16 :: some (vi z) :: r) st σ Q) : Ok sh M pc (x0 :: x1 :: x2 :: x3 :: x4 :: x5 :: x6 :: x7 :: x8 :: x9 :: x10 :: x11 :: x12 :: x13 :: x14 :: x15 :: x16 :: y :: r) (vi z :: st) σ Q :=
  og_len fun h => og_istore (k := 17) i hd hn (by rw [← h]; simp) (by show Ok sh M pc' (x0 :: x1 :: x2 :: x3 :: x4 :: x5 :: x6 :: x7 :: x8 :: x9 :: x10 :: x11 :: x12 :: x13 :: x14 :: x15 :: eClr x16 :: some (vi z) :: r) st σ Q; rw [eClr_id hp]; exact k)
theorem ok_ast17 (i : Nat) {r : List (Option eV)} {x0 x1 x2 x3 x4 x5 x6 x7 x8 x9 x10 x11 x12 x13 x14 x15 x16 y : Option eV} {z : Option Nat} (hd : nth (eTab M) i = some (pc, .astore 17, pc')) (hn : pc + 2 = pc') (hp : eNl x16 = true) (k : Ok sh M pc' (x0 :: x1 :: x2 :: x3 :: x4 :: x5 :: x6 :: x7 :: x8 :: x9 :: x10 :: x11 :: x12 :: x13 :: x14 :: x15 :: x16 :: some (.inr (.inr z)) :: r) st σ Q) : Ok sh M pc (x0 :: x1 :: x2 :: x3 :: x4 :: x5 :: x6 :: x7 :: x8 :: x9 :: x10 :: x11 :: x12 :: x13 :: x14 :: x15 :: x16 :: y :: r) (.inr (.inr z) :: st) σ Q :=
  og_len fun h => og_astoreO (k := 17) i hd hn (by rw [← h]; simp) (by show Ok sh M pc' (x0 :: x1 :: x2 :: x3 :: x4 :: x5 :: x6 :: x7 :: x8 :: x9 :: x10 :: x11 :: x12 :: x13 :: x14 :: x15 :: eClr x16 :: some (.inr (.inr z)) :: r) st σ Q; rw [eClr_id hp]; exact k)
theorem ok_lst17 (i : Nat) {r : List (Option eV)} {y2 : Option eV} {x0 x1 x2 x3 x4 x5 x6 x7 x8 x9 x10 x11 x12 x13 x14 x15 x16 y : Option eV} {z : Int} (hd : nth (eTab M) i = some (pc, .lstore 17, pc')) (hn : pc + 2 = pc') (hp : eNl x16 = true) (k : Ok sh M pc' (x0 :: x1 :: x2 :: x3 :: x4 :: x5 :: x6 :: x7 :: x8 :: x9 :: x10 :: x11 :: x12 :: x13 :: x14 :: x15 :: x16 :: some (vl z) :: none :: r) st σ Q) : Ok sh M pc (x0 :: x1 :: x2 :: x3 :: x4 :: x5 :: x6 :: x7 :: x8 :: x9 :: x10 :: x11 :: x12 :: x13 :: x14 :: x15 :: x16 :: y :: y2 :: r) (vl z :: st) σ Q :=
  og_len fun h => og_lstore (k := 17) i hd hn (by rw [← h]; simp) (by show Ok sh M pc' (x0 :: x1 :: x2 :: x3 :: x4 :: x5 :: x6 :: x7 :: x8 :: x9 :: x10 :: x11 :: x12 :: x13 :: x14 :: x15 :: eClr x16 :: some (vl z) :: none :: r) st σ Q; rw [eClr_id hp]; exact k)
theorem ok_inc17 (i : Nat) {r : List (Option eV)} {x0 x1 x2 x3 x4 x5 x6 x7 x8 x9 x10 x11 x12 x13 x14 x15 x16 : Option eV} {n z : Int} (hd : nth (eTab M) i = some (pc, .iinc 17 n, pc')) (hn : pc + 3 = pc') (hp : eNl x16 = true) (hr : rg (z + n)) (k : Ok sh M pc' (x0 :: x1 :: x2 :: x3 :: x4 :: x5 :: x6 :: x7 :: x8 :: x9 :: x10 :: x11 :: x12 :: x13 :: x14 :: x15 :: x16 :: some (vi (z + n)) :: r) st σ Q) : Ok sh M pc (x0 :: x1 :: x2 :: x3 :: x4 :: x5 :: x6 :: x7 :: x8 :: x9 :: x10 :: x11 :: x12 :: x13 :: x14 :: x15 :: x16 :: some (vi z) :: r) st σ Q :=
  og_iinc (k := 17) i hd hn rfl hr (by show Ok sh M pc' (x0 :: x1 :: x2 :: x3 :: x4 :: x5 :: x6 :: x7 :: x8 :: x9 :: x10 :: x11 :: x12 :: x13 :: x14 :: x15 :: eClr x16 :: some (vi (z + n)) :: r) st σ Q; rw [eClr_id hp]; exact k)
theorem ok_lcmp_eq (i i2 : Nat) {off : Int} {p1 : Nat} {a b : Int} (tgt : Nat) (hd1 : nth (eTab M) i = some (pc, .lcmp, p1)) (hd : nth (eTab M) i2 = some (p1, .ifCond .eq off, pc')) (hn1 : pc + 1 = p1) (hn : p1 + 3 = pc') (ht : (p1 : Int) + off = (tgt : Int)) (kt : a = b → Ok sh M tgt ls st σ Q) (kf : ¬ a = b → Ok sh M pc' ls st σ Q) : Ok sh M pc ls (vl b :: vl a :: st) σ Q := by
  intro l p e s m args below meth c D dA ad H locs la C hH hL hS
  obtain ⟨hb, ha, hs⟩ := hS
  refine W.lcmp C.2.1 C.2.2.1 (C.1.dec hd1 hn1) ?_
  rw [hn1]
  have e1 := lg_cmp_eq (Int64.ofInt a) (Int64.ofInt b)
  have e2 := lg_cmp_lt (Int64.ofInt a) (Int64.ofInt b)
  have e3 := lg_cmp_le (Int64.ofInt a) (Int64.ofInt b)
  have e4 := lg_cmp_gt (Int64.ofInt a) (Int64.ofInt b)
  have e5 := lg_cmp_ge (Int64.ofInt a) (Int64.ofInt b)
  have g1 := rl_eq ha hb
  have g2 := rl_lt ha hb
  have g3 := rl_lt hb ha
  have g4 : Int64.ofInt a ≤ Int64.ofInt b ↔ a ≤ b := by rw [Int64.le_iff_toInt_le, rl_in ha, rl_in hb]
  have g5 : Int64.ofInt b ≤ Int64.ofInt a ↔ b ≤ a := by rw [Int64.le_iff_toInt_le, rl_in ha, rl_in hb]
  refine lv_if_eq C.2.1 C.2.2.1 (C.1.dec hd hn) ht (fun h => Ok.go (kt ?_) C hH hL hs rfl rfl) (fun h => Ok.go (kf ?_) C hH hL hs hn rfl)
  · simp only [e1, e2, e3, e4, e5, g1, g2, g3, g4, g5] at h
    omega
  · simp only [e1, e2, e3, e4, e5, g1, g2, g3, g4, g5] at h
    omega
theorem ok_lcmp_ne (i i2 : Nat) {off : Int} {p1 : Nat} {a b : Int} (tgt : Nat) (hd1 : nth (eTab M) i = some (pc, .lcmp, p1)) (hd : nth (eTab M) i2 = some (p1, .ifCond .ne off, pc')) (hn1 : pc + 1 = p1) (hn : p1 + 3 = pc') (ht : (p1 : Int) + off = (tgt : Int)) (kt : ¬ a = b → Ok sh M tgt ls st σ Q) (kf : a = b → Ok sh M pc' ls st σ Q) : Ok sh M pc ls (vl b :: vl a :: st) σ Q := by
  intro l p e s m args below meth c D dA ad H locs la C hH hL hS
  obtain ⟨hb, ha, hs⟩ := hS
  refine W.lcmp C.2.1 C.2.2.1 (C.1.dec hd1 hn1) ?_
  rw [hn1]
  have e1 := lg_cmp_eq (Int64.ofInt a) (Int64.ofInt b)
  have e2 := lg_cmp_lt (Int64.ofInt a) (Int64.ofInt b)
  have e3 := lg_cmp_le (Int64.ofInt a) (Int64.ofInt b)
  have e4 := lg_cmp_gt (Int64.ofInt a) (Int64.ofInt b)
  have e5 := lg_cmp_ge (Int64.ofInt a) (Int64.ofInt b)
  have g1 := rl_eq ha hb
  have g2 := rl_lt ha hb
  have g3 := rl_lt hb ha
  have g4 : Int64.ofInt a ≤ Int64.ofInt b ↔ a ≤ b := by rw [Int64.le_iff_toInt_le, rl_in ha, rl_in hb]
  have g5 : Int64.ofInt b ≤ Int64.ofInt a ↔ b ≤ a := by rw [Int64.le_iff_toInt_le, rl_in ha, rl_in hb]
  refine lv_if_ne C.2.1 C.2.2.1 (C.1.dec hd hn) ht (fun h => Ok.go (kt ?_) C hH hL hs rfl rfl) (fun h => Ok.go (kf ?_) C hH hL hs hn rfl)
  · simp only [e1, e2, e3, e4, e5, g1, g2, g3, g4, g5] at h
    omega
  · simp only [e1, e2, e3, e4, e5, g1, g2, g3, g4, g5] at h
    omega
theorem ok_lcmp_lt (i i2 : Nat) {off : Int} {p1 : Nat} {a b : Int} (tgt : Nat) (hd1 : nth (eTab M) i = some (pc, .lcmp, p1)) (hd : nth (eTab M) i2 = some (p1, .ifCond .lt off, pc')) (hn1 : pc + 1 = p1) (hn : p1 + 3 = pc') (ht : (p1 : Int) + off = (tgt : Int)) (kt : a < b → Ok sh M tgt ls st σ Q) (kf : b ≤ a → Ok sh M pc' ls st σ Q) : Ok sh M pc ls (vl b :: vl a :: st) σ Q := by
  intro l p e s m args below meth c D dA ad H locs la C hH hL hS
  obtain ⟨hb, ha, hs⟩ := hS
  refine W.lcmp C.2.1 C.2.2.1 (C.1.dec hd1 hn1) ?_
  rw [hn1]
  have e1 := lg_cmp_eq (Int64.ofInt a) (Int64.ofInt b)
  have e2 := lg_cmp_lt (Int64.ofInt a) (Int64.ofInt b)
  have e3 := lg_cmp_le (Int64.ofInt a) (Int64.ofInt b)
  have e4 := lg_cmp_gt (Int64.ofInt a) (Int64.ofInt b)
  have e5 := lg_cmp_ge (Int64.ofInt a) (Int64.ofInt b)
  have g1 := rl_eq ha hb
  have g2 := rl_lt ha hb
  have g3 := rl_lt hb ha
  have g4 : Int64.ofInt a ≤ Int64.ofInt b ↔ a ≤ b := by rw [Int64.le_iff_toInt_le, rl_in ha, rl_in hb]
  have g5 : Int64.ofInt b ≤ Int64.ofInt a ↔ b ≤ a := by rw [Int64.le_iff_toInt_le, rl_in ha, rl_in hb]
  refine lv_if_lt C.2.1 C.2.2.1 (C.1.dec hd hn) ht (fun h => Ok.go (kt ?_) C hH hL hs rfl rfl) (fun h => Ok.go (kf ?_) C hH hL hs hn rfl)
  · simp only [e1, e2, e3, e4, e5, g1, g2, g3, g4, g5] at h
    omega
  · simp only [e1, e2, e3, e4, e5, g1, g2, g3, g4, g5] at h
    omega
theorem ok_lcmp_ge (i i2 : Nat) {off : Int} {p1 : Nat} {a b : Int} (tgt : Nat) (hd1 : nth (eTab M) i = some (pc, .lcmp, p1)) (hd : nth (eTab M) i2 = some (p1, .ifCond .ge off, pc')) (hn1 : pc + 1 = p1) (hn : p1 + 3 = pc') (ht : (p1 : Int) + off = (tgt : Int)) (kt : b ≤ a → Ok sh M tgt ls st σ Q) (kf : a < b → Ok sh M pc' ls st σ Q) : Ok sh M pc ls (vl b :: vl a :: st) σ Q := by
  intro l p e s m args below meth c D dA ad H locs la C hH hL hS
  obtain ⟨hb, ha, hs⟩ := hS
  refine W.lcmp C.2.1 C.2.2.1 (C.1.dec hd1 hn1) ?_
  rw [hn1]
  have e1 := lg_cmp_eq (Int64.ofInt a) (Int64.ofInt b)
  have e2 := lg_cmp_lt (Int64.ofInt a) (Int64.ofInt b)
  have e3 := lg_cmp_le (Int64.ofInt a) (Int64.ofInt b)
  have e4 := lg_cmp_gt (Int64.ofInt a) (Int64.ofInt b)
  have e5 := lg_cmp_ge (Int64.ofInt a) (Int64.ofInt b)
  have g1 := rl_eq ha hb
  have g2 := rl_lt ha hb
  have g3 := rl_lt hb ha
  have g4 : Int64.ofInt a ≤ Int64.ofInt b ↔ a ≤ b := by rw [Int64.le_iff_toInt_le, rl_in ha, rl_in hb]
  have g5 : Int64.ofInt b ≤ Int64.ofInt a ↔ b ≤ a := by rw [Int64.le_iff_toInt_le, rl_in ha, rl_in hb]
  refine lv_if_ge C.2.1 C.2.2.1 (C.1.dec hd hn) ht (fun h => Ok.go (kt ?_) C hH hL hs rfl rfl) (fun h => Ok.go (kf ?_) C hH hL hs hn rfl)
  · simp only [e1, e2, e3, e4, e5, g1, g2, g3, g4, g5] at h
    omega
  · simp only [e1, e2, e3, e4, e5, g1, g2, g3, g4, g5] at h
    omega
theorem ok_lcmp_gt (i i2 : Nat) {off : Int} {p1 : Nat} {a b : Int} (tgt : Nat) (hd1 : nth (eTab M) i = some (pc, .lcmp, p1)) (hd : nth (eTab M) i2 = some (p1, .ifCond .gt off, pc')) (hn1 : pc + 1 = p1) (hn : p1 + 3 = pc') (ht : (p1 : Int) + off = (tgt : Int)) (kt : b < a → Ok sh M tgt ls st σ Q) (kf : a ≤ b → Ok sh M pc' ls st σ Q) : Ok sh M pc ls (vl b :: vl a :: st) σ Q := by
  intro l p e s m args below meth c D dA ad H locs la C hH hL hS
  obtain ⟨hb, ha, hs⟩ := hS
  refine W.lcmp C.2.1 C.2.2.1 (C.1.dec hd1 hn1) ?_
  rw [hn1]
  have e1 := lg_cmp_eq (Int64.ofInt a) (Int64.ofInt b)
  have e2 := lg_cmp_lt (Int64.ofInt a) (Int64.ofInt b)
  have e3 := lg_cmp_le (Int64.ofInt a) (Int64.ofInt b)
  have e4 := lg_cmp_gt (Int64.ofInt a) (Int64.ofInt b)
  have e5 := lg_cmp_ge (Int64.ofInt a) (Int64.ofInt b)
  have g1 := rl_eq ha hb
  have g2 := rl_lt ha hb
  have g3 := rl_lt hb ha
  have g4 : Int64.ofInt a ≤ Int64.ofInt b ↔ a ≤ b := by rw [Int64.le_iff_toInt_le, rl_in ha, rl_in hb]
  have g5 : Int64.ofInt b ≤ Int64.ofInt a ↔ b ≤ a := by rw [Int64.le_iff_toInt_le, rl_in ha, rl_in hb]
  refine lv_if_gt C.2.1 C.2.2.1 (C.1.dec hd hn) ht (fun h => Ok.go (kt ?_) C hH hL hs rfl rfl) (fun h => Ok.go (kf ?_) C hH hL hs hn rfl)
  · simp only [e1, e2, e3, e4, e5, g1, g2, g3, g4, g5] at h
    omega
  · simp only [e1, e2, e3, e4, e5, g1, g2, g3, g4, g5] at h
    omega
theorem ok_lcmp_le (i i2 : Nat) {off : Int} {p1 : Nat} {a b : Int} (tgt : Nat) (hd1 : nth (eTab M) i = some (pc, .lcmp, p1)) (hd : nth (eTab M) i2 = some (p1, .ifCond .le off, pc')) (hn1 : pc + 1 = p1) (hn : p1 + 3 = pc') (ht : (p1 : Int) + off = (tgt : Int)) (kt : a ≤ b → Ok sh M tgt ls st σ Q) (kf : b < a → Ok sh M pc' ls st σ Q) : Ok sh M pc ls (vl b :: vl a :: st) σ Q := by
  intro l p e s m args below meth c D dA ad H locs la C hH hL hS
  obtain ⟨hb, ha, hs⟩ := hS
  refine W.lcmp C.2.1 C.2.2.1 (C.1.dec hd1 hn1) ?_
  rw [hn1]
  have e1 := lg_cmp_eq (Int64.ofInt a) (Int64.ofInt b)
  have e2 := lg_cmp_lt (Int64.ofInt a) (Int64.ofInt b)
  have e3 := lg_cmp_le (Int64.ofInt a) (Int64.ofInt b)
  have e4 := lg_cmp_gt (Int64.ofInt a) (Int64.ofInt b)
  have e5 := lg_cmp_ge (Int64.ofInt a) (Int64.ofInt b)
  have g1 := rl_eq ha hb
  have g2 := rl_lt ha hb
  have g3 := rl_lt hb ha
  have g4 : Int64.ofInt a ≤ Int64.ofInt b ↔ a ≤ b := by rw [Int64.le_iff_toInt_le, rl_in ha, rl_in hb]
  have g5 : Int64.ofInt b ≤ Int64.ofInt a ↔ b ≤ a := by rw [Int64.le_iff_toInt_le, rl_in ha, rl_in hb]
  refine lv_if_le C.2.1 C.2.2.1 (C.1.dec hd hn) ht (fun h => Ok.go (kt ?_) C hH hL hs rfl rfl) (fun h => Ok.go (kf ?_) C hH hL hs hn rfl)
  · simp only [e1, e2, e3, e4, e5, g1, g2, g3, g4, g5] at h
    omega
  · simp only [e1, e2, e3, e4, e5, g1, g2, g3, g4, g5] at h
    omega
theorem ok_ifnull (i : Nat) {c0 : Nat} {off : Int} (hd : nth (eTab M) i = some (pc, .ifnull off, pc')) (hn : pc + 3 = pc') (k : Ok sh M pc' ls st σ Q) : Ok sh M pc ls (vr c0 :: st) σ Q := by
  intro l p e s m args below meth c D dA ad H locs la C hH hL hS
  exact lv_ifnull C.2.1 C.2.2.1 (C.1.dec hd hn) (Ok.go k C hH hL hS.2 hn rfl)
theorem ok_ifnullN (i : Nat) {off : Int} (tgt : Nat) (hd : nth (eTab M) i = some (pc, .ifnull off, pc')) (hn : pc + 3 = pc') (ht : (pc : Int) + off = (tgt : Int)) (k : Ok sh M tgt ls st σ Q) : Ok sh M pc ls (vn :: st) σ Q := by
  intro l p e s m args below meth c D dA ad H locs la C hH hL hS
  exact lv_ifnullN C.2.1 C.2.2.1 (C.1.dec hd hn) ht (Ok.go k C hH hL hS.2 rfl rfl)
theorem ok_ifnonnull (i : Nat) {c0 : Nat} {off : Int} (tgt : Nat) (hd : nth (eTab M) i = some (pc, .ifnonnull off, pc')) (hn : pc + 3 = pc') (ht : (pc : Int) + off = (tgt : Int)) (k : Ok sh M tgt ls st σ Q) : Ok sh M pc ls (vr c0 :: st) σ Q := by
  intro l p e s m args below meth c D dA ad H locs la C hH hL hS
  exact lv_ifnonnull C.2.1 C.2.2.1 (C.1.dec hd hn) ht (Ok.go k C hH hL hS.2 rfl rfl)
theorem ok_ifnonnullN (i : Nat) {off : Int} (hd : nth (eTab M) i = some (pc, .ifnonnull off, pc')) (hn : pc + 3 = pc') (k : Ok sh M pc' ls st σ Q) : Ok sh M pc ls (vn :: st) σ Q := by
  intro l p e s m args below meth c D dA ad H locs la C hH hL hS
  exact lv_ifnonnullN C.2.1 C.2.2.1 (C.1.dec hd hn) (Ok.go k C hH hL hS.2 hn rfl)
theorem ok_tin (i : Nat) {dflt lo hi off z : Int} {offs : Array Int} {len : Nat} (tgt : Nat) (hd : nth (eTab M) i = some (pc, .tableswitch dflt lo hi offs, pc')) (hn : pc + len = pc') (h1 : lo ≤ z) (h2 : z ≤ hi) (ho : offs[(z - lo).toNat]? = some off) (ht : (pc : Int) + off = (tgt : Int)) (k : Ok sh M tgt ls st σ Q) : Ok sh M pc ls (vi z :: st) σ Q := by
  intro l p e s m args below meth c D dA ad H locs la C hH hL hS
  have e := rg_in (z := z) hS.1
  exact lv_tableIn C.2.1 C.2.2.1 (C.1.dec hd hn) (by rw [e]; omega) (by rw [e]; omega) (by rw [e]; exact ho) ht (Ok.go k C hH hL hS.2 rfl rfl)
theorem ok_tout (i : Nat) {dflt lo hi z : Int} {offs : Array Int} {len : Nat} (tgt : Nat) (hd : nth (eTab M) i = some (pc, .tableswitch dflt lo hi offs, pc')) (hn : pc + len = pc') (h1 : z < lo ∨ hi < z) (ht : (pc : Int) + dflt = (tgt : Int)) (k : Ok sh M tgt ls st σ Q) : Ok sh M pc ls (vi z :: st) σ Q := by
  intro l p e s m args below meth c D dA ad H locs la C hH hL hS
  have e := rg_in (z := z) hS.1
  exact lv_tableOut C.2.1 C.2.2.1 (C.1.dec hd hn) (by rw [e]; exact h1) ht (Ok.go k C hH hL hS.2 rfl rfl)
/-! ends -/
theorem eQ_of {s t : State} {args : Array Value} {D : va_G} {dA : Nat → ClassId} {ad : Nat → Nat} {H : Heap} {locs : List Loc} {v : Option eV} (hH : eHp sh s D dA ad σ H locs) (hq : Q σ v) (hk : ∀ x, v = some x → eK x) (ht : t.heap = H) : eQ sh D dA ad Q args s (.returned (v.map (eR ad))) t :=
  ⟨⟨v, σ, rfl, hq, hk, hH.2.2, by rw [ht]; exact hH.1⟩, hH.2.1.F ht⟩
theorem ok_iret (i : Nat) {z : Int} (hd : nth (eTab M) i = some (pc, .ireturn, pc')) (hn : pc + 1 = pc') (hr : eRet M = some .int) (hq : Q σ (some (vi z))) : Ok sh M pc ls [vi z] σ Q := by
  intro l p e s m args below meth c D dA ad H locs la C hH hL hS
  exact W.iret C.2.1 C.2.2.1 (C.2.2.2.2.1.trans hr) (fun t ht _ => eQ_of (v := some (vi z)) hH hq (fun x hx => by cases hx; exact hS.1) ht) hH.2.1.2.2 (C.1.dec hd hn) C.2.2.2.2.2.1
theorem ok_zret (i : Nat) {z : Int} (hd : nth (eTab M) i = some (pc, .ireturn, pc')) (hn : pc + 1 = pc') (hr : eRet M = some .boolean) (hz : z = 0 ∨ z = 1) (hq : Q σ (some (vi z))) : Ok sh M pc ls [vi z] σ Q := by
  intro l p e s m args below meth c D dA ad H locs la C hH hL hS
  exact W.zret C.2.1 C.2.2.1 (C.2.2.2.2.1.trans hr) (by rcases hz with rfl | rfl <;> rfl) (fun t ht _ => eQ_of (v := some (vi z)) hH hq (fun x hx => by cases hx; exact hS.1) ht) hH.2.1.2.2 (C.1.dec hd hn) C.2.2.2.2.2.1
theorem ok_lret (i : Nat) {z : Int} (hd : nth (eTab M) i = some (pc, .lreturn, pc')) (hn : pc + 1 = pc') (hr : eRet M = some .long) (hq : Q σ (some (vl z))) : Ok sh M pc ls [vl z] σ Q := by
  intro l p e s m args below meth c D dA ad H locs la C hH hL hS
  exact W.lret C.2.1 C.2.2.1 (C.2.2.2.2.1.trans hr) (fun t ht _ => eQ_of (v := some (vl z)) hH hq (fun x hx => by cases hx; exact hS.1) ht) hH.2.1.2.2 (C.1.dec hd hn) C.2.2.2.2.2.1
theorem ok_vret (i : Nat) (hd : nth (eTab M) i = some (pc, .return_, pc')) (hn : pc + 1 = pc') (hr : eRet M = none) (hq : Q σ none) : Ok sh M pc ls [] σ Q := by
  intro l p e s m args below meth c D dA ad H locs la C hH hL hS
  exact W.vret C.2.1 C.2.2.1 (C.2.2.2.2.1.trans hr) (fun t ht _ => eQ_of (v := none) hH hq (fun x hx => by cases hx) ht) hH.2.1.2.2 (C.1.dec hd hn) C.2.2.2.2.2.1
theorem ok_aret (i : Nat) {c0 : Nat} {n : String} (hd : nth (eTab M) i = some (pc, .areturn, pc')) (hn : pc + 1 = pc') (hr : eRet M = some (.object n)) (hq : Q σ (some (vr c0))) : Ok sh M pc ls [vr c0] σ Q := by
  intro l p e s m args below meth c D dA ad H locs la C hH hL hS
  exact W.aret C.2.1 C.2.2.1 (C.2.2.2.2.1.trans hr) (Or.inl ⟨n, rfl⟩) (Or.inr ⟨_, rfl⟩) (fun t ht _ => eQ_of (v := some (vr c0)) hH hq (fun x hx => by cases hx; trivial) ht) hH.2.1.2.2 (C.1.dec hd hn) C.2.2.2.2.2.1
theorem ok_aretN (i : Nat) {n : String} (hd : nth (eTab M) i = some (pc, .areturn, pc')) (hn : pc + 1 = pc') (hr : eRet M = some (.object n)) (hq : Q σ (some vn)) : Ok sh M pc ls [vn] σ Q := by
  intro l p e s m args below meth c D dA ad H locs la C hH hL hS
  exact W.aret C.2.1 C.2.2.1 (C.2.2.2.2.1.trans hr) (Or.inl ⟨n, rfl⟩) (Or.inl rfl) (fun t ht _ => eQ_of (v := some vn) hH hq (fun x hx => by cases hx; trivial) ht) hH.2.1.2.2 (C.1.dec hd hn) C.2.2.2.2.2.1
end E2
