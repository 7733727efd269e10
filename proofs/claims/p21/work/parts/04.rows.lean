theorem lg_cons (v : Value) (vs : List Value) : lg_sl (v :: vs) = (if v.category = 2 then [Slot.val v, Slot.second] else [Slot.val v]) ++ lg_sl vs := by simp [lg_sl]
theorem eAr_one {v : eV} (h : eCat v = 1) (l : List eV) : eAr (v :: l) = some v :: eAr l := by
  rcases v with z | z | _ | c
  · rfl
  · cases h
  · rfl
  · rfl
theorem eCat_12 (v : eV) : eCat v = 1 ∨ ∃ z, v = vl z := by
  rcases v with z | z | _ | c
  · exact Or.inl rfl
  · exact Or.inr ⟨z, rfl⟩
  · exact Or.inl rfl
  · exact Or.inl rfl
theorem eAr_len (ad : Nat → Nat) : ∀ as : List eV, (lg_sl (as.map (eR ad))).length = (eAr as).length
  | [] => rfl
  | v :: l => by
    rw [List.map_cons, lg_cons, List.length_append, eAr_len ad l, eR_cat]
    rcases eCat_12 v with h | ⟨z, rfl⟩
    · rw [h, eAr_one h]
      simp
      omega
    · show 2 + _ = (some (vl z) :: none :: eAr l).length
      simp
      omega
theorem eAr_at (ad : Nat → Nat) : ∀ (as : List eV) (k i : Nat) (v : eV), (eAr as)[i]? = some (some v) → (k + i, eR ad v) ∈ lv_args k (as.map (eR ad)) ∧ v ∈ as := by
  intro as
  induction as with
  | nil => intro k i v h; simp [eAr] at h
  | cons a l ih =>
    intro k i v h
    rcases eCat_12 a with hc | ⟨z, rfl⟩
    · rw [eAr_one hc] at h
      have hcat : ¬ (eR ad a).category = 2 := by rw [eR_cat, hc]; decide
      simp only [List.map_cons, lv_args, hcat, if_false]
      cases i with
      | zero =>
        simp only [List.getElem?_cons_zero, Option.some.injEq] at h
        subst h
        exact ⟨List.mem_cons_self, List.mem_cons_self⟩
      | succ i =>
        rw [List.getElem?_cons_succ] at h
        obtain ⟨h1, h2⟩ := ih (k + 1) i v h
        rw [show k + 1 + i = k + (i + 1) by omega] at h1
        exact ⟨List.mem_cons_of_mem _ h1, List.mem_cons_of_mem _ h2⟩
    · have hcat : (eR ad (.inr (.inl z))).category = 2 := rfl
      simp only [List.map_cons, lv_args, hcat, if_true]
      match i, h with
      | 0, h =>
        simp only [eAr, List.getElem?_cons_zero, Option.some.injEq] at h
        subst h
        exact ⟨List.mem_cons_self, List.mem_cons_self⟩
      | 1, h => simp [eAr] at h
      | i + 2, h =>
        simp only [eAr, List.getElem?_cons_succ] at h
        obtain ⟨h1, h2⟩ := ih (k + 2) i v h
        rw [show k + 2 + i = k + (i + 2) by omega] at h1
        exact ⟨List.mem_cons_of_mem _ h1, List.mem_cons_of_mem _ h2⟩
theorem eKs_at : ∀ {l : List eV}, eKs l → ∀ v ∈ l, eK v
  | _ :: _, h, v, hv => by
    rcases List.mem_cons.mp hv with rfl | hv
    · exact h.1
    · exact eKs_at h.2 v hv
theorem eKs_of : ∀ {l : List eV}, (∀ v ∈ l, eK v) → eKs l
  | [], _ => trivial
  | _ :: _, h => ⟨h _ List.mem_cons_self, eKs_of fun v hv => h v (List.mem_cons_of_mem _ hv)⟩
theorem eLs_in {as : List eV} {n : Nat} (ad : Nat → Nat) (hl : (eAr as).length ≤ n) (hk : eKs as) : eLs (lg_sl (as.map (eR ad)) ++ List.replicate (n - (lg_sl (as.map (eR ad))).length) Slot.unset).toArray n ad (eIn as n) := by
  obtain ⟨h1, h2, h3⟩ := lv_entry (as.map (eR ad)) (n := n) (by rw [eAr_len]; exact hl)
  refine ⟨h1, by simp [eIn]; omega, h2, fun i v h => ?_⟩
  have h4 : (eAr as)[i]? = some (some v) := by
    unfold eIn at h
    by_cases hi : i < (eAr as).length
    · rwa [List.getElem?_append_left hi] at h
    · rw [List.getElem?_append_right (by omega)] at h
      have := List.eq_of_mem_replicate (List.mem_of_getElem? h)
      cases this
  obtain ⟨h5, h6⟩ := eAr_at ad as 0 i v h4
  rw [Nat.zero_add] at h5
  exact ⟨h3 _ h5, eKs_at hk v h6⟩
theorem rg_in {z : Int} (h : rg z) : (Int32.ofInt z).toInt = z := Int32.toInt_ofInt_of_le (by omega) (by omega)
theorem rl_in {z : Int} (h : rl z) : (Int64.ofInt z).toInt = z := Int64.toInt_ofInt_of_le (by omega) (by omega)
theorem rg_to (x : Int32) : rg x.toInt := ⟨Int32.le_toInt _, Int32.toInt_lt _⟩
theorem rl_to (x : Int64) : rl x.toInt := ⟨Int64.le_toInt _, Int64.toInt_lt _⟩
theorem rg_wr (z : Int) : rg (wr z) := rg_to _
theorem rl_wl (z : Int) : rl (wl z) := rl_to _
theorem wr_id {z : Int} (h : rg z) : wr z = z := rg_in h
theorem wl_id {z : Int} (h : rl z) : wl z = z := rl_in h
theorem of_wr (z : Int) : Int32.ofInt (wr z) = Int32.ofInt z := Int32.ofInt_toInt _
theorem of_wl (z : Int) : Int64.ofInt (wl z) = Int64.ofInt z := Int64.ofInt_toInt _
theorem rg_eq {a b : Int} (ha : rg a) (hb : rg b) : Int32.ofInt a = Int32.ofInt b ↔ a = b := ⟨fun h => by rw [← rg_in ha, ← rg_in hb, h], fun h => by rw [h]⟩
theorem rg_lt {a b : Int} (ha : rg a) (hb : rg b) : Int32.ofInt a < Int32.ofInt b ↔ a < b := by rw [Int32.lt_iff_toInt_lt, rg_in ha, rg_in hb]
theorem rg_le {a b : Int} (ha : rg a) (hb : rg b) : Int32.ofInt a ≤ Int32.ofInt b ↔ a ≤ b := by rw [Int32.le_iff_toInt_le, rg_in ha, rg_in hb]
theorem rl_eq {a b : Int} (ha : rl a) (hb : rl b) : Int64.ofInt a = Int64.ofInt b ↔ a = b := ⟨fun h => by rw [← rl_in ha, ← rl_in hb, h], fun h => by rw [h]⟩
theorem rl_lt {a b : Int} (ha : rl a) (hb : rl b) : Int64.ofInt a < Int64.ofInt b ↔ a < b := by rw [Int64.lt_iff_toInt_lt, rl_in ha, rl_in hb]
theorem of_0 : Int32.ofInt 0 = 0 := rfl
theorem rg_0 : rg 0 := by decide
def iand (a b : Int) : Int := (Int32.ofInt a &&& Int32.ofInt b).toInt
def ior (a b : Int) : Int := (Int32.ofInt a ||| Int32.ofInt b).toInt
def ixor (a b : Int) : Int := (Int32.ofInt a ^^^ Int32.ofInt b).toInt
def ishl (a b : Int) : Int := (Int32.ofInt a <<< (Int32.ofInt b &&& 31)).toInt
def ishr (a b : Int) : Int := (Int32.ofInt a >>> (Int32.ofInt b &&& 31)).toInt
def iushr (a b : Int) : Int := (((Int32.ofInt a).toUInt32 >>> ((Int32.ofInt b).toUInt32 &&& Int32.toUInt32 31)).toInt32).toInt
def land (a b : Int) : Int := (Int64.ofInt a &&& Int64.ofInt b).toInt
def lor (a b : Int) : Int := (Int64.ofInt a ||| Int64.ofInt b).toInt
def lxor (a b : Int) : Int := (Int64.ofInt a ^^^ Int64.ofInt b).toInt
def lshl (a b : Int) : Int := ((Int64.ofInt a) <<< ((Int32.ofInt b).toInt64 &&& 63)).toInt
def lushr (a b : Int) : Int := (((Int64.ofInt a).toUInt64 >>> ((Int32.ofInt b).toInt64.toUInt64 &&& Int64.toUInt64 63)).toInt64).toInt
theorem nn_div {a b : Int} (ha : rg a) (hb : rg b) (h0 : 0 ≤ a) (h1 : 0 < b) : Int32.ofInt a / Int32.ofInt b = Int32.ofInt (a / b) ∧ rg (a / b) := by
  have h2 : 0 ≤ a / b := Int.ediv_nonneg h0 (by omega)
  have h3 : a / b ≤ a := Int.ediv_le_self b h0
  have hr : rg (a / b) := ⟨by omega, by omega⟩
  refine ⟨?_, hr⟩
  apply Int32.toInt_inj.mp
  rw [Int32.toInt_div, rg_in ha, rg_in hb, rg_in hr, Int.tdiv_eq_ediv_of_nonneg h0]
  have := wr_id hr
  unfold wr at this
  rwa [Int32.toInt_ofInt] at this
theorem nn_divL {a b : Int} (ha : rl a) (hb : rl b) (h0 : 0 ≤ a) (h1 : 0 < b) : Int64.ofInt a / Int64.ofInt b = Int64.ofInt (a / b) ∧ rl (a / b) := by
  have h2 : 0 ≤ a / b := Int.ediv_nonneg h0 (by omega)
  have h3 : a / b ≤ a := Int.ediv_le_self b h0
  have hr : rl (a / b) := ⟨by omega, by omega⟩
  refine ⟨?_, hr⟩
  apply Int64.toInt_inj.mp
  rw [Int64.toInt_div, rl_in ha, rl_in hb, rl_in hr, Int.tdiv_eq_ediv_of_nonneg h0]
  have := wl_id hr
  unfold wl at this
  rwa [Int64.toInt_ofInt] at this
theorem nn_rem {a b : Int} (ha : rg a) (hb : rg b) (h0 : 0 ≤ a) (h1 : 0 < b) : Int32.ofInt a - Int32.ofInt a / Int32.ofInt b * Int32.ofInt b = Int32.ofInt (a % b) ∧ rg (a % b) := by
  have h4 := Int.emod_nonneg a (by omega : b ≠ 0)
  have h5 := Int.emod_lt_of_pos a h1
  refine ⟨?_, by omega, by omega⟩
  rw [(nn_div ha hb h0 h1).1, ← Int32.ofInt_mul, ← Int32.ofInt_sub]
  congr 1
  have := Int.emod_def a b
  rw [this, Int.mul_comm]
theorem nn_remL {a b : Int} (ha : rl a) (hb : rl b) (h0 : 0 ≤ a) (h1 : 0 < b) : Int64.ofInt a - Int64.ofInt a / Int64.ofInt b * Int64.ofInt b = Int64.ofInt (a % b) ∧ rl (a % b) := by
  have h4 := Int.emod_nonneg a (by omega : b ≠ 0)
  have h5 := Int.emod_lt_of_pos a h1
  refine ⟨?_, by omega, by omega⟩
  rw [(nn_divL ha hb h0 h1).1, ← Int64.ofInt_mul, ← Int64.ofInt_sub]
  congr 1
  have := Int.emod_def a b
  rw [this, Int.mul_comm]
theorem ne_0 {b : Int} (hb : rg b) (h : 0 < b) : ¬ Int32.ofInt b = 0 := fun q => by
  have := (rg_eq hb rg_0).mp (by rw [q]; rfl)
  omega
theorem ne_0L {b : Int} (hb : rl b) (h : 0 < b) : ¬ Int64.ofInt b = 0 := fun q => by
  have := (rl_eq hb (by decide : rl 0)).mp (by rw [q]; rfl)
  omega
theorem i2l_of {a : Int} (ha : rg a) : (Int32.ofInt a).toInt64 = Int64.ofInt a := by
  apply Int64.toInt_inj.mp
  rw [Int32.toInt_toInt64, rg_in ha, rl_in ⟨by omega, by omega⟩]
theorem l2i_of {a : Int} : (Int64.ofInt a).toInt32 = Int32.ofInt a := by
  apply Int32.toInt_inj.mp
  rw [Int64.toInt_toInt32, Int64.toInt_ofInt, Int32.toInt_ofInt]
  exact Int.bmod_bmod_of_dvd (by decide)
section E1
variable {sh : eSh} {M : eM} {pc pc' tgt : Nat} {ls : List (Option eV)} {st st' : List eV} {σ : eS} {Q : eS → Option eV → Prop}
theorem Mt.of {as : List eV} (hM : okM M) (hlen : (eAr as).length ≤ eNL M) (h : eKs as → eGd sh σ → Ok sh M 0 (eIn as (eNL M)) [] σ Q) : Mt sh M as σ Q := by
  refine ⟨hM, fun l D dA ad hi hk hg => ?_⟩
  refine Met.ofW (cc := eCode M) (maxL := eNL M) (ret := eRet M) hM.2.2.1 rfl ?_
  intro p e s m args below meth c s₁ B hml hv
  obtain ⟨rfl, hP, hK, hKA⟩ := hv
  have hown : s.vm.findClass (eNm M).cls = some m.cls := findClass_of_methodNamed B.named
  have hts := atoms_spec (ws := eWs M) B.pre
  rw [lg_entry_eq]
  exact h hk hg l p e s m _ below meth c D dA ad s.heap [] _ ⟨hM, B.exec, B.bytes, hml, B.returns, B.notSynchronized, by rw [← hM.2.2.2.1]; exact hown, fun w hw => hts w (List.mem_cons_of_mem _ hw), hK, hKA, hi⟩ ⟨hP, va_S.rf, hg⟩ (eLs_in ad hlen hk) trivial
theorem Mt.weaken {as : List eV} {Q' : eS → Option eV → Prop} (h : Mt sh M as σ Q) (k : ∀ σ' v, Q σ' v → Q' σ' v) : Mt sh M as σ Q' := by
  refine ⟨h.1, fun l D dA ad hi hk hg => ?_⟩
  have h1 := h.2 l D dA ad hi hk hg
  intro p e a b c s m args below d1 d2 d3 d4
  obtain ⟨t, o, r1, r2, r3, ⟨⟨⟨v, σ', q1, q2, q3⟩, q4⟩, q5⟩⟩ := h1 p e a b c s m args below d1 d2 d3 d4
  exact ⟨t, o, r1, r2, r3, ⟨⟨⟨v, σ', q1, k _ _ q2, q3⟩, q4⟩, q5⟩⟩
/-- what is known of a state's numbers -/
theorem ok_gd (k : eGd sh σ → Ok sh M pc ls st σ Q) : Ok sh M pc ls st σ Q := fun l p e s m args below meth c D dA ad H locs la C hH hL hS => k hH.2.2 l p e s m args below meth c D dA ad H locs la C hH hL hS
theorem Ok.weaken {Q' : eS → Option eV → Prop} (h : Ok sh M pc ls st σ Q') (k : ∀ σ' v, Q' σ' v → Q σ' v) : Ok sh M pc ls st σ Q := by
  intro l p e s m args below meth c D dA ad H locs la C hH hL hS T hT X
  obtain ⟨t, a, o, b1, b2, ⟨⟨v, σ', q1, q2, q3⟩, q4⟩, b4⟩ := h l p e s m args below meth c D dA ad H locs la C hH hL hS T hT X
  exact ⟨t, a, o, b1, b2, ⟨⟨v, σ', q1, k _ _ q2, q3⟩, q4⟩, b4⟩
theorem Ok.go {l : Launch} {p : Program} {e : Env} {s : State} {m : MethodId} {args : Array Value} {below : List Frame} {meth : Method} {c : Code} {D : va_G} {dA : Nat → ClassId} {ad : Nat → Nat} {H : Heap} {locs : List Loc} {la : Array Slot} {n : Nat} {rest : List Value}
    (k : Ok sh M pc' ls st' σ Q) (C : eCx sh M p s m args meth c D dA ad) (hH : eHp sh s D dA ad σ H locs) (hL : eLs la (eNL M) ad ls) (hS : eKs st') (hn : n = pc') (hr : st'.map (eR ad) = rest) :
    W p l e (eRm M) s m args below meth c H locs 0 0 (MQ below (eQ sh D dA ad Q) args s 0 0 (eA sh ad)) (F0 m n la rest) := by
  subst hn; subst hr
  exact k l p e s m args below meth c D dA ad H locs la C hH hL hS
theorem ok_iadd (i : Nat) {a b : Int} (hd : nth (eTab M) i = some (pc, .iadd, pc')) (hn : pc + 1 = pc') (hr : rg (a + b)) (k : Ok sh M pc' ls (vi (a + b) :: st) σ Q) : Ok sh M pc ls (vi b :: vi a :: st) σ Q := by
  intro l p e s m args below meth c D dA ad H locs la C hH hL hS
  obtain ⟨hb, ha, hs⟩ := hS
  exact lv_iadd C.2.1 C.2.2.1 (C.1.dec hd hn) (Ok.go k C hH hL ⟨hr, hs⟩ hn (by show Value.int (Int32.ofInt (a + b)) :: _ = _; rw [Int32.ofInt_add]))
theorem ok_iaddW (i : Nat) {a b : Int} (hd : nth (eTab M) i = some (pc, .iadd, pc')) (hn : pc + 1 = pc') (k : Ok sh M pc' ls (vi (wr (a + b)) :: st) σ Q) : Ok sh M pc ls (vi b :: vi a :: st) σ Q := by
  intro l p e s m args below meth c D dA ad H locs la C hH hL hS
  obtain ⟨hb, ha, hs⟩ := hS
  exact lv_iadd C.2.1 C.2.2.1 (C.1.dec hd hn) (Ok.go k C hH hL ⟨rg_wr _, hs⟩ hn (by show Value.int (Int32.ofInt (wr (a + b))) :: _ = _; rw [of_wr, Int32.ofInt_add]))
theorem ok_isub (i : Nat) {a b : Int} (hd : nth (eTab M) i = some (pc, .isub, pc')) (hn : pc + 1 = pc') (hr : rg (a - b)) (k : Ok sh M pc' ls (vi (a - b) :: st) σ Q) : Ok sh M pc ls (vi b :: vi a :: st) σ Q := by
  intro l p e s m args below meth c D dA ad H locs la C hH hL hS
  obtain ⟨hb, ha, hs⟩ := hS
  exact lv_isub C.2.1 C.2.2.1 (C.1.dec hd hn) (Ok.go k C hH hL ⟨hr, hs⟩ hn (by show Value.int (Int32.ofInt (a - b)) :: _ = _; rw [Int32.ofInt_sub]))
theorem ok_isubW (i : Nat) {a b : Int} (hd : nth (eTab M) i = some (pc, .isub, pc')) (hn : pc + 1 = pc') (k : Ok sh M pc' ls (vi (wr (a - b)) :: st) σ Q) : Ok sh M pc ls (vi b :: vi a :: st) σ Q := by
  intro l p e s m args below meth c D dA ad H locs la C hH hL hS
  obtain ⟨hb, ha, hs⟩ := hS
  exact lv_isub C.2.1 C.2.2.1 (C.1.dec hd hn) (Ok.go k C hH hL ⟨rg_wr _, hs⟩ hn (by show Value.int (Int32.ofInt (wr (a - b))) :: _ = _; rw [of_wr, Int32.ofInt_sub]))
theorem ok_imul (i : Nat) {a b : Int} (hd : nth (eTab M) i = some (pc, .imul, pc')) (hn : pc + 1 = pc') (hr : rg (a * b)) (k : Ok sh M pc' ls (vi (a * b) :: st) σ Q) : Ok sh M pc ls (vi b :: vi a :: st) σ Q := by
  intro l p e s m args below meth c D dA ad H locs la C hH hL hS
  obtain ⟨hb, ha, hs⟩ := hS
  exact lv_imul C.2.1 C.2.2.1 (C.1.dec hd hn) (Ok.go k C hH hL ⟨hr, hs⟩ hn (by show Value.int (Int32.ofInt (a * b)) :: _ = _; rw [Int32.ofInt_mul]))
theorem ok_imulW (i : Nat) {a b : Int} (hd : nth (eTab M) i = some (pc, .imul, pc')) (hn : pc + 1 = pc') (k : Ok sh M pc' ls (vi (wr (a * b)) :: st) σ Q) : Ok sh M pc ls (vi b :: vi a :: st) σ Q := by
  intro l p e s m args below meth c D dA ad H locs la C hH hL hS
  obtain ⟨hb, ha, hs⟩ := hS
  exact lv_imul C.2.1 C.2.2.1 (C.1.dec hd hn) (Ok.go k C hH hL ⟨rg_wr _, hs⟩ hn (by show Value.int (Int32.ofInt (wr (a * b))) :: _ = _; rw [of_wr, Int32.ofInt_mul]))
theorem ok_ladd (i : Nat) {a b : Int} (hd : nth (eTab M) i = some (pc, .ladd, pc')) (hn : pc + 1 = pc') (hr : rl (a + b)) (k : Ok sh M pc' ls (vl (a + b) :: st) σ Q) : Ok sh M pc ls (vl b :: vl a :: st) σ Q := by
  intro l p e s m args below meth c D dA ad H locs la C hH hL hS
  obtain ⟨hb, ha, hs⟩ := hS
  exact lv_ladd C.2.1 C.2.2.1 (C.1.dec hd hn) (Ok.go k C hH hL ⟨hr, hs⟩ hn (by show Value.long (Int64.ofInt (a + b)) :: _ = _; rw [Int64.ofInt_add]))
theorem ok_laddW (i : Nat) {a b : Int} (hd : nth (eTab M) i = some (pc, .ladd, pc')) (hn : pc + 1 = pc') (k : Ok sh M pc' ls (vl (wl (a + b)) :: st) σ Q) : Ok sh M pc ls (vl b :: vl a :: st) σ Q := by
  intro l p e s m args below meth c D dA ad H locs la C hH hL hS
  obtain ⟨hb, ha, hs⟩ := hS
  exact lv_ladd C.2.1 C.2.2.1 (C.1.dec hd hn) (Ok.go k C hH hL ⟨rl_wl _, hs⟩ hn (by show Value.long (Int64.ofInt (wl (a + b))) :: _ = _; rw [of_wl, Int64.ofInt_add]))
theorem ok_lsub (i : Nat) {a b : Int} (hd : nth (eTab M) i = some (pc, .lsub, pc')) (hn : pc + 1 = pc') (hr : rl (a - b)) (k : Ok sh M pc' ls (vl (a - b) :: st) σ Q) : Ok sh M pc ls (vl b :: vl a :: st) σ Q := by
  intro l p e s m args below meth c D dA ad H locs la C hH hL hS
  obtain ⟨hb, ha, hs⟩ := hS
  exact lv_lsub C.2.1 C.2.2.1 (C.1.dec hd hn) (Ok.go k C hH hL ⟨hr, hs⟩ hn (by show Value.long (Int64.ofInt (a - b)) :: _ = _; rw [Int64.ofInt_sub]))
theorem ok_lsubW (i : Nat) {a b : Int} (hd : nth (eTab M) i = some (pc, .lsub, pc')) (hn : pc + 1 = pc') (k : Ok sh M pc' ls (vl (wl (a - b)) :: st) σ Q) : Ok sh M pc ls (vl b :: vl a :: st) σ Q := by
  intro l p e s m args below meth c D dA ad H locs la C hH hL hS
  obtain ⟨hb, ha, hs⟩ := hS
  exact lv_lsub C.2.1 C.2.2.1 (C.1.dec hd hn) (Ok.go k C hH hL ⟨rl_wl _, hs⟩ hn (by show Value.long (Int64.ofInt (wl (a - b))) :: _ = _; rw [of_wl, Int64.ofInt_sub]))
theorem ok_lmul (i : Nat) {a b : Int} (hd : nth (eTab M) i = some (pc, .lmul, pc')) (hn : pc + 1 = pc') (hr : rl (a * b)) (k : Ok sh M pc' ls (vl (a * b) :: st) σ Q) : Ok sh M pc ls (vl b :: vl a :: st) σ Q := by
  intro l p e s m args below meth c D dA ad H locs la C hH hL hS
  obtain ⟨hb, ha, hs⟩ := hS
  exact lv_lmul C.2.1 C.2.2.1 (C.1.dec hd hn) (Ok.go k C hH hL ⟨hr, hs⟩ hn (by show Value.long (Int64.ofInt (a * b)) :: _ = _; rw [Int64.ofInt_mul]))
theorem ok_idiv (i : Nat) {a b : Int} (hd : nth (eTab M) i = some (pc, .idiv, pc')) (hn : pc + 1 = pc') (h0 : 0 ≤ a) (h1 : 0 < b) (k : Ok sh M pc' ls (vi (a / b) :: st) σ Q) : Ok sh M pc ls (vi b :: vi a :: st) σ Q := by
  intro l p e s m args below meth c D dA ad H locs la C hH hL hS
  obtain ⟨hb, ha, hs⟩ := hS
  exact lv_idiv C.2.1 C.2.2.1 (C.1.dec hd hn) (ne_0 hb h1) (Ok.go k C hH hL ⟨(nn_div ha hb h0 h1).2, hs⟩ hn (by show Value.int (Int32.ofInt (a / b)) :: _ = _; rw [(nn_div ha hb h0 h1).1]))
theorem ok_irem (i : Nat) {a b : Int} (hd : nth (eTab M) i = some (pc, .irem, pc')) (hn : pc + 1 = pc') (h0 : 0 ≤ a) (h1 : 0 < b) (k : Ok sh M pc' ls (vi (a % b) :: st) σ Q) : Ok sh M pc ls (vi b :: vi a :: st) σ Q := by
  intro l p e s m args below meth c D dA ad H locs la C hH hL hS
  obtain ⟨hb, ha, hs⟩ := hS
  exact lv_irem C.2.1 C.2.2.1 (C.1.dec hd hn) (ne_0 hb h1) (Ok.go k C hH hL ⟨(nn_rem ha hb h0 h1).2, hs⟩ hn (by show Value.int (Int32.ofInt (a % b)) :: _ = _; rw [(nn_rem ha hb h0 h1).1]))
theorem ok_ldiv (i : Nat) {a b : Int} (hd : nth (eTab M) i = some (pc, .ldiv, pc')) (hn : pc + 1 = pc') (h0 : 0 ≤ a) (h1 : 0 < b) (k : Ok sh M pc' ls (vl (a / b) :: st) σ Q) : Ok sh M pc ls (vl b :: vl a :: st) σ Q := by
  intro l p e s m args below meth c D dA ad H locs la C hH hL hS
  obtain ⟨hb, ha, hs⟩ := hS
  exact lv_ldiv C.2.1 C.2.2.1 (C.1.dec hd hn) (ne_0L hb h1) (Ok.go k C hH hL ⟨(nn_divL ha hb h0 h1).2, hs⟩ hn (by show Value.long (Int64.ofInt (a / b)) :: _ = _; rw [(nn_divL ha hb h0 h1).1]))
theorem ok_lrem (i : Nat) {a b : Int} (hd : nth (eTab M) i = some (pc, .lrem, pc')) (hn : pc + 1 = pc') (h0 : 0 ≤ a) (h1 : 0 < b) (k : Ok sh M pc' ls (vl (a % b) :: st) σ Q) : Ok sh M pc ls (vl b :: vl a :: st) σ Q := by
  intro l p e s m args below meth c D dA ad H locs la C hH hL hS
  obtain ⟨hb, ha, hs⟩ := hS
  exact lv_lrem C.2.1 C.2.2.1 (C.1.dec hd hn) (ne_0L hb h1) (Ok.go k C hH hL ⟨(nn_remL ha hb h0 h1).2, hs⟩ hn (by show Value.long (Int64.ofInt (a % b)) :: _ = _; rw [(nn_remL ha hb h0 h1).1]))
theorem ok_iand (i : Nat) {a b : Int} (hd : nth (eTab M) i = some (pc, .iand, pc')) (hn : pc + 1 = pc') (k : Ok sh M pc' ls (vi (iand a b) :: st) σ Q) : Ok sh M pc ls (vi b :: vi a :: st) σ Q := by
  intro l p e s m args below meth c D dA ad H locs la C hH hL hS
  obtain ⟨hb, ha, hs⟩ := hS
  exact lv_iand C.2.1 C.2.2.1 (C.1.dec hd hn) (Ok.go k C hH hL ⟨rg_to _, hs⟩ hn (by show Value.int (Int32.ofInt (iand a b)) :: _ = _; unfold iand; rw [Int32.ofInt_toInt]))
theorem ok_ior (i : Nat) {a b : Int} (hd : nth (eTab M) i = some (pc, .ior, pc')) (hn : pc + 1 = pc') (k : Ok sh M pc' ls (vi (ior a b) :: st) σ Q) : Ok sh M pc ls (vi b :: vi a :: st) σ Q := by
  intro l p e s m args below meth c D dA ad H locs la C hH hL hS
  obtain ⟨hb, ha, hs⟩ := hS
  exact lv_ior C.2.1 C.2.2.1 (C.1.dec hd hn) (Ok.go k C hH hL ⟨rg_to _, hs⟩ hn (by show Value.int (Int32.ofInt (ior a b)) :: _ = _; unfold ior; rw [Int32.ofInt_toInt]))
theorem ok_ixor (i : Nat) {a b : Int} (hd : nth (eTab M) i = some (pc, .ixor, pc')) (hn : pc + 1 = pc') (k : Ok sh M pc' ls (vi (ixor a b) :: st) σ Q) : Ok sh M pc ls (vi b :: vi a :: st) σ Q := by
  intro l p e s m args below meth c D dA ad H locs la C hH hL hS
  obtain ⟨hb, ha, hs⟩ := hS
  exact lv_ixor C.2.1 C.2.2.1 (C.1.dec hd hn) (Ok.go k C hH hL ⟨rg_to _, hs⟩ hn (by show Value.int (Int32.ofInt (ixor a b)) :: _ = _; unfold ixor; rw [Int32.ofInt_toInt]))
theorem ok_ishl (i : Nat) {a b : Int} (hd : nth (eTab M) i = some (pc, .ishl, pc')) (hn : pc + 1 = pc') (k : Ok sh M pc' ls (vi (ishl a b) :: st) σ Q) : Ok sh M pc ls (vi b :: vi a :: st) σ Q := by
  intro l p e s m args below meth c D dA ad H locs la C hH hL hS
  obtain ⟨hb, ha, hs⟩ := hS
  exact lv_ishl C.2.1 C.2.2.1 (C.1.dec hd hn) (Ok.go k C hH hL ⟨rg_to _, hs⟩ hn (by show Value.int (Int32.ofInt (ishl a b)) :: _ = _; unfold ishl; rw [Int32.ofInt_toInt]))
theorem ok_ishr (i : Nat) {a b : Int} (hd : nth (eTab M) i = some (pc, .ishr, pc')) (hn : pc + 1 = pc') (k : Ok sh M pc' ls (vi (ishr a b) :: st) σ Q) : Ok sh M pc ls (vi b :: vi a :: st) σ Q := by
  intro l p e s m args below meth c D dA ad H locs la C hH hL hS
  obtain ⟨hb, ha, hs⟩ := hS
  exact lv_ishr C.2.1 C.2.2.1 (C.1.dec hd hn) (Ok.go k C hH hL ⟨rg_to _, hs⟩ hn (by show Value.int (Int32.ofInt (ishr a b)) :: _ = _; unfold ishr; rw [Int32.ofInt_toInt]))
theorem ok_land (i : Nat) {a b : Int} (hd : nth (eTab M) i = some (pc, .land, pc')) (hn : pc + 1 = pc') (k : Ok sh M pc' ls (vl (land a b) :: st) σ Q) : Ok sh M pc ls (vl b :: vl a :: st) σ Q := by
  intro l p e s m args below meth c D dA ad H locs la C hH hL hS
  obtain ⟨hb, ha, hs⟩ := hS
  exact lv_land C.2.1 C.2.2.1 (C.1.dec hd hn) (Ok.go k C hH hL ⟨rl_to _, hs⟩ hn (by show Value.long (Int64.ofInt (land a b)) :: _ = _; unfold land; rw [Int64.ofInt_toInt]))
theorem ok_lor (i : Nat) {a b : Int} (hd : nth (eTab M) i = some (pc, .lor, pc')) (hn : pc + 1 = pc') (k : Ok sh M pc' ls (vl (lor a b) :: st) σ Q) : Ok sh M pc ls (vl b :: vl a :: st) σ Q := by
  intro l p e s m args below meth c D dA ad H locs la C hH hL hS
  obtain ⟨hb, ha, hs⟩ := hS
  exact lv_lor C.2.1 C.2.2.1 (C.1.dec hd hn) (Ok.go k C hH hL ⟨rl_to _, hs⟩ hn (by show Value.long (Int64.ofInt (lor a b)) :: _ = _; unfold lor; rw [Int64.ofInt_toInt]))
theorem ok_lxor (i : Nat) {a b : Int} (hd : nth (eTab M) i = some (pc, .lxor, pc')) (hn : pc + 1 = pc') (k : Ok sh M pc' ls (vl (lxor a b) :: st) σ Q) : Ok sh M pc ls (vl b :: vl a :: st) σ Q := by
  intro l p e s m args below meth c D dA ad H locs la C hH hL hS
  obtain ⟨hb, ha, hs⟩ := hS
  exact lv_lxor C.2.1 C.2.2.1 (C.1.dec hd hn) (Ok.go k C hH hL ⟨rl_to _, hs⟩ hn (by show Value.long (Int64.ofInt (lxor a b)) :: _ = _; unfold lxor; rw [Int64.ofInt_toInt]))
theorem ok_iushr (i : Nat) {a b : Int} (hd : nth (eTab M) i = some (pc, .iushr, pc')) (hn : pc + 1 = pc') (k : Ok sh M pc' ls (vi (iushr a b) :: st) σ Q) : Ok sh M pc ls (vi b :: vi a :: st) σ Q := by
  intro l p e s m args below meth c D dA ad H locs la C hH hL hS
  obtain ⟨hb, ha, hs⟩ := hS
  exact lv_iushr C.2.1 C.2.2.1 (C.1.dec hd hn) rfl (Ok.go k C hH hL ⟨rg_to _, hs⟩ hn (by show Value.int (Int32.ofInt (iushr a b)) :: _ = _; unfold iushr; rw [Int32.ofInt_toInt]))
theorem ok_lushr (i : Nat) {a b : Int} (hd : nth (eTab M) i = some (pc, .lushr, pc')) (hn : pc + 1 = pc') (k : Ok sh M pc' ls (vl (lushr a b) :: st) σ Q) : Ok sh M pc ls (vi b :: vl a :: st) σ Q := by
  intro l p e s m args below meth c D dA ad H locs la C hH hL hS
  obtain ⟨hb, ha, hs⟩ := hS
  exact lv_lushr C.2.1 C.2.2.1 (C.1.dec hd hn) rfl (Ok.go k C hH hL ⟨rl_to _, hs⟩ hn (by show Value.long (Int64.ofInt (lushr a b)) :: _ = _; unfold lushr; rw [Int64.ofInt_toInt]))
theorem ok_lshl (i : Nat) {a b : Int} (hd : nth (eTab M) i = some (pc, .lshl, pc')) (hn : pc + 1 = pc') (k : Ok sh M pc' ls (vl (lshl a b) :: st) σ Q) : Ok sh M pc ls (vi b :: vl a :: st) σ Q := by
  intro l p e s m args below meth c D dA ad H locs la C hH hL hS
  obtain ⟨hb, ha, hs⟩ := hS
  exact lv_lshl C.2.1 C.2.2.1 (C.1.dec hd hn) rfl (Ok.go k C hH hL ⟨rl_to _, hs⟩ hn (by show Value.long (Int64.ofInt (lshl a b)) :: _ = _; unfold lshl; rw [Int64.ofInt_toInt]))
theorem ok_i2l (i : Nat) {a : Int} (hd : nth (eTab M) i = some (pc, .i2l, pc')) (hn : pc + 1 = pc') (k : Ok sh M pc' ls (vl a :: st) σ Q) : Ok sh M pc ls (vi a :: st) σ Q := by
  intro l p e s m args below meth c D dA ad H locs la C hH hL hS
  obtain ⟨ha, hs⟩ := hS
  exact lv_i2l C.2.1 C.2.2.1 (C.1.dec hd hn) (i2l_of ha) (Ok.go k C hH hL ⟨⟨by obtain ⟨h1, h2⟩ : rg a := ha; omega, by obtain ⟨h1, h2⟩ : rg a := ha; omega⟩, hs⟩ hn (by rfl))
theorem ok_l2iW (i : Nat) {a : Int} (hd : nth (eTab M) i = some (pc, .l2i, pc')) (hn : pc + 1 = pc') (k : Ok sh M pc' ls (vi (wr a) :: st) σ Q) : Ok sh M pc ls (vl a :: st) σ Q := by
  intro l p e s m args below meth c D dA ad H locs la C hH hL hS
  obtain ⟨ha, hs⟩ := hS
  exact lv_l2i C.2.1 C.2.2.1 (C.1.dec hd hn) l2i_of (Ok.go k C hH hL ⟨rg_wr _, hs⟩ hn (by show Value.int (Int32.ofInt (wr a)) :: _ = _; rw [of_wr]))
theorem ok_l2i (i : Nat) {a : Int} (hd : nth (eTab M) i = some (pc, .l2i, pc')) (hn : pc + 1 = pc') (hr : rg a) (k : Ok sh M pc' ls (vi a :: st) σ Q) : Ok sh M pc ls (vl a :: st) σ Q := by
  intro l p e s m args below meth c D dA ad H locs la C hH hL hS
  obtain ⟨ha, hs⟩ := hS
  exact lv_l2i C.2.1 C.2.2.1 (C.1.dec hd hn) l2i_of (Ok.go k C hH hL ⟨hr, hs⟩ hn (by rfl))
theorem ok_iconst (i : Nat) {z : Int} (hd : nth (eTab M) i = some (pc, .iconst z, pc')) (hn : pc + 1 = pc') (hr : rg z) (k : Ok sh M pc' ls (vi z :: st) σ Q) : Ok sh M pc ls (st) σ Q := by
  intro l p e s m args below meth c D dA ad H locs la C hH hL hS
  exact lv_iconst C.2.1 C.2.2.1 (C.1.dec hd hn) rfl (Ok.go k C hH hL ⟨hr, hS⟩ hn (by rfl))
theorem ok_bipush (i : Nat) {z : Int} (hd : nth (eTab M) i = some (pc, .bipush z, pc')) (hn : pc + 2 = pc') (hr : rg z) (hv : (Int8.ofInt z).toInt32 = Int32.ofInt z) (k : Ok sh M pc' ls (vi z :: st) σ Q) : Ok sh M pc ls (st) σ Q := by
  intro l p e s m args below meth c D dA ad H locs la C hH hL hS
  exact lv_bipush C.2.1 C.2.2.1 (C.1.dec hd hn) hv (Ok.go k C hH hL ⟨hr, hS⟩ hn (by rfl))
theorem ok_sipush (i : Nat) {z : Int} (hd : nth (eTab M) i = some (pc, .sipush z, pc')) (hn : pc + 3 = pc') (hr : rg z) (hv : (Int16.ofInt z).toInt32 = Int32.ofInt z) (k : Ok sh M pc' ls (vi z :: st) σ Q) : Ok sh M pc ls (st) σ Q := by
  intro l p e s m args below meth c D dA ad H locs la C hH hL hS
  exact lv_sipush C.2.1 C.2.2.1 (C.1.dec hd hn) hv (Ok.go k C hH hL ⟨hr, hS⟩ hn (by rfl))
theorem ok_lconst (i : Nat) {z : Fin 2} {w : Int} (hd : nth (eTab M) i = some (pc, .lconst z, pc')) (hn : pc + 1 = pc') (hw : Int64.ofNat z.val = Int64.ofInt w) (hr : rl w) (k : Ok sh M pc' ls (vl w :: st) σ Q) : Ok sh M pc ls st σ Q := by
  intro l p e s m args below meth c D dA ad H locs la C hH hL hS
  exact lv_lconst C.2.1 C.2.2.1 (C.1.dec hd hn) hw (Ok.go k C hH hL ⟨hr, hS⟩ hn rfl)
theorem ok_ldcw (i : Nat) {x : Nat} (z : Int) (hd : nth (eTab M) i = some (pc, .ldc_w x, pc')) (hn : pc + 3 = pc') (hc : Cond.constant (eOwn M) x (Int32.ofInt z) ∈ eTbl) (hr : rg z) (k : Ok sh M pc' ls (vi z :: st) σ Q) : Ok sh M pc ls st σ Q := by
  intro l p e s m args below meth c D dA ad H locs la C hH hL hS
  exact lv_ldcw C.2.1 C.2.2.1 C.2.2.2.2.2.2.1 (C.2.2.2.2.2.2.2.1 _ hc) (C.1.dec hd hn) (Ok.go k C hH hL ⟨hr, hS⟩ hn rfl)
theorem ok_ldc2 (i : Nat) {x : Nat} (z : Int) (hd : nth (eTab M) i = some (pc, .ldc2_w x, pc')) (hn : pc + 3 = pc') (hc : Cond.constantLong (eOwn M) x (Int64.ofInt z) ∈ eTbl) (hr : rl z) (k : Ok sh M pc' ls (vl z :: st) σ Q) : Ok sh M pc ls st σ Q := by
  intro l p e s m args below meth c D dA ad H locs la C hH hL hS
  exact lv_ldc2 C.2.1 C.2.2.1 C.2.2.2.2.2.2.1 (C.2.2.2.2.2.2.2.1 _ hc) (C.1.dec hd hn) (Ok.go k C hH hL ⟨hr, hS⟩ hn rfl)
theorem ok_null (i : Nat) (hd : nth (eTab M) i = some (pc, .aconst_null, pc')) (hn : pc + 1 = pc') (k : Ok sh M pc' ls (vn :: st) σ Q) : Ok sh M pc ls st σ Q := by
  intro l p e s m args below meth c D dA ad H locs la C hH hL hS
  exact lv_null C.2.1 C.2.2.1 (C.1.dec hd hn) (Ok.go k C hH hL ⟨trivial, hS⟩ hn rfl)
theorem ok_dup (i : Nat) {v : eV} (hd : nth (eTab M) i = some (pc, .dup, pc')) (hn : pc + 1 = pc') (hc : eCat v = 1) (k : Ok sh M pc' ls (v :: v :: st) σ Q) : Ok sh M pc ls (v :: st) σ Q := by
  intro l p e s m args below meth c D dA ad H locs la C hH hL hS
  exact lv_dup C.2.1 C.2.2.1 (C.1.dec hd hn) (by rw [eR_cat]; exact hc) (Ok.go k C hH hL ⟨hS.1, hS⟩ hn rfl)
theorem ok_dup2 (i : Nat) {v w : eV} (hd : nth (eTab M) i = some (pc, .dup2, pc')) (hn : pc + 1 = pc') (hc : eCat v = 1 ∧ eCat w = 1) (k : Ok sh M pc' ls (v :: w :: v :: w :: st) σ Q) : Ok sh M pc ls (v :: w :: st) σ Q := by
  intro l p e s m args below meth c D dA ad H locs la C hH hL hS
  exact lv_dup2_11 C.2.1 C.2.2.1 (C.1.dec hd hn) (by rw [eR_cat]; exact hc.1) (by rw [eR_cat]; exact hc.2) (Ok.go k C hH hL ⟨hS.1, hS.2.1, hS⟩ hn rfl)
theorem ok_pop (i : Nat) {v : eV} (hd : nth (eTab M) i = some (pc, .pop, pc')) (hn : pc + 1 = pc') (hc : eCat v = 1) (k : Ok sh M pc' ls st σ Q) : Ok sh M pc ls (v :: st) σ Q := by
  intro l p e s m args below meth c D dA ad H locs la C hH hL hS
  exact lv_pop C.2.1 C.2.2.1 (C.1.dec hd hn) (by rw [eR_cat]; exact hc) (Ok.go k C hH hL hS.2 hn rfl)
theorem ok_goto (i : Nat) {off : Int} (tgt : Nat) (hd : nth (eTab M) i = some (pc, .goto off, pc')) (hn : pc + 3 = pc') (ht : (pc : Int) + off = (tgt : Int)) (k : Ok sh M tgt ls st σ Q) : Ok sh M pc ls st σ Q := by
  intro l p e s m args below meth c D dA ad H locs la C hH hL hS
  exact lv_goto C.2.1 C.2.2.1 (C.1.dec hd hn) ht (Ok.go k C hH hL hS rfl rfl)
theorem ok_icmp_eq (i : Nat) {off : Int} {a b : Int} (tgt : Nat) (hd : nth (eTab M) i = some (pc, .if_icmp .eq off, pc')) (hn : pc + 3 = pc') (ht : (pc : Int) + off = (tgt : Int)) (kt : a = b → Ok sh M tgt ls st σ Q) (kf : ¬ a = b → Ok sh M pc' ls st σ Q) : Ok sh M pc ls (vi b :: vi a :: st) σ Q := by
  intro l p e s m args below meth c D dA ad H locs la C hH hL hS
  obtain ⟨hb, ha, hs⟩ := hS
  have e1 := rg_eq ha hb
  have e2 := rg_lt ha hb
  have e3 := rg_le ha hb
  have e4 := rg_lt hb ha
  have e5 := rg_le hb ha
  refine lv_icmp_eq C.2.1 C.2.2.1 (C.1.dec hd hn) ht (fun h => Ok.go (kt ?_) C hH hL hs rfl rfl) (fun h => Ok.go (kf ?_) C hH hL hs hn rfl)
  · simp only [e1, e2, e3, e4, e5] at h
    omega
  · simp only [e1, e2, e3, e4, e5] at h
    omega
theorem ok_if_eq (i : Nat) {off : Int} {a : Int} (tgt : Nat) (hd : nth (eTab M) i = some (pc, .ifCond .eq off, pc')) (hn : pc + 3 = pc') (ht : (pc : Int) + off = (tgt : Int)) (kt : a = 0 → Ok sh M tgt ls st σ Q) (kf : ¬ a = 0 → Ok sh M pc' ls st σ Q) : Ok sh M pc ls (vi a :: st) σ Q := by
  intro l p e s m args below meth c D dA ad H locs la C hH hL hS
  obtain ⟨ha, hs⟩ := hS
  have e1 := rg_eq ha rg_0
  have e2 := rg_lt ha rg_0
  have e3 := rg_le ha rg_0
  have e4 := rg_lt rg_0 ha
  have e5 := rg_le rg_0 ha
  rw [of_0] at e1 e2 e3 e4 e5
  refine lv_if_eq C.2.1 C.2.2.1 (C.1.dec hd hn) ht (fun h => Ok.go (kt ?_) C hH hL hs rfl rfl) (fun h => Ok.go (kf ?_) C hH hL hs hn rfl)
  · simp only [e1, e2, e3, e4, e5] at h
    omega
  · simp only [e1, e2, e3, e4, e5] at h
    omega
theorem ok_icmp_ne (i : Nat) {off : Int} {a b : Int} (tgt : Nat) (hd : nth (eTab M) i = some (pc, .if_icmp .ne off, pc')) (hn : pc + 3 = pc') (ht : (pc : Int) + off = (tgt : Int)) (kt : ¬ a = b → Ok sh M tgt ls st σ Q) (kf : a = b → Ok sh M pc' ls st σ Q) : Ok sh M pc ls (vi b :: vi a :: st) σ Q := by
  intro l p e s m args below meth c D dA ad H locs la C hH hL hS
  obtain ⟨hb, ha, hs⟩ := hS
  have e1 := rg_eq ha hb
  have e2 := rg_lt ha hb
  have e3 := rg_le ha hb
  have e4 := rg_lt hb ha
  have e5 := rg_le hb ha
  refine lv_icmp_ne C.2.1 C.2.2.1 (C.1.dec hd hn) ht (fun h => Ok.go (kt ?_) C hH hL hs rfl rfl) (fun h => Ok.go (kf ?_) C hH hL hs hn rfl)
  · simp only [e1, e2, e3, e4, e5] at h
    omega
  · simp only [e1, e2, e3, e4, e5] at h
    omega
theorem ok_if_ne (i : Nat) {off : Int} {a : Int} (tgt : Nat) (hd : nth (eTab M) i = some (pc, .ifCond .ne off, pc')) (hn : pc + 3 = pc') (ht : (pc : Int) + off = (tgt : Int)) (kt : ¬ a = 0 → Ok sh M tgt ls st σ Q) (kf : a = 0 → Ok sh M pc' ls st σ Q) : Ok sh M pc ls (vi a :: st) σ Q := by
  intro l p e s m args below meth c D dA ad H locs la C hH hL hS
  obtain ⟨ha, hs⟩ := hS
  have e1 := rg_eq ha rg_0
  have e2 := rg_lt ha rg_0
  have e3 := rg_le ha rg_0
  have e4 := rg_lt rg_0 ha
  have e5 := rg_le rg_0 ha
  rw [of_0] at e1 e2 e3 e4 e5
  refine lv_if_ne C.2.1 C.2.2.1 (C.1.dec hd hn) ht (fun h => Ok.go (kt ?_) C hH hL hs rfl rfl) (fun h => Ok.go (kf ?_) C hH hL hs hn rfl)
  · simp only [e1, e2, e3, e4, e5] at h
    omega
  · simp only [e1, e2, e3, e4, e5] at h
    omega
theorem ok_icmp_lt (i : Nat) {off : Int} {a b : Int} (tgt : Nat) (hd : nth (eTab M) i = some (pc, .if_icmp .lt off, pc')) (hn : pc + 3 = pc') (ht : (pc : Int) + off = (tgt : Int)) (kt : a < b → Ok sh M tgt ls st σ Q) (kf : b ≤ a → Ok sh M pc' ls st σ Q) : Ok sh M pc ls (vi b :: vi a :: st) σ Q := by
  intro l p e s m args below meth c D dA ad H locs la C hH hL hS
  obtain ⟨hb, ha, hs⟩ := hS
  have e1 := rg_eq ha hb
  have e2 := rg_lt ha hb
  have e3 := rg_le ha hb
  have e4 := rg_lt hb ha
  have e5 := rg_le hb ha
  refine lv_icmp_lt C.2.1 C.2.2.1 (C.1.dec hd hn) ht (fun h => Ok.go (kt ?_) C hH hL hs rfl rfl) (fun h => Ok.go (kf ?_) C hH hL hs hn rfl)
  · simp only [e1, e2, e3, e4, e5] at h
    omega
  · simp only [e1, e2, e3, e4, e5] at h
    omega
theorem ok_if_lt (i : Nat) {off : Int} {a : Int} (tgt : Nat) (hd : nth (eTab M) i = some (pc, .ifCond .lt off, pc')) (hn : pc + 3 = pc') (ht : (pc : Int) + off = (tgt : Int)) (kt : a < 0 → Ok sh M tgt ls st σ Q) (kf : 0 ≤ a → Ok sh M pc' ls st σ Q) : Ok sh M pc ls (vi a :: st) σ Q := by
  intro l p e s m args below meth c D dA ad H locs la C hH hL hS
  obtain ⟨ha, hs⟩ := hS
  have e1 := rg_eq ha rg_0
  have e2 := rg_lt ha rg_0
  have e3 := rg_le ha rg_0
  have e4 := rg_lt rg_0 ha
  have e5 := rg_le rg_0 ha
  rw [of_0] at e1 e2 e3 e4 e5
  refine lv_if_lt C.2.1 C.2.2.1 (C.1.dec hd hn) ht (fun h => Ok.go (kt ?_) C hH hL hs rfl rfl) (fun h => Ok.go (kf ?_) C hH hL hs hn rfl)
  · simp only [e1, e2, e3, e4, e5] at h
    omega
  · simp only [e1, e2, e3, e4, e5] at h
    omega
theorem ok_icmp_ge (i : Nat) {off : Int} {a b : Int} (tgt : Nat) (hd : nth (eTab M) i = some (pc, .if_icmp .ge off, pc')) (hn : pc + 3 = pc') (ht : (pc : Int) + off = (tgt : Int)) (kt : b ≤ a → Ok sh M tgt ls st σ Q) (kf : a < b → Ok sh M pc' ls st σ Q) : Ok sh M pc ls (vi b :: vi a :: st) σ Q := by
  intro l p e s m args below meth c D dA ad H locs la C hH hL hS
  obtain ⟨hb, ha, hs⟩ := hS
  have e1 := rg_eq ha hb
  have e2 := rg_lt ha hb
  have e3 := rg_le ha hb
  have e4 := rg_lt hb ha
  have e5 := rg_le hb ha
  refine lv_icmp_ge C.2.1 C.2.2.1 (C.1.dec hd hn) ht (fun h => Ok.go (kt ?_) C hH hL hs rfl rfl) (fun h => Ok.go (kf ?_) C hH hL hs hn rfl)
  · simp only [e1, e2, e3, e4, e5] at h
    omega
  · simp only [e1, e2, e3, e4, e5] at h
    omega
theorem ok_if_ge (i : Nat) {off : Int} {a : Int} (tgt : Nat) (hd : nth (eTab M) i = some (pc, .ifCond .ge off, pc')) (hn : pc + 3 = pc') (ht : (pc : Int) + off = (tgt : Int)) (kt : 0 ≤ a → Ok sh M tgt ls st σ Q) (kf : a < 0 → Ok sh M pc' ls st σ Q) : Ok sh M pc ls (vi a :: st) σ Q := by
  intro l p e s m args below meth c D dA ad H locs la C hH hL hS
  obtain ⟨ha, hs⟩ := hS
  have e1 := rg_eq ha rg_0
  have e2 := rg_lt ha rg_0
  have e3 := rg_le ha rg_0
  have e4 := rg_lt rg_0 ha
  have e5 := rg_le rg_0 ha
  rw [of_0] at e1 e2 e3 e4 e5
  refine lv_if_ge C.2.1 C.2.2.1 (C.1.dec hd hn) ht (fun h => Ok.go (kt ?_) C hH hL hs rfl rfl) (fun h => Ok.go (kf ?_) C hH hL hs hn rfl)
  · simp only [e1, e2, e3, e4, e5] at h
    omega
  · simp only [e1, e2, e3, e4, e5] at h
    omega
theorem ok_icmp_gt (i : Nat) {off : Int} {a b : Int} (tgt : Nat) (hd : nth (eTab M) i = some (pc, .if_icmp .gt off, pc')) (hn : pc + 3 = pc') (ht : (pc : Int) + off = (tgt : Int)) (kt : b < a → Ok sh M tgt ls st σ Q) (kf : a ≤ b → Ok sh M pc' ls st σ Q) : Ok sh M pc ls (vi b :: vi a :: st) σ Q := by
  intro l p e s m args below meth c D dA ad H locs la C hH hL hS
  obtain ⟨hb, ha, hs⟩ := hS
  have e1 := rg_eq ha hb
  have e2 := rg_lt ha hb
  have e3 := rg_le ha hb
  have e4 := rg_lt hb ha
  have e5 := rg_le hb ha
  refine lv_icmp_gt C.2.1 C.2.2.1 (C.1.dec hd hn) ht (fun h => Ok.go (kt ?_) C hH hL hs rfl rfl) (fun h => Ok.go (kf ?_) C hH hL hs hn rfl)
  · simp only [e1, e2, e3, e4, e5] at h
    omega
  · simp only [e1, e2, e3, e4, e5] at h
    omega
theorem ok_if_gt (i : Nat) {off : Int} {a : Int} (tgt : Nat) (hd : nth (eTab M) i = some (pc, .ifCond .gt off, pc')) (hn : pc + 3 = pc') (ht : (pc : Int) + off = (tgt : Int)) (kt : 0 < a → Ok sh M tgt ls st σ Q) (kf : a ≤ 0 → Ok sh M pc' ls st σ Q) : Ok sh M pc ls (vi a :: st) σ Q := by
  intro l p e s m args below meth c D dA ad H locs la C hH hL hS
  obtain ⟨ha, hs⟩ := hS
  have e1 := rg_eq ha rg_0
  have e2 := rg_lt ha rg_0
  have e3 := rg_le ha rg_0
  have e4 := rg_lt rg_0 ha
  have e5 := rg_le rg_0 ha
  rw [of_0] at e1 e2 e3 e4 e5
  refine lv_if_gt C.2.1 C.2.2.1 (C.1.dec hd hn) ht (fun h => Ok.go (kt ?_) C hH hL hs rfl rfl) (fun h => Ok.go (kf ?_) C hH hL hs hn rfl)
  · simp only [e1, e2, e3, e4, e5] at h
    omega
  · simp only [e1, e2, e3, e4, e5] at h
    omega
theorem ok_icmp_le (i : Nat) {off : Int} {a b : Int} (tgt : Nat) (hd : nth (eTab M) i = some (pc, .if_icmp .le off, pc')) (hn : pc + 3 = pc') (ht : (pc : Int) + off = (tgt : Int)) (kt : a ≤ b → Ok sh M tgt ls st σ Q) (kf : b < a → Ok sh M pc' ls st σ Q) : Ok sh M pc ls (vi b :: vi a :: st) σ Q := by
  intro l p e s m args below meth c D dA ad H locs la C hH hL hS
  obtain ⟨hb, ha, hs⟩ := hS
  have e1 := rg_eq ha hb
  have e2 := rg_lt ha hb
  have e3 := rg_le ha hb
  have e4 := rg_lt hb ha
  have e5 := rg_le hb ha
  refine lv_icmp_le C.2.1 C.2.2.1 (C.1.dec hd hn) ht (fun h => Ok.go (kt ?_) C hH hL hs rfl rfl) (fun h => Ok.go (kf ?_) C hH hL hs hn rfl)
  · simp only [e1, e2, e3, e4, e5] at h
    omega
  · simp only [e1, e2, e3, e4, e5] at h
    omega
theorem ok_if_le (i : Nat) {off : Int} {a : Int} (tgt : Nat) (hd : nth (eTab M) i = some (pc, .ifCond .le off, pc')) (hn : pc + 3 = pc') (ht : (pc : Int) + off = (tgt : Int)) (kt : a ≤ 0 → Ok sh M tgt ls st σ Q) (kf : 0 < a → Ok sh M pc' ls st σ Q) : Ok sh M pc ls (vi a :: st) σ Q := by
  intro l p e s m args below meth c D dA ad H locs la C hH hL hS
  obtain ⟨ha, hs⟩ := hS
  have e1 := rg_eq ha rg_0
  have e2 := rg_lt ha rg_0
  have e3 := rg_le ha rg_0
  have e4 := rg_lt rg_0 ha
  have e5 := rg_le rg_0 ha
  rw [of_0] at e1 e2 e3 e4 e5
  refine lv_if_le C.2.1 C.2.2.1 (C.1.dec hd hn) ht (fun h => Ok.go (kt ?_) C hH hL hs rfl rfl) (fun h => Ok.go (kf ?_) C hH hL hs hn rfl)
  · simp only [e1, e2, e3, e4, e5] at h
    omega
  · simp only [e1, e2, e3, e4, e5] at h
    omega
end E1
