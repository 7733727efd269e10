section E7
variable {sh : eSh} {M : eM} {pc pc' : Nat} {ls : List (Option eV)} {st : List eV} {σ : eS} {Q : eS → Option eV → Prop}
theorem ok_ist18 (i : Nat) {r : List (Option eV)} {x0 x1 x2 x3 x4 x5 x6 x7 x8 x9 x10 x11 x12 x13 x14 x15 x16 x17 y : Option eV} {z : Int} (hd : nth (eTab M) i = some (pc, .istore 18, pc')) (hn : pc + 2 = pc') (hp : eNl x17 = true) (k : Ok sh M pc' (x0 :: x1 :: x2 :: x3 :: x4 :: x5 :: x6 :: x7 :: x8 :: x9 :: x10 :: x11 :: x12 :: x13 :: x14 :: x15 :: x16 :: x17 :: some (vi z) :: r) st σ Q) : Ok sh M pc (x0 :: x1 :: x2 :: x3 :: x4 :: x5 :: x6 :: x7 :: x8 :: x9 :: x10 :: x11 :: x12 :: x13 :: x14 :: x15 :: x16 :: x17 :: y :: r) (vi z :: st) σ Q :=
  og_len fun h => og_istore (k := 18) i hd hn (by rw [← h]; simp) (by show Ok sh M pc' (x0 :: x1 :: x2 :: x3 :: x4 :: x5 :: x6 :: x7 :: x8 :: x9 :: x10 :: x11 :: x12 :: x13 :: x14 :: x15 :: x16 :: eClr x17 :: some (vi z) :: r) st σ Q; rw [eClr_id hp]; exact k)
theorem ok_inc18 (i : Nat) {r : List (Option eV)} {x0 x1 x2 x3 x4 x5 x6 x7 x8 x9 x10 x11 x12 x13 x14 x15 x16 x17 : Option eV} {n z : Int} (hd : nth (eTab M) i = some (pc, .iinc 18 n, pc')) (hn : pc + 3 = pc') (hp : eNl x17 = true) (hr : rg (z + n)) (k : Ok sh M pc' (x0 :: x1 :: x2 :: x3 :: x4 :: x5 :: x6 :: x7 :: x8 :: x9 :: x10 :: x11 :: x12 :: x13 :: x14 :: x15 :: x16 :: x17 :: some (vi (z + n)) :: r) st σ Q) : Ok sh M pc (x0 :: x1 :: x2 :: x3 :: x4 :: x5 :: x6 :: x7 :: x8 :: x9 :: x10 :: x11 :: x12 :: x13 :: x14 :: x15 :: x16 :: x17 :: some (vi z) :: r) st σ Q :=
  og_iinc (k := 18) i hd hn rfl hr (by show Ok sh M pc' (x0 :: x1 :: x2 :: x3 :: x4 :: x5 :: x6 :: x7 :: x8 :: x9 :: x10 :: x11 :: x12 :: x13 :: x14 :: x15 :: x16 :: eClr x17 :: some (vi (z + n)) :: r) st σ Q; rw [eClr_id hp]; exact k)
theorem ok_ist19 (i : Nat) {r : List (Option eV)} {x0 x1 x2 x3 x4 x5 x6 x7 x8 x9 x10 x11 x12 x13 x14 x15 x16 x17 x18 y : Option eV} {z : Int} (hd : nth (eTab M) i = some (pc, .istore 19, pc')) (hn : pc + 2 = pc') (hp : eNl x18 = true) (k : Ok sh M pc' (x0 :: x1 :: x2 :: x3 :: x4 :: x5 :: x6 :: x7 :: x8 :: x9 :: x10 :: x11 :: x12 :: x13 :: x14 :: x15 :: x16 :: x17 :: x18 :: some (vi z) :: r) st σ Q) : Ok sh M pc (x0 :: x1 :: x2 :: x3 :: x4 :: x5 :: x6 :: x7 :: x8 :: x9 :: x10 :: x11 :: x12 :: x13 :: x14 :: x15 :: x16 :: x17 :: x18 :: y :: r) (vi z :: st) σ Q :=
  og_len fun h => og_istore (k := 19) i hd hn (by rw [← h]; simp) (by show Ok sh M pc' (x0 :: x1 :: x2 :: x3 :: x4 :: x5 :: x6 :: x7 :: x8 :: x9 :: x10 :: x11 :: x12 :: x13 :: x14 :: x15 :: x16 :: x17 :: eClr x18 :: some (vi z) :: r) st σ Q; rw [eClr_id hp]; exact k)
theorem ok_inc19 (i : Nat) {r : List (Option eV)} {x0 x1 x2 x3 x4 x5 x6 x7 x8 x9 x10 x11 x12 x13 x14 x15 x16 x17 x18 : Option eV} {n z : Int} (hd : nth (eTab M) i = some (pc, .iinc 19 n, pc')) (hn : pc + 3 = pc') (hp : eNl x18 = true) (hr : rg (z + n)) (k : Ok sh M pc' (x0 :: x1 :: x2 :: x3 :: x4 :: x5 :: x6 :: x7 :: x8 :: x9 :: x10 :: x11 :: x12 :: x13 :: x14 :: x15 :: x16 :: x17 :: x18 :: some (vi (z + n)) :: r) st σ Q) : Ok sh M pc (x0 :: x1 :: x2 :: x3 :: x4 :: x5 :: x6 :: x7 :: x8 :: x9 :: x10 :: x11 :: x12 :: x13 :: x14 :: x15 :: x16 :: x17 :: x18 :: some (vi z) :: r) st σ Q :=
  og_iinc (k := 19) i hd hn rfl hr (by show Ok sh M pc' (x0 :: x1 :: x2 :: x3 :: x4 :: x5 :: x6 :: x7 :: x8 :: x9 :: x10 :: x11 :: x12 :: x13 :: x14 :: x15 :: x16 :: x17 :: eClr x18 :: some (vi (z + n)) :: r) st σ Q; rw [eClr_id hp]; exact k)
theorem ok_ist20 (i : Nat) {r : List (Option eV)} {x0 x1 x2 x3 x4 x5 x6 x7 x8 x9 x10 x11 x12 x13 x14 x15 x16 x17 x18 x19 y : Option eV} {z : Int} (hd : nth (eTab M) i = some (pc, .istore 20, pc')) (hn : pc + 2 = pc') (hp : eNl x19 = true) (k : Ok sh M pc' (x0 :: x1 :: x2 :: x3 :: x4 :: x5 :: x6 :: x7 :: x8 :: x9 :: x10 :: x11 :: x12 :: x13 :: x14 :: x15 :: x16 :: x17 :: x18 :: x19 :: some (vi z) :: r) st σ Q) : Ok sh M pc (x0 :: x1 :: x2 :: x3 :: x4 :: x5 :: x6 :: x7 :: x8 :: x9 :: x10 :: x11 :: x12 :: x13 :: x14 :: x15 :: x16 :: x17 :: x18 :: x19 :: y :: r) (vi z :: st) σ Q :=
  og_len fun h => og_istore (k := 20) i hd hn (by rw [← h]; simp) (by show Ok sh M pc' (x0 :: x1 :: x2 :: x3 :: x4 :: x5 :: x6 :: x7 :: x8 :: x9 :: x10 :: x11 :: x12 :: x13 :: x14 :: x15 :: x16 :: x17 :: x18 :: eClr x19 :: some (vi z) :: r) st σ Q; rw [eClr_id hp]; exact k)
theorem ok_lst21 (i : Nat) {r : List (Option eV)} {y2 : Option eV} {x0 x1 x2 x3 x4 x5 x6 x7 x8 x9 x10 x11 x12 x13 x14 x15 x16 x17 x18 x19 x20 y : Option eV} {z : Int} (hd : nth (eTab M) i = some (pc, .lstore 21, pc')) (hn : pc + 2 = pc') (hp : eNl x20 = true) (k : Ok sh M pc' (x0 :: x1 :: x2 :: x3 :: x4 :: x5 :: x6 :: x7 :: x8 :: x9 :: x10 :: x11 :: x12 :: x13 :: x14 :: x15 :: x16 :: x17 :: x18 :: x19 :: x20 :: some (vl z) :: none :: r) st σ Q) : Ok sh M pc (x0 :: x1 :: x2 :: x3 :: x4 :: x5 :: x6 :: x7 :: x8 :: x9 :: x10 :: x11 :: x12 :: x13 :: x14 :: x15 :: x16 :: x17 :: x18 :: x19 :: x20 :: y :: y2 :: r) (vl z :: st) σ Q :=
  og_len fun h => og_lstore (k := 21) i hd hn (by rw [← h]; simp) (by show Ok sh M pc' (x0 :: x1 :: x2 :: x3 :: x4 :: x5 :: x6 :: x7 :: x8 :: x9 :: x10 :: x11 :: x12 :: x13 :: x14 :: x15 :: x16 :: x17 :: x18 :: x19 :: eClr x20 :: some (vl z) :: none :: r) st σ Q; rw [eClr_id hp]; exact k)
theorem ok_lst23 (i : Nat) {r : List (Option eV)} {y2 : Option eV} {x0 x1 x2 x3 x4 x5 x6 x7 x8 x9 x10 x11 x12 x13 x14 x15 x16 x17 x18 x19 x20 x21 x22 y : Option eV} {z : Int} (hd : nth (eTab M) i = some (pc, .lstore 23, pc')) (hn : pc + 2 = pc') (hp : eNl x22 = true) (k : Ok sh M pc' (x0 :: x1 :: x2 :: x3 :: x4 :: x5 :: x6 :: x7 :: x8 :: x9 :: x10 :: x11 :: x12 :: x13 :: x14 :: x15 :: x16 :: x17 :: x18 :: x19 :: x20 :: x21 :: x22 :: some (vl z) :: none :: r) st σ Q) : Ok sh M pc (x0 :: x1 :: x2 :: x3 :: x4 :: x5 :: x6 :: x7 :: x8 :: x9 :: x10 :: x11 :: x12 :: x13 :: x14 :: x15 :: x16 :: x17 :: x18 :: x19 :: x20 :: x21 :: x22 :: y :: y2 :: r) (vl z :: st) σ Q :=
  og_len fun h => og_lstore (k := 23) i hd hn (by rw [← h]; simp) (by show Ok sh M pc' (x0 :: x1 :: x2 :: x3 :: x4 :: x5 :: x6 :: x7 :: x8 :: x9 :: x10 :: x11 :: x12 :: x13 :: x14 :: x15 :: x16 :: x17 :: x18 :: x19 :: x20 :: x21 :: eClr x22 :: some (vl z) :: none :: r) st σ Q; rw [eClr_id hp]; exact k)
end E7
/-! what holds of the class between calls -/
def iTs (σ : eS) : Prop := ∀ t, tA t → iT σ t ∧ mT σ t
def iCh (σ : eS) : Prop := ∀ k : Int, 0 ≤ k → k < 8 → 0 ≤ σ 17 k ∧ σ 17 k ≤ 7
def iMi (σ : eS) : Prop := (0 ≤ σ 22 5 ∧ σ 22 5 ≤ 64 ∧ 0 ≤ σ 22 4 ∧ σ 22 4 ≤ 8 ∧ 0 ≤ σ 22 6 ∧ σ 22 6 ≤ 799999992 ∧ σ 22 3 ≤ 8) ∧ (∀ k : Int, 0 ≤ k → k < σ 22 5 → 0 ≤ σ 23 k) ∧ (∀ k : Int, 0 ≤ k → k < 512 → 0 ≤ σ 24 k ∧ σ 24 k ≤ 7) ∧ sm (fun k => σ 23 k) (σ 22 5).toNat ≤ σ 22 6
def iSh (σ : eS) : Prop := 0 ≤ σ 46 1 ∧ σ 46 1 ≤ 1216
def iSu (σ : eS) : Prop := ∀ k : Int, 0 ≤ k → k < 64 → 0 ≤ σ 15 k
/-- the searches: no mark is ahead of the counter -/
def iSe (σ : eS) : Prop := 0 ≤ σ 16 3 ∧ ∀ T : Int, 0 ≤ T → T < 256 → σ 19 T ≤ σ 16 3
theorem iSe_cg {σ τ : eS} (h : iSe σ) (e : τ 16 3 = σ 16 3) (e2 : ∀ k, τ 19 k = σ 19 k) : iSe τ := by
  unfold iSe
  simp only [e, e2]
  exact h
/-- at most N searches were made -/
def mkS (N : Int) (σ σ' : eS) : Prop := iSe σ → σ 16 3 + N ≤ 2147483647 → iSe σ' ∧ σ 16 3 ≤ σ' 16 3 ∧ σ' 16 3 ≤ σ 16 3 + N
theorem mkS_cg {N : Int} {σ τ : eS} (hN : 0 ≤ N) (e : τ 16 3 = σ 16 3) (e2 : ∀ k, τ 19 k = σ 19 k) : mkS N σ τ := fun h _ => ⟨iSe_cg h e e2, by omega, by omega⟩
theorem mkS_fr {N : Int} {P : Nat → Int → Prop} {σ τ : eS} (hN : 0 ≤ N) (f : fr P σ τ) (h1 : ¬ P 16 3) (h2 : ∀ k, ¬ P 19 k) : mkS N σ τ := mkS_cg hN (f _ _ h1) (fun k => f _ _ (h2 k))
theorem mkS.tr {a b : Int} {σ τ υ : eS} (h : mkS a σ τ) (g : mkS b τ υ) (ha : 0 ≤ a) (hb : 0 ≤ b) : mkS (a + b) σ υ := fun i l => by
  obtain ⟨i1, l1, l2⟩ := h i (by omega)
  obtain ⟨j1, k1, k2⟩ := g i1 (by omega)
  exact ⟨j1, by omega, by omega⟩
theorem mkS.mono {a b : Int} {σ τ : eS} (h : mkS a σ τ) (hab : a ≤ b) : mkS b σ τ := fun i l => by
  obtain ⟨i1, l1, l2⟩ := h i (by omega)
  exact ⟨i1, l1, by omega⟩
def IA (σ : eS) : Prop := tL σ ∧ iTs σ ∧ iCh σ ∧ iMi σ ∧ iSh σ ∧ iSu σ
/-- the tape stays -/
def tpS (σ σ' : eS) : Prop := (∀ k, σ' 10 k = σ 10 k) ∧ ∀ k, σ' 11 k = σ 11 k
/-- the tables stay -/
def tbS (σ σ' : eS) : Prop := ∀ (c : Nat) (k : Int), 2 ≤ c → c ≤ 9 → (c ≤ 5 → k ≤ 3) → σ' c k = σ c k
/-- the parts kept, what was shown, and few searches -/
def miS (σ σ' : eS) : Prop := ∀ (c : Nat) (k : Int), 22 ≤ c → c ≤ 24 → σ' c k = σ c k
def swS (σ σ' : eS) : Prop := ∀ (c : Nat) (k : Int), 46 ≤ c → c ≤ 47 → σ' c k = σ c k
def otS (σ σ' : eS) : Prop := miS σ σ' ∧ swS σ σ' ∧ mkS 20000 σ σ'
theorem otS_rf (σ : eS) : otS σ σ := ⟨fun _ _ _ _ => rfl, fun _ _ _ _ => rfl, mkS_cg (by decide) rfl (fun _ => rfl)⟩
theorem otS_fr {P : Nat → Int → Prop} {σ τ : eS} (f : fr P σ τ) (h : ∀ c k, 22 ≤ c ∧ c ≤ 24 ∨ 46 ≤ c ∧ c ≤ 47 ∨ c = 16 ∧ k = 3 ∨ c = 19 → ¬ P c k) : otS σ τ := ⟨fun c k a b => f c k (h c k (by omega)), fun c k a b => f c k (h c k (by omega)), mkS_fr (by decide) f (h _ _ (by omega)) (fun k => h _ _ (by omega))⟩
def QA0 (σ σ' : eS) : Prop := IA σ' ∧ tpS σ σ' ∧ otS σ σ'
def QA (σ σ' : eS) : Prop := IA σ' ∧ tpS σ σ' ∧ tbS σ σ' ∧ otS σ σ'
theorem QA.q0 {σ σ' : eS} (h : QA σ σ') : QA0 σ σ' := ⟨h.1, h.2.1, h.2.2.2⟩
theorem iTs_cg {σ τ : eS} (h : iTs σ) (e : ∀ c k, 2 ≤ c → c ≤ 9 → (c ≤ 5 → k ≤ 3) → τ c k = σ c k) : iTs τ := fun t ht => by
  have n := tA_10 ht
  obtain ⟨h1, h2⟩ := h t ht
  exact ⟨(iT_cg h1 (e _ _ (by omega) (by omega) (by omega)) (e _ _ (by omega) (by omega) (by omega)) (fun k => e _ _ (by omega) (by omega) (by omega))).1, mT_cg h2 (e _ _ (by omega) (by omega) (by omega)) (e _ _ (by omega) (by omega) (by omega)) (fun k => e _ _ (by omega) (by omega) (by omega))⟩
theorem iTs_set {σ τ : eS} {t : Nat} (ht : tA t) (h : iTs σ) (e : ∀ c k, 2 ≤ c → c ≤ 9 → c ≠ t → c ≠ t + 4 → τ c k = σ c k) (h1 : iT τ t) (h2 : mT τ t) : iTs τ := fun u hu => by
  by_cases q : u = t
  · subst q; exact ⟨h1, h2⟩
  · have n := tA_10 ht
    have m := tA_10 hu
    obtain ⟨g1, g2⟩ := h u hu
    exact ⟨(iT_cg g1 (e _ _ (by omega) (by omega) (by omega) (by omega)) (e _ _ (by omega) (by omega) (by omega) (by omega)) (fun k => e _ _ (by omega) (by omega) (by omega) (by omega))).1, mT_cg g2 (e _ _ (by omega) (by omega) (by omega) (by omega)) (e _ _ (by omega) (by omega) (by omega) (by omega)) (fun k => e _ _ (by omega) (by omega) (by omega) (by omega))⟩
theorem iCh_cg {σ τ : eS} (h : iCh σ) (e : ∀ k, τ 17 k = σ 17 k) : iCh τ := fun k a b => by rw [e]; exact h k a b
theorem iMi_cg {σ τ : eS} (h : iMi σ) (e : ∀ c k, 22 ≤ c → c ≤ 24 → τ c k = σ c k) : iMi τ := by
  have e2 : ∀ k, τ 22 k = σ 22 k := fun k => e _ _ (by omega) (by omega)
  have e3 : τ 23 = σ 23 := by funext k; exact e _ _ (by omega) (by omega)
  have e4 : τ 24 = σ 24 := by funext k; exact e _ _ (by omega) (by omega)
  unfold iMi
  simp only [e2, e3, e4]
  exact h
theorem iSh_cg {σ τ : eS} (h : iSh σ) (e : ∀ k, τ 46 k = σ 46 k) : iSh τ := by
  unfold iSh
  rw [e]
  exact h
theorem iSu_cg {σ τ : eS} (h : iSu σ) (e : ∀ k, τ 15 k = σ 15 k) : iSu τ := fun k a b => by rw [e]; exact h k a b
theorem QA_rf {σ : eS} (h : IA σ) : QA σ σ := ⟨h, ⟨fun _ => rfl, fun _ => rfl⟩, fun _ _ _ _ _ => rfl, otS_rf _⟩
theorem s_Ev_fault {σ : eS} {w : Int} : MtI shA M_Ev_fault [vr 0, vi w] σ (fun σ' z => σ' = σ ∧ z = if w = 0 then σ 10 4 else if w = 1 then σ 10 5 else -1) := by
  refine Mt.of okM_Ev_fault (Nat.le_of_ble_eq_true rfl) (fun hk hg => ?_)
  refine ok_iload_n 0 rfl rfl rfl (ok_if_ne 1 12 rfl rfl rfl (fun h1 => ?_) (fun h1 => ?_))
  · refine ok_iload_n 6 rfl rfl rfl (ok_iconst 7 rfl rfl (by decide) (ok_icmp_ne 8 27 rfl rfl rfl (fun h14 => ?_) (fun h14 => ?_)))
    · refine ok_iconst 13 rfl rfl (by decide) (ok_iret 14 rfl rfl rfl ?_)
      refine ⟨_, rfl, rfl, ?_⟩
      first | rw [if_pos (by omega)] | rw [if_neg (by omega), if_pos (by omega)] | rw [if_neg (by omega), if_neg (by omega)]
    · refine ok_aload_n 9 rfl rfl rfl (ok_getR 10 rfl rfl fl_X11_18 rfl rfl (ok_getI 11 rfl rfl fl_X11_100 rfl rfl (Or.inl rfl) (ok_goto 12 28 rfl rfl rfl (ok_iret 14 rfl rfl rfl ?_))))
      refine ⟨_, rfl, rfl, ?_⟩
      first | rw [if_pos (by omega)] | rw [if_neg (by omega), if_pos (by omega)] | rw [if_neg (by omega), if_neg (by omega)]
  · refine ok_aload_n 2 rfl rfl rfl (ok_getR 3 rfl rfl fl_X11_18 rfl rfl (ok_getI 4 rfl rfl fl_X11_97 rfl rfl (Or.inl rfl) (ok_iret 5 rfl rfl rfl ?_)))
    refine ⟨_, rfl, rfl, ?_⟩
    first | rw [if_pos (by omega)] | rw [if_neg (by omega), if_pos (by omega)] | rw [if_neg (by omega), if_neg (by omega)]
def celA (σ : eS) (s i j : Int) : Prop := 0 ≤ s ∧ s < 4 ∧ 0 ≤ i ∧ i < σ (s.toNat + 2) 1 ∧ 0 ≤ j ∧ j < σ (s.toNat + 2) 1
theorem s_Ev_cell {σ : eS} {s i j : Int} (h : IA σ) : MtI shA M_Ev_cell [vr 0, vi s, vi i, vi j] σ (fun σ' z => σ' = σ ∧ ((celA σ s i j ∧ z = cT σ (s.toNat + 2) i j) ∨ (¬ celA σ s i j ∧ z = -1))) := by
  refine Mt.of okM_Ev_cell (Nat.le_of_ble_eq_true rfl) (fun hk hg => ?_)
  refine ok_aload_n 0 rfl rfl rfl (ok_iload_n 1 rfl rfl rfl (ok_callVR (M' := M_Ev_slotAt) (as := [_]) 2 rfl rfl ml_X11_86 (s_Ev_slotAt) rfl rfl (Nat.le_of_ble_eq_true rfl) ⟨Nat.le_of_ble_eq_true rfl, Nat.le_of_ble_eq_true rfl⟩ rfl (Nat.le_of_ble_eq_true rfl) (fun σ' z hz => ?_)))
  obtain ⟨hs_, hz⟩ := hz
  rw [hs_]; clear hs_ σ'
  rcases hz with ⟨q, q2⟩ | ⟨q1, q2, q⟩
  · subst q
    refine ok_ast4 3 rfl rfl rfl (ok_aload 4 rfl rfl rfl (ok_ifnullN 5 30 rfl rfl rfl (ok_iconst 14 rfl rfl (by decide) (ok_iret 15 rfl rfl rfl ?_))))
    exact ⟨_, rfl, rfl, Or.inr ⟨fun w => q2 ⟨w.1, w.2.1⟩, rfl⟩⟩
  · subst q
    have ht := sl_tA ⟨q1, q2⟩
    have hT := (h.2.1 _ ht).1
    have hn := hT.2.1
    refine ok_ast4 3 rfl rfl rfl (ok_aload 4 rfl rfl rfl (ok_ifnull 5 rfl rfl (ok_aload 6 rfl rfl rfl (ok_iload_n 7 rfl rfl rfl (ok_callVI (M' := M_Ta_has) (as := [_]) 8 rfl rfl ml_X11_129 (s_Ta_has ht) (sT ht) rfl (Nat.le_of_ble_eq_true rfl) ⟨Nat.le_of_ble_eq_true rfl, Nat.le_of_ble_eq_true rfl⟩ rfl (Nat.le_of_ble_eq_true rfl) (fun σ' z1 x1 => ?_))))))
    obtain ⟨hs_, x1⟩ := x1
    rw [hs_]; clear hs_ σ'
    refine ok_if_eq 9 30 rfl rfl rfl (fun h18 => ?_) (fun h18 => ?_)
    · refine ok_iconst 14 rfl rfl (by decide) (ok_iret 15 rfl rfl rfl ?_)
      first | exact ⟨_, rfl, rfl, Or.inl ⟨⟨q1, q2, by omega, by omega, by omega, by omega⟩, rfl⟩⟩ | exact ⟨_, rfl, rfl, Or.inr ⟨fun w => by obtain ⟨w1, w2, w3, w4, w5, w6⟩ := w; omega, rfl⟩⟩
    · refine ok_aload 10 rfl rfl rfl (ok_iload_n 11 rfl rfl rfl (ok_callVI (M' := M_Ta_has) (as := [_]) 12 rfl rfl ml_X11_129 (s_Ta_has ht) (sT ht) rfl (Nat.le_of_ble_eq_true rfl) ⟨Nat.le_of_ble_eq_true rfl, Nat.le_of_ble_eq_true rfl⟩ rfl (Nat.le_of_ble_eq_true rfl) (fun σ' z2 x2 => ?_)))
      obtain ⟨hs_, x2⟩ := x2
      rw [hs_]; clear hs_ σ'
      refine ok_if_ne 13 32 rfl rfl rfl (fun h27 => ?_) (fun h27 => ?_)
      · refine ok_aload 16 rfl rfl rfl (ok_getR 17 rfl rfl fl_X11_133 (sT ht) rfl (ok_iload_n 18 rfl rfl rfl (ok_bipush 19 rfl rfl (by decide) (by decide) (ok_imul 20 rfl rfl (by first | omega | (simp [up_if]; omega) | (simp [up_if] at *; omega)) (ok_iload_n 21 rfl rfl rfl (ok_iadd 22 rfl rfl (by first | omega | (simp [up_if]; omega) | (simp [up_if] at *; omega)) (ok_iald 23 rfl rfl (sC ht) (by first | omega | (simp [up_if]; omega) | (simp [up_if] at *; omega)) (ok_iret 24 rfl rfl rfl ?_))))))))
        first | exact ⟨_, rfl, rfl, Or.inl ⟨⟨q1, q2, by omega, by omega, by omega, by omega⟩, rfl⟩⟩ | exact ⟨_, rfl, rfl, Or.inr ⟨fun w => by obtain ⟨w1, w2, w3, w4, w5, w6⟩ := w; omega, rfl⟩⟩
      · refine ok_iconst 14 rfl rfl (by decide) (ok_iret 15 rfl rfl rfl ?_)
        first | exact ⟨_, rfl, rfl, Or.inl ⟨⟨q1, q2, by omega, by omega, by omega, by omega⟩, rfl⟩⟩ | exact ⟨_, rfl, rfl, Or.inr ⟨fun w => by obtain ⟨w1, w2, w3, w4, w5, w6⟩ := w; omega, rfl⟩⟩
def tabA (σ : eS) (s : Int) : Prop := 0 ≤ s ∧ s < 4 ∧ σ (s.toNat + 2) 1 ≠ 0
theorem s_Ev_uneven {σ : eS} {s : Int} (h : IA σ) : MtI shA M_Ev_uneven [vr 0, vi s] σ (fun σ' z => σ' = σ ∧ ((¬ tabA σ s ∧ z = -1) ∨ (tabA σ s ∧ unev (rowT σ (s.toNat + 2)) (colT σ (s.toNat + 2)) (σ (s.toNat + 2) 1) z))) := by
  refine Mt.of okM_Ev_uneven (Nat.le_of_ble_eq_true rfl) (fun hk hg => ?_)
  refine ok_aload_n 0 rfl rfl rfl (ok_iload_n 1 rfl rfl rfl (ok_callVR (M' := M_Ev_filledSlot) (as := [_]) 2 rfl rfl ml_X11_137 (s_Ev_filledSlot) rfl rfl (Nat.le_of_ble_eq_true rfl) ⟨Nat.le_of_ble_eq_true rfl, Nat.le_of_ble_eq_true rfl⟩ rfl (Nat.le_of_ble_eq_true rfl) (fun σ' z hz => ?_)))
  obtain ⟨hs_, hz⟩ := hz
  rw [hs_]; clear hs_ σ'
  rcases hz with ⟨q, q0⟩ | ⟨q1, q2, q, q3⟩
  · subst q
    refine ok_ast2 3 rfl rfl rfl (ok_aload_n 4 rfl rfl rfl (ok_ifnonnullN 5 rfl rfl (ok_iconst 6 rfl rfl (by decide) (ok_goto 7 18 rfl rfl rfl (ok_iret 10 rfl rfl rfl ?_)))))
    exact ⟨_, rfl, rfl, Or.inl ⟨q0, rfl⟩⟩
  · subst q
    have ht := sl_tA ⟨q1, q2⟩
    have hT := (h.2.1 _ ht).1
    refine ok_ast2 3 rfl rfl rfl (ok_aload_n 4 rfl rfl rfl (ok_ifnonnull 5 14 rfl rfl rfl (ok_aload_n 8 rfl rfl rfl (ok_callVI (M' := M_Ta_firstUneven) (as := []) 9 rfl rfl ml_X11_140 (s_Ta_firstUneven ht hT) (sT ht) rfl (Nat.le_of_ble_eq_true rfl) ⟨Nat.le_of_ble_eq_true rfl, Nat.le_of_ble_eq_true rfl⟩ rfl (Nat.le_of_ble_eq_true rfl) (fun σ' z1 x1 => ?_)))))
    obtain ⟨hs_, x1⟩ := x1
    rw [hs_]; clear hs_ σ'
    refine ok_iret 10 rfl rfl rfl ?_
    exact ⟨_, rfl, rfl, Or.inr ⟨⟨q1, q2, q3⟩, x1⟩⟩
theorem s_Ev_look {σ : eS} {s w : Int} (h : IA σ) : MtI shA M_Ev_look [vr 0, vi s, vi w] σ (fun σ' _ => σ' = σ ∧ True) := by
  refine Mt.of okM_Ev_look (Nat.le_of_ble_eq_true rfl) (fun hk hg => ?_)
  refine ok_aload_n 0 rfl rfl rfl (ok_iload_n 1 rfl rfl rfl (ok_callVR (M' := M_Ev_slotAt) (as := [_]) 2 rfl rfl ml_X11_86 (s_Ev_slotAt) rfl rfl (Nat.le_of_ble_eq_true rfl) ⟨Nat.le_of_ble_eq_true rfl, Nat.le_of_ble_eq_true rfl⟩ rfl (Nat.le_of_ble_eq_true rfl) (fun σ' z hz => ?_)))
  obtain ⟨hs_, hz⟩ := hz
  rw [hs_]; clear hs_ σ'
  rcases hz with ⟨q, q2⟩ | ⟨q1, q2, q⟩
  · subst q
    refine ok_ast3 3 rfl rfl rfl (ok_aload_n 4 rfl rfl rfl (ok_ifnonnullN 5 rfl rfl (ok_bipush 6 rfl rfl (by decide) (by decide) (ok_iret 7 rfl rfl rfl ?_))))
    exact ⟨_, rfl, rfl, trivial⟩
  · subst q
    have ht := sl_tA ⟨q1, q2⟩
    have hT := (h.2.1 _ ht).1
    refine ok_ast3 3 rfl rfl rfl (ok_aload_n 4 rfl rfl rfl (ok_ifnonnull 5 13 rfl rfl rfl (ok_iload_n 8 rfl rfl rfl ?_)))
    rcases (by omega : w = 0 ∨ w = 1 ∨ w = 2 ∨ w = 3 ∨ w = 4 ∨ w = 5 ∨ (w < 0 ∨ 5 < w)) with q_ | q_ | q_ | q_ | q_ | q_ | q_
    · subst q_
      refine ok_tin 9 (len := 38) 52 rfl rfl (by decide) (by decide) rfl rfl ?_
      refine ok_aload_n 10 rfl rfl rfl (ok_getI 11 rfl rfl fl_X11_103 (sT ht) rfl (Or.inl rfl) (ok_iret 12 rfl rfl rfl ?_))
      exact ⟨_, rfl, rfl, trivial⟩
    · subst q_
      refine ok_tin 9 (len := 38) 57 rfl rfl (by decide) (by decide) rfl rfl ?_
      refine ok_aload_n 13 rfl rfl rfl (ok_getI 14 rfl rfl fl_X11_103 (sT ht) rfl (Or.inl rfl) (ok_if_ne 15 68 rfl rfl rfl (fun h61 => ?_) (fun h61 => ?_)))
      · refine ok_aload_n 18 rfl rfl rfl (ok_getI 19 rfl rfl fl_X11_106 (sT ht) rfl (Or.inl rfl) (ok_iret 20 rfl rfl rfl ?_))
        exact ⟨_, rfl, rfl, trivial⟩
      · refine ok_iconst 16 rfl rfl (by decide) (ok_goto 17 72 rfl rfl rfl (ok_iret 20 rfl rfl rfl ?_))
        exact ⟨_, rfl, rfl, trivial⟩
    · subst q_
      refine ok_tin 9 (len := 38) 73 rfl rfl (by decide) (by decide) rfl rfl ?_
      refine ok_aload_n 21 rfl rfl rfl (ok_getI 22 rfl rfl fl_X11_109 (sT ht) rfl (Or.inl rfl) (ok_iret 23 rfl rfl rfl ?_))
      exact ⟨_, rfl, rfl, trivial⟩
    · subst q_
      refine ok_tin 9 (len := 38) 78 rfl rfl (by decide) (by decide) rfl rfl ?_
      refine ok_aload_n 24 rfl rfl rfl (ok_callVI (M' := M_Ta_countAbove0) (as := []) 25 rfl rfl ml_X11_112 (s_Ta_countAbove0 ht hT) (sT ht) rfl (Nat.le_of_ble_eq_true rfl) ⟨Nat.le_of_ble_eq_true rfl, Nat.le_of_ble_eq_true rfl⟩ rfl (Nat.le_of_ble_eq_true rfl) (fun σ' z1 x1 => ?_))
      obtain ⟨hs_, x1⟩ := x1
      rw [hs_]; clear hs_ σ'
      refine ok_iret 26 rfl rfl rfl ?_
      exact ⟨_, rfl, rfl, trivial⟩
    · subst q_
      refine ok_tin 9 (len := 38) 83 rfl rfl (by decide) (by decide) rfl rfl ?_
      refine ok_aload_n 27 rfl rfl rfl (ok_callVI (M' := M_Ta_greatestCell) (as := []) 28 rfl rfl ml_X11_116 (s_Ta_greatestCell ht hT) (sT ht) rfl (Nat.le_of_ble_eq_true rfl) ⟨Nat.le_of_ble_eq_true rfl, Nat.le_of_ble_eq_true rfl⟩ rfl (Nat.le_of_ble_eq_true rfl) (fun σ' z1 x1 => ?_))
      obtain ⟨hs_, x1⟩ := x1
      rw [hs_]; clear hs_ σ'
      refine ok_iret 29 rfl rfl rfl ?_
      exact ⟨_, rfl, rfl, trivial⟩
    · subst q_
      refine ok_tin 9 (len := 38) 88 rfl rfl (by decide) (by decide) rfl rfl ?_
      refine ok_aload_n 30 rfl rfl rfl (ok_iconst 31 rfl rfl (by decide) (ok_callVL (M' := M_Ta_joinedBy) (as := [_]) 32 rfl rfl ml_X11_119 (s_Ta_joinedBy ht hT) (sT ht) rfl (Nat.le_of_ble_eq_true rfl) ⟨Nat.le_of_ble_eq_true rfl, Nat.le_of_ble_eq_true rfl⟩ rfl (Nat.le_of_ble_eq_true rfl) (fun σ' z1 x1 => ?_)))
      obtain ⟨hs_, x1⟩ := x1
      rw [hs_]; clear hs_ σ'
      refine ok_aload_n 33 rfl rfl rfl (ok_getI 34 rfl rfl fl_X11_103 (sT ht) rfl (Or.inl rfl) (ok_callSI (M' := M_Jo_countGroups) (as := [_, _]) 35 rfl rfl ml_X11_123 (s_Jo_countGroups hT.2.1) ⟨Nat.le_of_ble_eq_true rfl, Nat.le_of_ble_eq_true rfl⟩ rfl (Nat.le_of_ble_eq_true rfl) (fun σ' z2 x2 => ?_)))
      obtain ⟨hs_, x2⟩ := x2
      rw [hs_]; clear hs_ σ'
      refine ok_iret 36 rfl rfl rfl ?_
      exact ⟨_, rfl, rfl, trivial⟩
    · refine ok_tout 9 (len := 38) 101 rfl rfl q_ rfl ?_
      refine ok_bipush 37 rfl rfl (by decide) (by decide) (ok_iret 38 rfl rfl rfl ?_)
      exact ⟨_, rfl, rfl, trivial⟩
theorem s_Ev_isCell {σ : eS} {x : Int} : MtI shA M_Ev_isCell [vi x] σ (fun σ' z => σ' = σ ∧ ((z = 1 ∧ 0 ≤ x ∧ x ≤ 99999999) ∨ (z = 0 ∧ ¬ (0 ≤ x ∧ x ≤ 99999999)))) := by
  refine Mt.of okM_Ev_isCell (Nat.le_of_ble_eq_true rfl) (fun hk hg => ?_)
  refine ok_iload_n 0 rfl rfl rfl (ok_if_lt 1 15 rfl rfl rfl (fun h1 => ?_) (fun h1 => ?_))
  · refine ok_iconst 7 rfl rfl (by decide) (ok_zret 8 rfl rfl rfl (by first | omega | (simp [up_if]; omega) | (simp [up_if] at *; omega)) ?_)
    exact ⟨_, rfl, rfl, by omega⟩
  · refine ok_iload_n 2 rfl rfl rfl (ok_ldcw 3 (99999999) rfl rfl kc_X11_335 (by decide) (ok_icmp_gt 4 15 rfl rfl rfl (fun h8 => ?_) (fun h8 => ?_)))
    · refine ok_iconst 7 rfl rfl (by decide) (ok_zret 8 rfl rfl rfl (by first | omega | (simp [up_if]; omega) | (simp [up_if] at *; omega)) ?_)
      exact ⟨_, rfl, rfl, by omega⟩
    · refine ok_iconst 5 rfl rfl (by decide) (ok_goto 6 16 rfl rfl rfl (ok_zret 8 rfl rfl rfl (by first | omega | (simp [up_if]; omega) | (simp [up_if] at *; omega)) ?_))
      exact ⟨_, rfl, rfl, by omega⟩
theorem s_Ev_isRule {σ : eS} {x : Int} : MtI shA M_Ev_isRule [vi x] σ (fun σ' z => σ' = σ ∧ ((z = 1 ∧ 0 ≤ x ∧ x ≤ 3) ∨ (z = 0 ∧ ¬ (0 ≤ x ∧ x ≤ 3)))) := by
  refine Mt.of okM_Ev_isRule (Nat.le_of_ble_eq_true rfl) (fun hk hg => ?_)
  refine ok_iload_n 0 rfl rfl rfl (ok_if_lt 1 13 rfl rfl rfl (fun h1 => ?_) (fun h1 => ?_))
  · refine ok_iconst 7 rfl rfl (by decide) (ok_zret 8 rfl rfl rfl (by first | omega | (simp [up_if]; omega) | (simp [up_if] at *; omega)) ?_)
    exact ⟨_, rfl, rfl, by omega⟩
  · refine ok_iload_n 2 rfl rfl rfl (ok_iconst 3 rfl rfl (by decide) (ok_icmp_ge 4 13 rfl rfl rfl (fun h6 => ?_) (fun h6 => ?_)))
    · refine ok_iconst 7 rfl rfl (by decide) (ok_zret 8 rfl rfl rfl (by first | omega | (simp [up_if]; omega) | (simp [up_if] at *; omega)) ?_)
      exact ⟨_, rfl, rfl, by omega⟩
    · refine ok_iconst 5 rfl rfl (by decide) (ok_goto 6 14 rfl rfl rfl (ok_zret 8 rfl rfl rfl (by first | omega | (simp [up_if]; omega) | (simp [up_if] at *; omega)) ?_))
      exact ⟨_, rfl, rfl, by omega⟩
theorem s_Ev_isShare {σ : eS} {x y : Int} : MtI shA M_Ev_isShare [vi x, vi y] σ (fun σ' z => σ' = σ ∧ ((z = 1 ∧ 0 ≤ x ∧ x ≤ 9999 ∧ 1 ≤ y ∧ y ≤ 9999) ∨ (z = 0 ∧ ¬ (0 ≤ x ∧ x ≤ 9999 ∧ 1 ≤ y ∧ y ≤ 9999)))) := by
  refine Mt.of okM_Ev_isShare (Nat.le_of_ble_eq_true rfl) (fun hk hg => ?_)
  refine ok_iload_n 0 rfl rfl rfl (ok_if_lt 1 27 rfl rfl rfl (fun h1 => ?_) (fun h1 => ?_))
  · refine ok_iconst 13 rfl rfl (by decide) (ok_zret 14 rfl rfl rfl (by first | omega | (simp [up_if]; omega) | (simp [up_if] at *; omega)) ?_)
    exact ⟨_, rfl, rfl, by omega⟩
  · refine ok_iload_n 2 rfl rfl rfl (ok_sipush 3 rfl rfl (by decide) (by decide) (ok_icmp_gt 4 27 rfl rfl rfl (fun h8 => ?_) (fun h8 => ?_)))
    · refine ok_iconst 13 rfl rfl (by decide) (ok_zret 14 rfl rfl rfl (by first | omega | (simp [up_if]; omega) | (simp [up_if] at *; omega)) ?_)
      exact ⟨_, rfl, rfl, by omega⟩
    · refine ok_iload_n 5 rfl rfl rfl (ok_iconst 6 rfl rfl (by decide) (ok_icmp_lt 7 27 rfl rfl rfl (fun h13 => ?_) (fun h13 => ?_)))
      · refine ok_iconst 13 rfl rfl (by decide) (ok_zret 14 rfl rfl rfl (by first | omega | (simp [up_if]; omega) | (simp [up_if] at *; omega)) ?_)
        exact ⟨_, rfl, rfl, by omega⟩
      · refine ok_iload_n 8 rfl rfl rfl (ok_sipush 9 rfl rfl (by decide) (by decide) (ok_icmp_gt 10 27 rfl rfl rfl (fun h20 => ?_) (fun h20 => ?_)))
        · refine ok_iconst 13 rfl rfl (by decide) (ok_zret 14 rfl rfl rfl (by first | omega | (simp [up_if]; omega) | (simp [up_if] at *; omega)) ?_)
          exact ⟨_, rfl, rfl, by omega⟩
        · refine ok_iconst 11 rfl rfl (by decide) (ok_goto 12 28 rfl rfl rfl (ok_zret 14 rfl rfl rfl (by first | omega | (simp [up_if]; omega) | (simp [up_if] at *; omega)) ?_))
          exact ⟨_, rfl, rfl, by omega⟩
def likeA (σ : eS) (s r w : Int) : Prop := 0 ≤ s ∧ s < 4 ∧ 0 ≤ r ∧ r < 4 ∧ 0 ≤ w ∧ w < 4 ∧ σ (s.toNat + 2) 1 ≠ 0 ∧ σ (s.toNat + 2) 1 = σ (r.toNat + 2) 1
theorem s_Ev_areLike {σ : eS} {s r w : Int} : MtI shA M_Ev_areLike [vr 0, vi s, vi r, vi w] σ (fun σ' z => σ' = σ ∧ ((z = 0 ∧ ¬ likeA σ s r w) ∨ (z = 1 ∧ likeA σ s r w))) := by
  refine Mt.of okM_Ev_areLike (Nat.le_of_ble_eq_true rfl) (fun hk hg => ?_)
  refine ok_aload_n 0 rfl rfl rfl (ok_iload_n 1 rfl rfl rfl (ok_callVR (M' := M_Ev_filledSlot) (as := [_]) 2 rfl rfl ml_X11_137 (s_Ev_filledSlot) rfl rfl (Nat.le_of_ble_eq_true rfl) ⟨Nat.le_of_ble_eq_true rfl, Nat.le_of_ble_eq_true rfl⟩ rfl (Nat.le_of_ble_eq_true rfl) (fun σ' z1 x1 => ?_)))
  obtain ⟨hs_, x1⟩ := x1
  rw [hs_]; clear hs_ σ'
  refine ok_ast4 3 rfl rfl rfl (ok_aload_n 4 rfl rfl rfl (ok_iload_n 5 rfl rfl rfl (ok_callVR (M' := M_Ev_filledSlot) (as := [_]) 6 rfl rfl ml_X11_137 (s_Ev_filledSlot) rfl rfl (Nat.le_of_ble_eq_true rfl) ⟨Nat.le_of_ble_eq_true rfl, Nat.le_of_ble_eq_true rfl⟩ rfl (Nat.le_of_ble_eq_true rfl) (fun σ' z2 x2 => ?_))))
  obtain ⟨hs_, x2⟩ := x2
  rw [hs_]; clear hs_ σ'
  rcases x1 with ⟨q, q0⟩ | ⟨q1, q2, q, q3⟩
  · subst q
    refine ok_ast5 7 rfl rfl rfl (ok_aload 8 rfl rfl rfl (ok_ifnullN 9 49 rfl rfl rfl (ok_iconst 23 rfl rfl (by decide) (ok_zret 24 rfl rfl rfl (by first | omega | (simp [up_if]; omega) | (simp [up_if] at *; omega)) ?_))))
    exact ⟨_, rfl, rfl, Or.inl ⟨rfl, fun w => q0 ⟨w.1, w.2.1, w.2.2.2.2.2.2.1⟩⟩⟩
  · subst q
    have ht := sl_tA ⟨q1, q2⟩
    rcases x2 with ⟨q, r0⟩ | ⟨r1, r2, q, r3⟩
    · subst q
      refine ok_ast5 7 rfl rfl rfl (ok_aload 8 rfl rfl rfl (ok_ifnull 9 rfl rfl (ok_aload 10 rfl rfl rfl (ok_ifnullN 11 49 rfl rfl rfl (ok_iconst 23 rfl rfl (by decide) (ok_zret 24 rfl rfl rfl (by first | omega | (simp [up_if]; omega) | (simp [up_if] at *; omega)) ?_))))))
      exact ⟨_, rfl, rfl, Or.inl ⟨rfl, fun w => r0 ⟨w.2.2.1, w.2.2.2.1, by show σ (r.toNat + 2) 1 ≠ 0; rw [← w.2.2.2.2.2.2.2]; exact w.2.2.2.2.2.2.1⟩⟩⟩
    · subst q
      have hu := sl_tA ⟨r1, r2⟩
      refine ok_ast5 7 rfl rfl rfl (ok_aload 8 rfl rfl rfl (ok_ifnull 9 rfl rfl (ok_aload 10 rfl rfl rfl (ok_ifnull 11 rfl rfl (ok_aload 12 rfl rfl rfl (ok_getI 13 rfl rfl fl_X11_103 (sT ht) rfl (Or.inl rfl) (ok_aload 14 rfl rfl rfl (ok_getI 15 rfl rfl fl_X11_103 (sT hu) rfl (Or.inl rfl) (ok_icmp_ne 16 49 rfl rfl rfl (fun h34 => ?_) (fun h34 => ?_))))))))))
      · refine ok_iconst 23 rfl rfl (by decide) (ok_zret 24 rfl rfl rfl (by first | omega | (simp [up_if]; omega) | (simp [up_if] at *; omega)) ?_)
        exact ⟨_, rfl, rfl, Or.inl ⟨rfl, fun w => h34 w.2.2.2.2.2.2.2⟩⟩
      · refine ok_aload_n 17 rfl rfl rfl (ok_iload_n 18 rfl rfl rfl (ok_callVR (M' := M_Ev_slotAt) (as := [_]) 19 rfl rfl ml_X11_86 (s_Ev_slotAt) rfl rfl (Nat.le_of_ble_eq_true rfl) ⟨Nat.le_of_ble_eq_true rfl, Nat.le_of_ble_eq_true rfl⟩ rfl (Nat.le_of_ble_eq_true rfl) (fun σ' z3 x3 => ?_)))
        obtain ⟨hs_, x3⟩ := x3
        rw [hs_]; clear hs_ σ'
        rcases x3 with ⟨q, q2⟩ | ⟨w1, w2, q⟩
        · subst q
          refine ok_ifnullN 20 49 rfl rfl rfl (ok_iconst 23 rfl rfl (by decide) (ok_zret 24 rfl rfl rfl (by first | omega | (simp [up_if]; omega) | (simp [up_if] at *; omega)) ?_))
          exact ⟨_, rfl, rfl, Or.inl ⟨rfl, fun w => q2 ⟨w.2.2.2.2.1, w.2.2.2.2.2.1⟩⟩⟩
        · subst q
          refine ok_ifnull 20 rfl rfl (ok_iconst 21 rfl rfl (by decide) (ok_goto 22 50 rfl rfl rfl (ok_zret 24 rfl rfl rfl (by first | omega | (simp [up_if]; omega) | (simp [up_if] at *; omega)) ?_)))
          exact ⟨_, rfl, rfl, Or.inr ⟨rfl, q1, q2, r1, r2, w1, w2, q3, h34⟩⟩
