section E7
variable {sh : eSh} {M : eM} {pc pc' : Nat} {ls : List (Option eV)} {st : List eV} {σ : eS} {Q : eS → Option eV → Prop}
theorem ok_ist18 (i : Nat) {r : List (Option eV)} {x0 x1 x2 x3 x4 x5 x6 x7 x8 x9 x10 x11 x12 x13 x14 x15 x16 x17 y : Option eV} {z : Int} (hd : nth (eTab M) i = some (pc, .istore 18, pc')) (hn : pc + 2 = pc') (hp : eNl x17 = true) (k : Ok sh M pc' (x0 :: x1 :: x2 :: x3 :: x4 :: x5 :: x6 :: x7 :: x8 :: x9 :: x10 :: x11 :: x12 :: x13 :: x14 :: x15 :: x16 :: x17 :: some (vi z) :: r) st σ Q) : Ok sh M pc (x0 :: x1 :: x2 :: x3 :: x4 :: x5 :: x6 :: x7 :: x8 :: x9 :: x10 :: x11 :: x12 :: x13 :: x14 :: x15 :: x16 :: x17 :: y :: r) (vi z :: st) σ Q :=
  og_len fun h => og_istore (k := 18) i hd hn (by rw [← h]; simp) (by show Ok sh M pc' (x0 :: x1 :: x2 :: x3 :: x4 :: x5 :: x6 :: x7 :: x8 :: x9 :: x10 :: x11 :: x12 :: x13 :: x14 :: x15 :: x16 :: eClr x17 :: some (vi z) :: r) st σ Q; rw [eClr_id hp]; exact k)
theorem ok_inc18 (i : Nat) {r : List (Option eV)} {x0 x1 x2 x3 x4 x5 x6 x7 x8 x9 x10 x11 x12 x13 x14 x15 x16 x17 : Option eV} {n z : Int} (hd : nth (eTab M) i = some (pc, .iinc 18 n, pc')) (hn : pc + 3 = pc') (hp : eNl x17 = true) (hr : rg (z + n)) (k : Ok sh M pc' (x0 :: x1 :: x2 :: x3 :: x4 :: x5 :: x6 :: x7 :: x8 :: x9 :: x10 :: x11 :: x12 :: x13 :: x14 :: x15 :: x16 :: x17 :: some (vi (z + n)) :: r) st σ Q) : Ok sh M pc (x0 :: x1 :: x2 :: x3 :: x4 :: x5 :: x6 :: x7 :: x8 :: x9 :: x10 :: x11 :: x12 :: x13 :: x14 :: x15 :: x16 :: x17 :: some (vi z) :: r) st σ Q :=
  og_iinc (k := 18) i hd hn rfl hr (by show Ok sh M pc' (x0 :: x1 :: x2 :: x3 :: x4 :: x5 :: x6 :: x7 :: x8 :: x9 :: x10 :: x11 :: x12 :: x13 :: x14 :: x15 :: x16 :: eClr x17 :: some (vi (z + n)) :: r) st σ Q; rw [eClr_id hp]; exact k)
theorem ok_ist19 (i : Nat) {r : List (Option eV)} {x0 x1 x2 x3 x4 x5 x6 x7 x8 x9 x10 x11 x12 x13 x14 x15 x16 x17 x18 y : Option eV} {z : Int} (hd : nth (eTab M) i = some (pc, .istore 19, pc')) (hn : pc + 2 = pc') (hp : eNl x18 = true) (k : Ok sh M pc' (x0 :: x1 :: x2 :: x3 :: x4 :: x5 :: x6 :: x7 :: x8 :: x9 :: x10 :: x11 :: x12 :: x13 :: x14 :: x15 :: x16 :: x17 :: x18 :: some (vi z) :: r) st σ Q) : Ok sh M pc (x0 :: x1 :: x2 :: x3 :: x4 :: x5 :: x6 :: x7 :: x8 :: x9 :: x10 :: x11 :: x12 :: x13 :: x14 :: x15 :: x16 :: x17 :: x18 :: y :: r) (vi z :: st) σ Q :=
  og_len fun h => og_istore (k := 19) i hd hn (by rw [← h]; simp) (by show Ok sh M pc' (x0 :: x1 :: x2 :: x3 :: x4 :: x5 :: x6 :: x7 :: x8 :: x9 :: x10 :: x11 :: x12 :: x13 :: x14 :: x15 :: x16 :: x17 :: eClr x18 :: some (vi z) :: r) st σ Q; rw [eClr_id hp]; exact k)
theorem ok_inc19 (i : Nat) {r : List (Option eV)} {x0 x1 x2 x3 x4 x5 x6 x7 x8 x9 x10 x11 x12 x13 x14 x15 x16 x17 x18 : Option eV} {n z : Int} (hd : nth (eTab M) i = some (pc, .iinc 19 n, pc')) (hn : pc + 3 = pc') (hp : eNl x18 = true) (hr : rg (z + n)) (k : Ok sh M pc' (x0 :: x1 :: x2 :: x3 :: x4 :: x5 :: x6 :: x7 :: x8 :: x9 :: x10 :: x11 :: x12 :: x13 :: x14 :: x15 :: x16 :: x17 :: x18 :: some (vi (z + n)) :: r) st σ Q) : Ok sh M pc (x0 :: x1 :: x2 :: x3 :: x4 :: x5 :: x6 :: x7 :: x8 :: x9 :: x10 :: x11 :: x12 :: x13 :: x14 :: x15 :: x16 :: x17 :: x18 :: some (vi z) :: r) st σ Q :=
  og_iinc (k := 19) i hd hn rfl hr (by show Ok sh M pc' (x0 :: x1 :: x2 :: x3 :: x4 :: x5 :: x6 :: x7 :: x8 :: x9 :: x10 :: x11 :: x12 :: x13 :: x14 :: x15 :: x16 :: x17 :: eClr x18 :: some (vi (z + n)) :: r) st σ Q; rw [eClr_id hp]; exact k)
theorem ok_ist20 (i : Nat) {r : List (Option eV)} {x0 x1 x2 x3 x4 x5 x6 x7 x8 x9 x10 x11 x12 x13 x14 x15 x16 x17 x18 x19 y : Option eV} {z : Int} (hd : nth (eTab M) i = some (pc, .istore 20, pc')) (hn : pc + 2 = pc') (hp : eNl x19 = true) (k : Ok sh M pc' (x0 :: x1 :: x2 :: x3 :: x4 :: x5 :: x6 :: x7 :: x8 :: x9 :: x10 :: x11 :: x12 :: x13 :: x14 :: x15 :: x16 :: x17 :: x18 :: x19 :: some (vi z) :: r) st σ Q) : Ok sh M pc (x0 :: x1 :: x2 :: x3 :: x4 :: x5 :: x6 :: x7 :: x8 :: x9 :: x10 :: x11 :: x12 :: x13 :: x14 :: x15 :: x16 :: x17 :: x18 :: x19 :: y :: r) (vi z :: st) σ Q :=
  og_len fun h => og_istore (k := 20) i hd hn (by rw [← h]; simp) (by show Ok sh M pc' (x0 :: x1 :: x2 :: x3 :: x4 :: x5 :: x6 :: x7 :: x8 :: x9 :: x10 :: x11 :: x12 :: x13 :: x14 :: x15 :: x16 :: x17 :: x18 :: eClr x19 :: some (vi z) :: r) st σ Q; rw [eClr_id hp]; exact k)
theorem ok_lst21 (i : Nat) {r : List (Option eV)} {y2 : Option eV} {x0 x1 x2 x3 x4 x5 x6 x7 x8 x9 x10 x11 x12 x13 x14 x15 x16 x17 x18 x19 x20 y : Option eV} {z : Int} (hd : nth (eTab M) i = some (pc, .lstore 21, pc')) (hn : pc + 2 = pc') (hp : eNl x20 = true) (k : Ok sh M pc' (x0 :: x1 :: x2 :: x3 :: x4 :: x5 :: x6 :: x7 :: x8 :: x9 :: x10 :: x11 :: x12 :: x13 :: x14 :: x15 :: x16 :: x17 :: x18 :: x19 :: x20 :: some (vl z) :: none :: r) st σ Q) : Ok sh M pc (x0 :: x1 :: x2 :: x3 :: x4 :: x5 :: x6 :: x7 :: x8 :: x9 :: x10 :: x11 :: x12 :: x13 :: x14 :: x15 :: x16 :: x17 :: x18 :: x19 :: x20 :: y :: y2 :: r) (vl z :: st) σ Q :=
  og_len fun h => og_lstore (k := 21) i hd hn (by rw [← h]; simp) (by show Ok sh M pc' (x0 :: x1 :: x2 :: x3 :: x4 :: x5 :: x6 :: x7 :: x8 :: x9 :: x10 :: x11 :: x12 :: x13 :: x14 :: x15 :: x16 :: x17 :: x18 :: x19 :: eClr x20 :: some (vl z) :: none :: r) st σ Q; rw [eClr_id hp]; exact k)
theorem ok_lst23 (i : Nat) {r : List (Option eV)} {y2 : Option eV} {x0 x1 x2 x3 x4 x5 x6 x7 x8 x9 x10 x11 x12 x13 x14 x15 x16 x17 x18 x19 x20 x21 x22 y : Option eV} {z : Int} (hd : nth (eTab M) i = some (pc, .lstore 23, pc')) (hn : pc + 2 = pc') (hp : eNl x22 = true) (k : Ok sh M pc' (x0 :: x1 :: x2 :: x3 :: x4 :: x5 :: x6 :: x7 :: x8 :: x9 :: x10 :: x11 :: x12 :: x13 :: x14 :: x15 :: x16 :: x17 :: x18 :: x19 :: x20 :: x21 :: x22 :: some (vl z) :: none :: r) st σ Q) : Ok sh M pc (x0 :: x1 :: x2 :: x3 :: x4 :: x5 :: x6 :: x7 :: x8 :: x9 :: x10 :: x11 :: x12 :: x13 :: x14 :: x15 :: x16 :: x17 :: x18 :: x19 :: x20 :: x21 :: x22 :: y :: y2 :: r) (vl z :: st) σ Q :=
  og_len fun h => og_lstore (k := 23) i hd hn (by rw [← h]; simp) (by show Ok sh M pc' (x0 :: x1 :: x2 :: x3 :: x4 :: x5 :: x6 :: x7 :: x8 :: x9 :: x10 :: x11 :: x12 :: x13 :: x14 :: x15 :: x16 :: x17 :: x18 :: x19 :: x20 :: x21 :: eClr x22 :: some (vl z) :: none :: r) st σ Q; rw [eClr_id hp]; exact k)
end E7
/-! what holds of the class between calls -/
def iTs (σ : eS) : Prop := ∀ t, tA t → iT σ t ∧ mT σ t
def iCh (σ : eS) : Prop := ∀ k : Int, 0 ≤ k → k < 8 → 0 ≤ σ 17 k ∧ σ 17 k ≤ 7
def iMi (σ : eS) : Prop := (0 ≤ σ 22 5 ∧ σ 22 5 ≤ 64 ∧ 0 ≤ σ 22 4 ∧ σ 22 4 ≤ 8 ∧ 0 ≤ σ 22 6 ∧ σ 22 6 ≤ 799999992 ∧ σ 22 3 ≤ 8) ∧ (∀ k : Int, 0 ≤ k → k < σ 22 5 → 0 ≤ σ 23 k) ∧ (∀ k : Int, 0 ≤ k → k < 512 → 0 ≤ σ 24 k ∧ σ 24 k ≤ 7) ∧ sm (fun k => σ 23 k) (σ 22 5).toNat ≤ σ 22 6
def iSh (σ : eS) : Prop := 0 ≤ σ 46 1 ∧ σ 46 1 ≤ 1216
def iSu (σ : eS) : Prop := ∀ k : Int, 0 ≤ k → k < 64 → 0 ≤ σ 15 k
def IA (σ : eS) : Prop := tL σ ∧ iTs σ ∧ iCh σ ∧ iMi σ ∧ iSh σ ∧ iSu σ
/-- the tape stays -/
def tpS (σ σ' : eS) : Prop := (∀ k, σ' 10 k = σ 10 k) ∧ ∀ k, σ' 11 k = σ 11 k
/-- the tables stay -/
def tbS (σ σ' : eS) : Prop := ∀ (c : Nat) (k : Int), 2 ≤ c → c ≤ 9 → (c ≤ 5 → k ≤ 3) → σ' c k = σ c k
def QA0 (σ σ' : eS) : Prop := IA σ' ∧ tpS σ σ'
def QA (σ σ' : eS) : Prop := IA σ' ∧ tpS σ σ' ∧ tbS σ σ'
theorem QA.q0 {σ σ' : eS} (h : QA σ σ') : QA0 σ σ' := ⟨h.1, h.2.1⟩
theorem iTs_cg {σ τ : eS} (h : iTs σ) (e : ∀ c k, 2 ≤ c → c ≤ 9 → (c ≤ 5 → k ≤ 3) → τ c k = σ c k) : iTs τ := fun t ht => by
  have n := tA_10 ht
  obtain ⟨h1, h2⟩ := h t ht
  exact ⟨(iT_cg h1 (e _ _ (by omega) (by omega) (by omega)) (e _ _ (by omega) (by omega) (by omega)) (fun k => e _ _ (by omega) (by omega) (by omega))).1, mT_cg h2 (e _ _ (by omega) (by omega) (by omega)) (e _ _ (by omega) (by omega) (by omega)) (fun k => e _ _ (by omega) (by omega) (by omega))⟩
theorem iTs_set {σ τ : eS} {t : Nat} (ht : tA t) (h : iTs σ) (e : ∀ c k, 2 ≤ c → c ≤ 9 → c ≠ t → c ≠ t + 4 → τ c k = σ c k) (h1 : iT τ t) (h2 : mT τ t) : iTs τ := fun u hu => by
  by_cases q : u = t
  · subst q; exact ⟨h1, h2⟩
  · have n := tA_10 ht
    have m := tA_10 hu
    obtain ⟨g1, g2⟩ := h u hu
    exact ⟨(iT_cg g1 (e _ _ (by omega) (by omega) (by omega) (by omega)) (e _ _ (by omega) (by omega) (by omega) (by omega)) (fun k => e _ _ (by omega) (by omega) (by omega) (by omega))).1, mT_cg g2 (e _ _ (by omega) (by omega) (by omega) (by omega)) (e _ _ (by omega) (by omega) (by omega) (by omega)) (fun k => e _ _ (by omega) (by omega) (by omega) (by omega))⟩
theorem iCh_cg {σ τ : eS} (h : iCh σ) (e : ∀ k, τ 17 k = σ 17 k) : iCh τ := fun k a b => by rw [e]; exact h k a b
theorem iMi_cg {σ τ : eS} (h : iMi σ) (e : ∀ c k, 22 ≤ c → c ≤ 24 → τ c k = σ c k) : iMi τ := by
  have e2 : ∀ k, τ 22 k = σ 22 k := fun k => e _ _ (by omega) (by omega)
  have e3 : τ 23 = σ 23 := by funext k; exact e _ _ (by omega) (by omega)
  have e4 : τ 24 = σ 24 := by funext k; exact e _ _ (by omega) (by omega)
  unfold iMi
  simp only [e2, e3, e4]
  exact h
theorem iSh_cg {σ τ : eS} (h : iSh σ) (e : ∀ k, τ 46 k = σ 46 k) : iSh τ := by
  unfold iSh
  rw [e]
  exact h
theorem iSu_cg {σ τ : eS} (h : iSu σ) (e : ∀ k, τ 15 k = σ 15 k) : iSu τ := fun k a b => by rw [e]; exact h k a b
/-- a region that none of it speaks of -/
theorem QA_cg {σ τ : eS} (h : IA σ) (e : ∀ c k, (2 ≤ c ∧ c ≤ 9 ∧ (c ≤ 5 → k ≤ 3)) ∨ c = 10 ∨ c = 11 ∨ c = 15 ∨ c = 17 ∨ (22 ≤ c ∧ c ≤ 24) ∨ c = 46 → τ c k = σ c k) : QA σ τ := by
  have e3 := e 10 3 (by omega)
  refine ⟨⟨?_, iTs_cg h.2.1 (fun c k a b d => e _ _ (Or.inl ⟨a, b, d⟩)), iCh_cg h.2.2.1 (fun k => e _ _ (by omega)), iMi_cg h.2.2.2.1 (fun c k a b => e _ _ (by omega)), iSh_cg h.2.2.2.2.1 (fun k => e _ _ (by omega)), iSu_cg h.2.2.2.2.2 (fun k => e _ _ (by omega))⟩, ⟨fun k => e _ _ (by omega), fun k => e _ _ (by omega)⟩, fun c k a b d => e _ _ (Or.inl ⟨a, b, d⟩)⟩
  unfold tL
  rw [e3]
  exact h.1
theorem QA_rf {σ : eS} (h : IA σ) : QA σ σ := ⟨h, ⟨fun _ => rfl, fun _ => rfl⟩, fun _ _ _ _ _ => rfl⟩
theorem s_Ev_table {σ : eS} {s : Int} (h : IA σ) : MtI shA M_Ev_table [vr 0, vi s] σ (fun σ' _ => IA σ' ∧ σ' 10 3 = 0) := by
  refine Mt.of okM_Ev_table (Nat.le_of_ble_eq_true rfl) (fun hk hg => ?_)
  refine ok_aload_n 0 rfl rfl rfl (ok_iload_n 1 rfl rfl rfl (ok_callVR (M' := M_Ev_slotAt) (as := [_]) 2 rfl rfl ml_X11_86 (s_Ev_slotAt) rfl rfl (Nat.le_of_ble_eq_true rfl) ⟨Nat.le_of_ble_eq_true rfl, Nat.le_of_ble_eq_true rfl⟩ rfl (Nat.le_of_ble_eq_true rfl) (fun σ' z hz => ?_)))
  obtain ⟨hs_, hz⟩ := hz
  rw [hs_]; clear hs_ σ'
  rcases hz with ⟨q, q2⟩ | ⟨q1, q2, q⟩
  · subst q
    refine ok_ast2 3 rfl rfl rfl (ok_aload_n 4 rfl rfl rfl (ok_ifnonnullN 5 rfl rfl (ok_aload_n 6 rfl rfl rfl (ok_getR 7 rfl rfl fl_X11_18 rfl rfl (ok_callVV (M' := M_Tp_drop) (as := []) 8 rfl rfl ml_X11_90 (s_Tp_drop) rfl rfl (Nat.le_of_ble_eq_true rfl) ⟨Nat.le_of_ble_eq_true rfl, Nat.le_of_ble_eq_true rfl⟩ rfl (Nat.le_of_ble_eq_true rfl) (fun τ f => ?_))))))
    refine ok_bipush 9 rfl rfl (by decide) (by decide) (ok_iret 10 rfl rfl rfl ?_)
    refine ⟨_, rfl, ⟨⟨by omega, by omega⟩, iTs_cg h.2.1 (fun c k a b d => f.1 c k (by omega)), iCh_cg h.2.2.1 (fun k => f.1 _ k (by omega)), iMi_cg h.2.2.2.1 (fun c k a b => f.1 c k (by omega)), iSh_cg h.2.2.2.2.1 (fun k => f.1 _ k (by omega)), iSu_cg h.2.2.2.2.2 (fun k => f.1 _ k (by omega))⟩, f.2⟩
  · subst q
    have ht := sl_tA ⟨q1, q2⟩
    have n := tA_10 ht
    refine ok_ast2 3 rfl rfl rfl (ok_aload_n 4 rfl rfl rfl (ok_ifnonnull 5 20 rfl rfl rfl (ok_aload_n 11 rfl rfl rfl (ok_getR 12 rfl rfl fl_X11_18 rfl rfl (ok_aload_n 13 rfl rfl rfl (ok_callVI (M' := M_Tp_readInto) (as := [_]) 14 rfl rfl ml_X11_93 (s_Tp_readInto ht h.1 (h.2.1 _ ht).1 (h.2.1 _ ht).2) rfl rfl (Nat.le_of_ble_eq_true rfl) ⟨Nat.le_of_ble_eq_true rfl, Nat.le_of_ble_eq_true rfl⟩ rfl (Nat.le_of_ble_eq_true rfl) (fun τ z f => ?_)))))))
    refine ok_iret 15 rfl rfl rfl ?_
    refine ⟨_, rfl, ⟨⟨by omega, by omega⟩, iTs_set ht h.2.1 (fun c k a b d1 d2 => f.1 c k (by simp only [rgRI]; omega)) f.2.1 f.2.2.1, iCh_cg h.2.2.1 (fun k => f.1 _ k (by simp only [rgRI]; omega)), iMi_cg h.2.2.2.1 (fun c k a b => f.1 c k (by simp only [rgRI]; omega)), iSh_cg h.2.2.2.2.1 (fun k => f.1 _ k (by simp only [rgRI]; omega)), iSu_cg h.2.2.2.2.2 (fun k => f.1 _ k (by simp only [rgRI]; omega))⟩, f.2.2.2⟩
theorem s_Ev_fault {σ : eS} {w : Int} : MtI shA M_Ev_fault [vr 0, vi w] σ (fun σ' z => σ' = σ ∧ z = if w = 0 then σ 10 4 else if w = 1 then σ 10 5 else -1) := by
  refine Mt.of okM_Ev_fault (Nat.le_of_ble_eq_true rfl) (fun hk hg => ?_)
  refine ok_iload_n 0 rfl rfl rfl (ok_if_ne 1 12 rfl rfl rfl (fun h1 => ?_) (fun h1 => ?_))
  · refine ok_iload_n 6 rfl rfl rfl (ok_iconst 7 rfl rfl (by decide) (ok_icmp_ne 8 27 rfl rfl rfl (fun h14 => ?_) (fun h14 => ?_)))
    · refine ok_iconst 13 rfl rfl (by decide) (ok_iret 14 rfl rfl rfl ?_)
      refine ⟨_, rfl, rfl, ?_⟩
      first | rw [if_pos (by omega)] | rw [if_neg (by omega), if_pos (by omega)] | rw [if_neg (by omega), if_neg (by omega)]
    · refine ok_aload_n 9 rfl rfl rfl (ok_getR 10 rfl rfl fl_X11_18 rfl rfl (ok_getI 11 rfl rfl fl_X11_100 rfl rfl (Or.inl rfl) (ok_goto 12 28 rfl rfl rfl (ok_iret 14 rfl rfl rfl ?_))))
      refine ⟨_, rfl, rfl, ?_⟩
      first | rw [if_pos (by omega)] | rw [if_neg (by omega), if_pos (by omega)] | rw [if_neg (by omega), if_neg (by omega)]
  · refine ok_aload_n 2 rfl rfl rfl (ok_getR 3 rfl rfl fl_X11_18 rfl rfl (ok_getI 4 rfl rfl fl_X11_97 rfl rfl (Or.inl rfl) (ok_iret 5 rfl rfl rfl ?_)))
    refine ⟨_, rfl, rfl, ?_⟩
    first | rw [if_pos (by omega)] | rw [if_neg (by omega), if_pos (by omega)] | rw [if_neg (by omega), if_neg (by omega)]
def celA (σ : eS) (s i j : Int) : Prop := 0 ≤ s ∧ s < 4 ∧ 0 ≤ i ∧ i < σ (s.toNat + 2) 1 ∧ 0 ≤ j ∧ j < σ (s.toNat + 2) 1
theorem s_Ev_cell {σ : eS} {s i j : Int} (h : IA σ) : MtI shA M_Ev_cell [vr 0, vi s, vi i, vi j] σ (fun σ' z => σ' = σ ∧ ((celA σ s i j ∧ z = cT σ (s.toNat + 2) i j) ∨ (¬ celA σ s i j ∧ z = -1))) := by
  refine Mt.of okM_Ev_cell (Nat.le_of_ble_eq_true rfl) (fun hk hg => ?_)
  refine ok_aload_n 0 rfl rfl rfl (ok_iload_n 1 rfl rfl rfl (ok_callVR (M' := M_Ev_slotAt) (as := [_]) 2 rfl rfl ml_X11_86 (s_Ev_slotAt) rfl rfl (Nat.le_of_ble_eq_true rfl) ⟨Nat.le_of_ble_eq_true rfl, Nat.le_of_ble_eq_true rfl⟩ rfl (Nat.le_of_ble_eq_true rfl) (fun σ' z hz => ?_)))
  obtain ⟨hs_, hz⟩ := hz
  rw [hs_]; clear hs_ σ'
  rcases hz with ⟨q, q2⟩ | ⟨q1, q2, q⟩
  · subst q
    refine ok_ast4 3 rfl rfl rfl (ok_aload 4 rfl rfl rfl (ok_ifnullN 5 30 rfl rfl rfl (ok_iconst 14 rfl rfl (by decide) (ok_iret 15 rfl rfl rfl ?_))))
    exact ⟨_, rfl, rfl, Or.inr ⟨fun w => q2 ⟨w.1, w.2.1⟩, rfl⟩⟩
  · subst q
    have ht := sl_tA ⟨q1, q2⟩
    have hT := (h.2.1 _ ht).1
    have hn := hT.2.1
    refine ok_ast4 3 rfl rfl rfl (ok_aload 4 rfl rfl rfl (ok_ifnull 5 rfl rfl (ok_aload 6 rfl rfl rfl (ok_iload_n 7 rfl rfl rfl (ok_callVI (M' := M_Ta_has) (as := [_]) 8 rfl rfl ml_X11_129 (s_Ta_has ht) (sT ht) rfl (Nat.le_of_ble_eq_true rfl) ⟨Nat.le_of_ble_eq_true rfl, Nat.le_of_ble_eq_true rfl⟩ rfl (Nat.le_of_ble_eq_true rfl) (fun σ' z1 x1 => ?_))))))
    obtain ⟨hs_, x1⟩ := x1
    rw [hs_]; clear hs_ σ'
    refine ok_if_eq 9 30 rfl rfl rfl (fun h18 => ?_) (fun h18 => ?_)
    · refine ok_iconst 14 rfl rfl (by decide) (ok_iret 15 rfl rfl rfl ?_)
      first | exact ⟨_, rfl, rfl, Or.inl ⟨⟨q1, q2, by omega, by omega, by omega, by omega⟩, rfl⟩⟩ | exact ⟨_, rfl, rfl, Or.inr ⟨fun w => by obtain ⟨w1, w2, w3, w4, w5, w6⟩ := w; omega, rfl⟩⟩
    · refine ok_aload 10 rfl rfl rfl (ok_iload_n 11 rfl rfl rfl (ok_callVI (M' := M_Ta_has) (as := [_]) 12 rfl rfl ml_X11_129 (s_Ta_has ht) (sT ht) rfl (Nat.le_of_ble_eq_true rfl) ⟨Nat.le_of_ble_eq_true rfl, Nat.le_of_ble_eq_true rfl⟩ rfl (Nat.le_of_ble_eq_true rfl) (fun σ' z2 x2 => ?_)))
      obtain ⟨hs_, x2⟩ := x2
      rw [hs_]; clear hs_ σ'
      refine ok_if_ne 13 32 rfl rfl rfl (fun h27 => ?_) (fun h27 => ?_)
      · refine ok_aload 16 rfl rfl rfl (ok_getR 17 rfl rfl fl_X11_133 (sT ht) rfl (ok_iload_n 18 rfl rfl rfl (ok_bipush 19 rfl rfl (by decide) (by decide) (ok_imul 20 rfl rfl (by first | omega | (simp [up_if]; omega) | (simp [up_if] at *; omega)) (ok_iload_n 21 rfl rfl rfl (ok_iadd 22 rfl rfl (by first | omega | (simp [up_if]; omega) | (simp [up_if] at *; omega)) (ok_iald 23 rfl rfl (sC ht) (by first | omega | (simp [up_if]; omega) | (simp [up_if] at *; omega)) (ok_iret 24 rfl rfl rfl ?_))))))))
        first | exact ⟨_, rfl, rfl, Or.inl ⟨⟨q1, q2, by omega, by omega, by omega, by omega⟩, rfl⟩⟩ | exact ⟨_, rfl, rfl, Or.inr ⟨fun w => by obtain ⟨w1, w2, w3, w4, w5, w6⟩ := w; omega, rfl⟩⟩
      · refine ok_iconst 14 rfl rfl (by decide) (ok_iret 15 rfl rfl rfl ?_)
        first | exact ⟨_, rfl, rfl, Or.inl ⟨⟨q1, q2, by omega, by omega, by omega, by omega⟩, rfl⟩⟩ | exact ⟨_, rfl, rfl, Or.inr ⟨fun w => by obtain ⟨w1, w2, w3, w4, w5, w6⟩ := w; omega, rfl⟩⟩
def tabA (σ : eS) (s : Int) : Prop := 0 ≤ s ∧ s < 4 ∧ σ (s.toNat + 2) 1 ≠ 0
theorem s_Ev_uneven {σ : eS} {s : Int} (h : IA σ) : MtI shA M_Ev_uneven [vr 0, vi s] σ (fun σ' z => σ' = σ ∧ ((¬ tabA σ s ∧ z = -1) ∨ (tabA σ s ∧ unev (rowT σ (s.toNat + 2)) (colT σ (s.toNat + 2)) (σ (s.toNat + 2) 1) z))) := by
  refine Mt.of okM_Ev_uneven (Nat.le_of_ble_eq_true rfl) (fun hk hg => ?_)
  refine ok_aload_n 0 rfl rfl rfl (ok_iload_n 1 rfl rfl rfl (ok_callVR (M' := M_Ev_filledSlot) (as := [_]) 2 rfl rfl ml_X11_137 (s_Ev_filledSlot) rfl rfl (Nat.le_of_ble_eq_true rfl) ⟨Nat.le_of_ble_eq_true rfl, Nat.le_of_ble_eq_true rfl⟩ rfl (Nat.le_of_ble_eq_true rfl) (fun σ' z hz => ?_)))
  obtain ⟨hs_, hz⟩ := hz
  rw [hs_]; clear hs_ σ'
  rcases hz with ⟨q, q0⟩ | ⟨q1, q2, q, q3⟩
  · subst q
    refine ok_ast2 3 rfl rfl rfl (ok_aload_n 4 rfl rfl rfl (ok_ifnonnullN 5 rfl rfl (ok_iconst 6 rfl rfl (by decide) (ok_goto 7 18 rfl rfl rfl (ok_iret 10 rfl rfl rfl ?_)))))
    exact ⟨_, rfl, rfl, Or.inl ⟨q0, rfl⟩⟩
  · subst q
    have ht := sl_tA ⟨q1, q2⟩
    have hT := (h.2.1 _ ht).1
    refine ok_ast2 3 rfl rfl rfl (ok_aload_n 4 rfl rfl rfl (ok_ifnonnull 5 14 rfl rfl rfl (ok_aload_n 8 rfl rfl rfl (ok_callVI (M' := M_Ta_firstUneven) (as := []) 9 rfl rfl ml_X11_140 (s_Ta_firstUneven ht hT) (sT ht) rfl (Nat.le_of_ble_eq_true rfl) ⟨Nat.le_of_ble_eq_true rfl, Nat.le_of_ble_eq_true rfl⟩ rfl (Nat.le_of_ble_eq_true rfl) (fun σ' z1 x1 => ?_)))))
    obtain ⟨hs_, x1⟩ := x1
    rw [hs_]; clear hs_ σ'
    refine ok_iret 10 rfl rfl rfl ?_
    exact ⟨_, rfl, rfl, Or.inr ⟨⟨q1, q2, q3⟩, x1⟩⟩
theorem s_Ev_look {σ : eS} {s w : Int} (h : IA σ) : MtI shA M_Ev_look [vr 0, vi s, vi w] σ (fun σ' _ => σ' = σ ∧ True) := by
  refine Mt.of okM_Ev_look (Nat.le_of_ble_eq_true rfl) (fun hk hg => ?_)
  refine ok_aload_n 0 rfl rfl rfl (ok_iload_n 1 rfl rfl rfl (ok_callVR (M' := M_Ev_slotAt) (as := [_]) 2 rfl rfl ml_X11_86 (s_Ev_slotAt) rfl rfl (Nat.le_of_ble_eq_true rfl) ⟨Nat.le_of_ble_eq_true rfl, Nat.le_of_ble_eq_true rfl⟩ rfl (Nat.le_of_ble_eq_true rfl) (fun σ' z hz => ?_)))
  obtain ⟨hs_, hz⟩ := hz
  rw [hs_]; clear hs_ σ'
  rcases hz with ⟨q, q2⟩ | ⟨q1, q2, q⟩
  · subst q
    refine ok_ast3 3 rfl rfl rfl (ok_aload_n 4 rfl rfl rfl (ok_ifnonnullN 5 rfl rfl (ok_bipush 6 rfl rfl (by decide) (by decide) (ok_iret 7 rfl rfl rfl ?_))))
    exact ⟨_, rfl, rfl, trivial⟩
  · subst q
    have ht := sl_tA ⟨q1, q2⟩
    have hT := (h.2.1 _ ht).1
    refine ok_ast3 3 rfl rfl rfl (ok_aload_n 4 rfl rfl rfl (ok_ifnonnull 5 13 rfl rfl rfl (ok_iload_n 8 rfl rfl rfl ?_)))
    rcases (by omega : w = 0 ∨ w = 1 ∨ w = 2 ∨ w = 3 ∨ w = 4 ∨ w = 5 ∨ (w < 0 ∨ 5 < w)) with q_ | q_ | q_ | q_ | q_ | q_ | q_
    · subst q_
      refine ok_tin 9 (len := 38) 52 rfl rfl (by decide) (by decide) rfl rfl ?_
      refine ok_aload_n 10 rfl rfl rfl (ok_getI 11 rfl rfl fl_X11_103 (sT ht) rfl (Or.inl rfl) (ok_iret 12 rfl rfl rfl ?_))
      exact ⟨_, rfl, rfl, trivial⟩
    · subst q_
      refine ok_tin 9 (len := 38) 57 rfl rfl (by decide) (by decide) rfl rfl ?_
      refine ok_aload_n 13 rfl rfl rfl (ok_getI 14 rfl rfl fl_X11_103 (sT ht) rfl (Or.inl rfl) (ok_if_ne 15 68 rfl rfl rfl (fun h61 => ?_) (fun h61 => ?_)))
      · refine ok_aload_n 18 rfl rfl rfl (ok_getI 19 rfl rfl fl_X11_106 (sT ht) rfl (Or.inl rfl) (ok_iret 20 rfl rfl rfl ?_))
        exact ⟨_, rfl, rfl, trivial⟩
      · refine ok_iconst 16 rfl rfl (by decide) (ok_goto 17 72 rfl rfl rfl (ok_iret 20 rfl rfl rfl ?_))
        exact ⟨_, rfl, rfl, trivial⟩
    · subst q_
      refine ok_tin 9 (len := 38) 73 rfl rfl (by decide) (by decide) rfl rfl ?_
      refine ok_aload_n 21 rfl rfl rfl (ok_getI 22 rfl rfl fl_X11_109 (sT ht) rfl (Or.inl rfl) (ok_iret 23 rfl rfl rfl ?_))
      exact ⟨_, rfl, rfl, trivial⟩
    · subst q_
      refine ok_tin 9 (len := 38) 78 rfl rfl (by decide) (by decide) rfl rfl ?_
      refine ok_aload_n 24 rfl rfl rfl (ok_callVI (M' := M_Ta_countAbove0) (as := []) 25 rfl rfl ml_X11_112 (s_Ta_countAbove0 ht hT) (sT ht) rfl (Nat.le_of_ble_eq_true rfl) ⟨Nat.le_of_ble_eq_true rfl, Nat.le_of_ble_eq_true rfl⟩ rfl (Nat.le_of_ble_eq_true rfl) (fun σ' z1 x1 => ?_))
      obtain ⟨hs_, x1⟩ := x1
      rw [hs_]; clear hs_ σ'
      refine ok_iret 26 rfl rfl rfl ?_
      exact ⟨_, rfl, rfl, trivial⟩
    · subst q_
      refine ok_tin 9 (len := 38) 83 rfl rfl (by decide) (by decide) rfl rfl ?_
      refine ok_aload_n 27 rfl rfl rfl (ok_callVI (M' := M_Ta_greatestCell) (as := []) 28 rfl rfl ml_X11_116 (s_Ta_greatestCell ht hT) (sT ht) rfl (Nat.le_of_ble_eq_true rfl) ⟨Nat.le_of_ble_eq_true rfl, Nat.le_of_ble_eq_true rfl⟩ rfl (Nat.le_of_ble_eq_true rfl) (fun σ' z1 x1 => ?_))
      obtain ⟨hs_, x1⟩ := x1
      rw [hs_]; clear hs_ σ'
      refine ok_iret 29 rfl rfl rfl ?_
      exact ⟨_, rfl, rfl, trivial⟩
    · subst q_
      refine ok_tin 9 (len := 38) 88 rfl rfl (by decide) (by decide) rfl rfl ?_
      refine ok_aload_n 30 rfl rfl rfl (ok_iconst 31 rfl rfl (by decide) (ok_callVL (M' := M_Ta_joinedBy) (as := [_]) 32 rfl rfl ml_X11_119 (s_Ta_joinedBy ht hT) (sT ht) rfl (Nat.le_of_ble_eq_true rfl) ⟨Nat.le_of_ble_eq_true rfl, Nat.le_of_ble_eq_true rfl⟩ rfl (Nat.le_of_ble_eq_true rfl) (fun σ' z1 x1 => ?_)))
      obtain ⟨hs_, x1⟩ := x1
      rw [hs_]; clear hs_ σ'
      refine ok_aload_n 33 rfl rfl rfl (ok_getI 34 rfl rfl fl_X11_103 (sT ht) rfl (Or.inl rfl) (ok_callSI (M' := M_Jo_countGroups) (as := [_, _]) 35 rfl rfl ml_X11_123 (s_Jo_countGroups hT.2.1) ⟨Nat.le_of_ble_eq_true rfl, Nat.le_of_ble_eq_true rfl⟩ rfl (Nat.le_of_ble_eq_true rfl) (fun σ' z2 x2 => ?_)))
      obtain ⟨hs_, x2⟩ := x2
      rw [hs_]; clear hs_ σ'
      refine ok_iret 36 rfl rfl rfl ?_
      exact ⟨_, rfl, rfl, trivial⟩
    · refine ok_tout 9 (len := 38) 101 rfl rfl q_ rfl ?_
      refine ok_bipush 37 rfl rfl (by decide) (by decide) (ok_iret 38 rfl rfl rfl ?_)
      exact ⟨_, rfl, rfl, trivial⟩
theorem s_Ev_mixing {σ : eS} {s : Int} (h : IA σ) : MtI shA M_Ev_mixing [vr 0, vi s] σ (fun σ' _ => σ' = σ ∧ True) := by
  refine Mt.of okM_Ev_mixing (Nat.le_of_ble_eq_true rfl) (fun hk hg => ?_)
  refine ok_aload_n 0 rfl rfl rfl (ok_iload_n 1 rfl rfl rfl (ok_callVR (M' := M_Ev_filledSlot) (as := [_]) 2 rfl rfl ml_X11_137 (s_Ev_filledSlot) rfl rfl (Nat.le_of_ble_eq_true rfl) ⟨Nat.le_of_ble_eq_true rfl, Nat.le_of_ble_eq_true rfl⟩ rfl (Nat.le_of_ble_eq_true rfl) (fun σ' z hz => ?_)))
  obtain ⟨hs_, hz⟩ := hz
  rw [hs_]; clear hs_ σ'
  rcases hz with ⟨q, q0⟩ | ⟨q1, q2, q, q3⟩
  · subst q
    refine ok_ast2 3 rfl rfl rfl (ok_aload_n 4 rfl rfl rfl (ok_ifnonnullN 5 rfl rfl (ok_iconst 6 rfl rfl (by decide) (ok_goto 7 31 rfl rfl rfl (ok_iret 17 rfl rfl rfl ?_)))))
    exact ⟨_, rfl, rfl, trivial⟩
  · subst q
    have ht := sl_tA ⟨q1, q2⟩
    have hT := (h.2.1 _ ht).1
    refine ok_ast2 3 rfl rfl rfl (ok_aload_n 4 rfl rfl rfl (ok_ifnonnull 5 14 rfl rfl rfl (ok_aload_n 8 rfl rfl rfl (ok_iconst 9 rfl rfl (by decide) (ok_callVL (M' := M_Ta_joinedBy) (as := [_]) 10 rfl rfl ml_X11_119 (s_Ta_joinedBy ht hT) (sT ht) rfl (Nat.le_of_ble_eq_true rfl) ⟨Nat.le_of_ble_eq_true rfl, Nat.le_of_ble_eq_true rfl⟩ rfl (Nat.le_of_ble_eq_true rfl) (fun σ' z1 x1 => ?_))))))
    obtain ⟨hs_, x1⟩ := x1
    rw [hs_]; clear hs_ σ'
    refine ok_aload_n 11 rfl rfl rfl (ok_iconst 12 rfl rfl (by decide) (ok_callVL (M' := M_Ta_joinedBy) (as := [_]) 13 rfl rfl ml_X11_119 (s_Ta_joinedBy ht hT) (sT ht) rfl (Nat.le_of_ble_eq_true rfl) ⟨Nat.le_of_ble_eq_true rfl, Nat.le_of_ble_eq_true rfl⟩ rfl (Nat.le_of_ble_eq_true rfl) (fun σ' z2 x2 => ?_)))
    obtain ⟨hs_, x2⟩ := x2
    rw [hs_]; clear hs_ σ'
    refine ok_aload_n 14 rfl rfl rfl (ok_getI 15 rfl rfl fl_X11_103 (sT ht) rfl (Or.inl rfl) (ok_callSI (M' := M_Jo_leastFullPower) (as := [_, _, _]) 16 rfl rfl ml_X11_279 (s_Jo_leastFullPower hT.2.1) ⟨Nat.le_of_ble_eq_true rfl, Nat.le_of_ble_eq_true rfl⟩ rfl (Nat.le_of_ble_eq_true rfl) (fun σ' z3 x3 => ?_)))
    obtain ⟨hs_, x3⟩ := x3
    rw [hs_]; clear hs_ σ'
    refine ok_iret 17 rfl rfl rfl ?_
    exact ⟨_, rfl, rfl, trivial⟩
theorem s_Ev_kin {σ : eS} {s r : Int} (h : IA σ) : MtI shA M_Ev_kin [vr 0, vi s, vi r] σ (fun σ' _ => σ' = σ ∧ True) := by
  refine Mt.of okM_Ev_kin (Nat.le_of_ble_eq_true rfl) (fun hk hg => ?_)
  refine ok_aload_n 0 rfl rfl rfl (ok_iload_n 1 rfl rfl rfl (ok_callVR (M' := M_Ev_slotAt) (as := [_]) 2 rfl rfl ml_X11_86 (s_Ev_slotAt) rfl rfl (Nat.le_of_ble_eq_true rfl) ⟨Nat.le_of_ble_eq_true rfl, Nat.le_of_ble_eq_true rfl⟩ rfl (Nat.le_of_ble_eq_true rfl) (fun σ' z hz => ?_)))
  obtain ⟨hs_, hz⟩ := hz
  rw [hs_]; clear hs_ σ'
  rcases hz with ⟨q, q2⟩ | ⟨q1, q2, q⟩
  · subst q
    refine ok_ast3 3 rfl rfl rfl (ok_aload_n 4 rfl rfl rfl (ok_ifnullN 5 18 rfl rfl rfl (ok_iconst 10 rfl rfl (by decide) (ok_goto 11 35 rfl rfl rfl (ok_iret 19 rfl rfl rfl ?_)))))
    exact ⟨_, rfl, rfl, trivial⟩
  · subst q
    have ht := sl_tA ⟨q1, q2⟩
    have hT := (h.2.1 _ ht).1
    refine ok_ast3 3 rfl rfl rfl (ok_aload_n 4 rfl rfl rfl (ok_ifnull 5 rfl rfl (ok_aload_n 6 rfl rfl rfl (ok_iload_n 7 rfl rfl rfl (ok_callVI (M' := M_Ta_has) (as := [_]) 8 rfl rfl ml_X11_129 (s_Ta_has ht) (sT ht) rfl (Nat.le_of_ble_eq_true rfl) ⟨Nat.le_of_ble_eq_true rfl, Nat.le_of_ble_eq_true rfl⟩ rfl (Nat.le_of_ble_eq_true rfl) (fun σ' z1 x1 => ?_))))))
    obtain ⟨hs_, x1⟩ := x1
    rw [hs_]; clear hs_ σ'
    refine ok_if_ne 9 22 rfl rfl rfl (fun h15 => ?_) (fun h15 => ?_)
    · refine ok_aload_n 12 rfl rfl rfl (ok_iconst 13 rfl rfl (by decide) (ok_callVL (M' := M_Ta_joinedBy) (as := [_]) 14 rfl rfl ml_X11_119 (s_Ta_joinedBy ht hT) (sT ht) rfl (Nat.le_of_ble_eq_true rfl) ⟨Nat.le_of_ble_eq_true rfl, Nat.le_of_ble_eq_true rfl⟩ rfl (Nat.le_of_ble_eq_true rfl) (fun σ' z2 x2 => ?_)))
      obtain ⟨hs_, x2⟩ := x2
      rw [hs_]; clear hs_ σ'
      refine ok_iload_n 15 rfl rfl rfl (ok_aload_n 16 rfl rfl rfl (ok_getI 17 rfl rfl fl_X11_103 (sT ht) rfl (Or.inl rfl) (ok_callSI (M' := M_Jo_kinOf) (as := [_, _, _]) 18 rfl rfl ml_X11_283 (s_Jo_kinOf hT.2.1) ⟨Nat.le_of_ble_eq_true rfl, Nat.le_of_ble_eq_true rfl⟩ rfl (Nat.le_of_ble_eq_true rfl) (fun σ' z3 x3 => ?_))))
      obtain ⟨hs_, x3⟩ := x3
      rw [hs_]; clear hs_ σ'
      refine ok_iret 19 rfl rfl rfl ?_
      exact ⟨_, rfl, rfl, trivial⟩
    · refine ok_iconst 10 rfl rfl (by decide) (ok_goto 11 35 rfl rfl rfl (ok_iret 19 rfl rfl rfl ?_))
      exact ⟨_, rfl, rfl, trivial⟩
theorem s_Ev_isCell {σ : eS} {x : Int} : MtI shA M_Ev_isCell [vi x] σ (fun σ' z => σ' = σ ∧ ((z = 1 ∧ 0 ≤ x ∧ x ≤ 99999999) ∨ (z = 0 ∧ ¬ (0 ≤ x ∧ x ≤ 99999999)))) := by
  refine Mt.of okM_Ev_isCell (Nat.le_of_ble_eq_true rfl) (fun hk hg => ?_)
  refine ok_iload_n 0 rfl rfl rfl (ok_if_lt 1 15 rfl rfl rfl (fun h1 => ?_) (fun h1 => ?_))
  · refine ok_iconst 7 rfl rfl (by decide) (ok_zret 8 rfl rfl rfl (by first | omega | (simp [up_if]; omega) | (simp [up_if] at *; omega)) ?_)
    exact ⟨_, rfl, rfl, by omega⟩
  · refine ok_iload_n 2 rfl rfl rfl (ok_ldcw 3 (99999999) rfl rfl kc_X11_335 (by decide) (ok_icmp_gt 4 15 rfl rfl rfl (fun h8 => ?_) (fun h8 => ?_)))
    · refine ok_iconst 7 rfl rfl (by decide) (ok_zret 8 rfl rfl rfl (by first | omega | (simp [up_if]; omega) | (simp [up_if] at *; omega)) ?_)
      exact ⟨_, rfl, rfl, by omega⟩
    · refine ok_iconst 5 rfl rfl (by decide) (ok_goto 6 16 rfl rfl rfl (ok_zret 8 rfl rfl rfl (by first | omega | (simp [up_if]; omega) | (simp [up_if] at *; omega)) ?_))
      exact ⟨_, rfl, rfl, by omega⟩
theorem s_Ev_isRule {σ : eS} {x : Int} : MtI shA M_Ev_isRule [vi x] σ (fun σ' z => σ' = σ ∧ ((z = 1 ∧ 0 ≤ x ∧ x ≤ 3) ∨ (z = 0 ∧ ¬ (0 ≤ x ∧ x ≤ 3)))) := by
  refine Mt.of okM_Ev_isRule (Nat.le_of_ble_eq_true rfl) (fun hk hg => ?_)
  refine ok_iload_n 0 rfl rfl rfl (ok_if_lt 1 13 rfl rfl rfl (fun h1 => ?_) (fun h1 => ?_))
  · refine ok_iconst 7 rfl rfl (by decide) (ok_zret 8 rfl rfl rfl (by first | omega | (simp [up_if]; omega) | (simp [up_if] at *; omega)) ?_)
    exact ⟨_, rfl, rfl, by omega⟩
  · refine ok_iload_n 2 rfl rfl rfl (ok_iconst 3 rfl rfl (by decide) (ok_icmp_ge 4 13 rfl rfl rfl (fun h6 => ?_) (fun h6 => ?_)))
    · refine ok_iconst 7 rfl rfl (by decide) (ok_zret 8 rfl rfl rfl (by first | omega | (simp [up_if]; omega) | (simp [up_if] at *; omega)) ?_)
      exact ⟨_, rfl, rfl, by omega⟩
    · refine ok_iconst 5 rfl rfl (by decide) (ok_goto 6 14 rfl rfl rfl (ok_zret 8 rfl rfl rfl (by first | omega | (simp [up_if]; omega) | (simp [up_if] at *; omega)) ?_))
      exact ⟨_, rfl, rfl, by omega⟩
theorem s_Ev_isShare {σ : eS} {x y : Int} : MtI shA M_Ev_isShare [vi x, vi y] σ (fun σ' z => σ' = σ ∧ ((z = 1 ∧ 0 ≤ x ∧ x ≤ 9999 ∧ 1 ≤ y ∧ y ≤ 9999) ∨ (z = 0 ∧ ¬ (0 ≤ x ∧ x ≤ 9999 ∧ 1 ≤ y ∧ y ≤ 9999)))) := by
  refine Mt.of okM_Ev_isShare (Nat.le_of_ble_eq_true rfl) (fun hk hg => ?_)
  refine ok_iload_n 0 rfl rfl rfl (ok_if_lt 1 27 rfl rfl rfl (fun h1 => ?_) (fun h1 => ?_))
  · refine ok_iconst 13 rfl rfl (by decide) (ok_zret 14 rfl rfl rfl (by first | omega | (simp [up_if]; omega) | (simp [up_if] at *; omega)) ?_)
    exact ⟨_, rfl, rfl, by omega⟩
  · refine ok_iload_n 2 rfl rfl rfl (ok_sipush 3 rfl rfl (by decide) (by decide) (ok_icmp_gt 4 27 rfl rfl rfl (fun h8 => ?_) (fun h8 => ?_)))
    · refine ok_iconst 13 rfl rfl (by decide) (ok_zret 14 rfl rfl rfl (by first | omega | (simp [up_if]; omega) | (simp [up_if] at *; omega)) ?_)
      exact ⟨_, rfl, rfl, by omega⟩
    · refine ok_iload_n 5 rfl rfl rfl (ok_iconst 6 rfl rfl (by decide) (ok_icmp_lt 7 27 rfl rfl rfl (fun h13 => ?_) (fun h13 => ?_)))
      · refine ok_iconst 13 rfl rfl (by decide) (ok_zret 14 rfl rfl rfl (by first | omega | (simp [up_if]; omega) | (simp [up_if] at *; omega)) ?_)
        exact ⟨_, rfl, rfl, by omega⟩
      · refine ok_iload_n 8 rfl rfl rfl (ok_sipush 9 rfl rfl (by decide) (by decide) (ok_icmp_gt 10 27 rfl rfl rfl (fun h20 => ?_) (fun h20 => ?_)))
        · refine ok_iconst 13 rfl rfl (by decide) (ok_zret 14 rfl rfl rfl (by first | omega | (simp [up_if]; omega) | (simp [up_if] at *; omega)) ?_)
          exact ⟨_, rfl, rfl, by omega⟩
        · refine ok_iconst 11 rfl rfl (by decide) (ok_goto 12 28 rfl rfl rfl (ok_zret 14 rfl rfl rfl (by first | omega | (simp [up_if]; omega) | (simp [up_if] at *; omega)) ?_))
          exact ⟨_, rfl, rfl, by omega⟩
theorem s_Ev_lack {σ : eS} {s m w : Int} (h : IA σ) : MtI shA M_Ev_lack [vr 0, vi s, vi m, vi w] σ (fun σ' _ => σ' = σ ∧ True) := by
  refine Mt.of okM_Ev_lack (Nat.le_of_ble_eq_true rfl) (fun hk hg => ?_)
  refine ok_aload_n 0 rfl rfl rfl (ok_iload_n 1 rfl rfl rfl (ok_callVR (M' := M_Ev_filledSlot) (as := [_]) 2 rfl rfl ml_X11_137 (s_Ev_filledSlot) rfl rfl (Nat.le_of_ble_eq_true rfl) ⟨Nat.le_of_ble_eq_true rfl, Nat.le_of_ble_eq_true rfl⟩ rfl (Nat.le_of_ble_eq_true rfl) (fun σ' z hz => ?_)))
  obtain ⟨hs_, hz⟩ := hz
  rw [hs_]; clear hs_ σ'
  rcases hz with ⟨q, q0⟩ | ⟨q1, q2, q, q3⟩
  · subst q
    refine ok_ast4 3 rfl rfl rfl (ok_aload 4 rfl rfl rfl (ok_ifnullN 5 28 rfl rfl rfl (ok_iconst 14 rfl rfl (by decide) (ok_iret 15 rfl rfl rfl ?_))))
    exact ⟨_, rfl, rfl, trivial⟩
  · subst q
    have ht := sl_tA ⟨q1, q2⟩
    have hT := (h.2.1 _ ht).1
    refine ok_ast4 3 rfl rfl rfl (ok_aload 4 rfl rfl rfl (ok_ifnull 5 rfl rfl (ok_iload_n 6 rfl rfl rfl (ok_callSI (M' := M_Ev_isCell) (as := [_]) 7 rfl rfl ml_X11_208 (s_Ev_isCell) ⟨Nat.le_of_ble_eq_true rfl, Nat.le_of_ble_eq_true rfl⟩ rfl (Nat.le_of_ble_eq_true rfl) (fun σ' z0 x0 => ?_)))))
    obtain ⟨hs_, x0⟩ := x0
    rw [hs_]; clear hs_ σ'
    refine ok_if_eq 8 28 rfl rfl rfl (fun h16 => ?_) (fun h16 => ?_)
    · refine ok_iconst 14 rfl rfl (by decide) (ok_iret 15 rfl rfl rfl ?_)
      exact ⟨_, rfl, rfl, trivial⟩
    · refine ok_iload_n 9 rfl rfl rfl (ok_if_lt 10 28 rfl rfl rfl (fun h20 => ?_) (fun h20 => ?_))
      · refine ok_iconst 14 rfl rfl (by decide) (ok_iret 15 rfl rfl rfl ?_)
        exact ⟨_, rfl, rfl, trivial⟩
      · refine ok_iload_n 11 rfl rfl rfl (ok_iconst 12 rfl rfl (by decide) (ok_icmp_le 13 30 rfl rfl rfl (fun h25 => ?_) (fun h25 => ?_)))
        · refine ok_aload 16 rfl rfl rfl (ok_iload_n 17 rfl rfl rfl (ok_callVL (M' := M_Ta_joinedBy) (as := [_]) 18 rfl rfl ml_X11_119 (s_Ta_joinedBy ht hT) (sT ht) rfl (Nat.le_of_ble_eq_true rfl) ⟨Nat.le_of_ble_eq_true rfl, Nat.le_of_ble_eq_true rfl⟩ rfl (Nat.le_of_ble_eq_true rfl) (fun σ' z1 x1 => ?_)))
          obtain ⟨hs_, x1⟩ := x1
          rw [hs_]; clear hs_ σ'
          refine ok_lst5 19 rfl rfl rfl (ok_lload 20 rfl rfl rfl (ok_aload 21 rfl rfl rfl (ok_getI 22 rfl rfl fl_X11_103 (sT ht) rfl (Or.inl rfl) (ok_callSI (M' := M_Jo_rowsMostLacking) (as := [_, _]) 23 rfl rfl ml_X11_211 (s_Jo_rowsMostLacking ⟨hT.1, hT.2.1⟩) ⟨Nat.le_of_ble_eq_true rfl, Nat.le_of_ble_eq_true rfl⟩ rfl (Nat.le_of_ble_eq_true rfl) (fun σ' z2 x2 => ?_)))))
          obtain ⟨hs_, x2⟩ := x2
          rw [hs_]; clear hs_ σ'
          refine ok_ist7 24 rfl rfl rfl (ok_lload 25 rfl rfl rfl (ok_iload 26 rfl rfl rfl (ok_aload 27 rfl rfl rfl (ok_getI 28 rfl rfl fl_X11_103 (sT ht) rfl (Or.inl rfl) (ok_callSI (M' := M_Jo_columnsOf) (as := [_, _, _]) 29 rfl rfl ml_X11_214 (s_Jo_columnsOf hT.2.1) ⟨Nat.le_of_ble_eq_true rfl, Nat.le_of_ble_eq_true rfl⟩ rfl (Nat.le_of_ble_eq_true rfl) (fun σ' z3 x3 => ?_))))))
          obtain ⟨hs_, x3⟩ := x3
          rw [hs_]; clear hs_ σ'
          refine ok_ist8 30 rfl rfl rfl (ok_iload_n 31 rfl rfl rfl (ok_if_ne 32 80 rfl rfl rfl (fun h65 => ?_) (fun h65 => ?_)))
          · refine ok_iload_n 39 rfl rfl rfl (ok_iconst 40 rfl rfl (by decide) (ok_icmp_ne 41 90 rfl rfl rfl (fun h82 => ?_) (fun h82 => ?_)))
            · refine ok_iload 44 rfl rfl rfl (ok_iret 45 rfl rfl rfl ?_)
              exact ⟨_, rfl, rfl, trivial⟩
            · refine ok_iload 42 rfl rfl rfl (ok_goto 43 92 rfl rfl rfl (ok_iret 45 rfl rfl rfl ?_))
              exact ⟨_, rfl, rfl, trivial⟩
          · refine ok_iload 33 rfl rfl rfl (ok_callSI (M' := M_Ji_bitCount) (as := [_]) 34 rfl rfl ml_X11_218 (s_Ji_bitCount) ⟨Nat.le_of_ble_eq_true rfl, Nat.le_of_ble_eq_true rfl⟩ rfl (Nat.le_of_ble_eq_true rfl) (fun σ' z hz => ?_))
            rw [hz.1, hz.2]
            clear hz z σ'
            refine ok_iload 35 rfl rfl rfl (ok_callSI (M' := M_Ji_bitCount) (as := [_]) 36 rfl rfl ml_X11_218 (s_Ji_bitCount) ⟨Nat.le_of_ble_eq_true rfl, Nat.le_of_ble_eq_true rfl⟩ rfl (Nat.le_of_ble_eq_true rfl) (fun σ' z hz => ?_))
            rw [hz.1, hz.2]
            clear hz z σ'
            refine ok_isubW 37 rfl rfl (ok_iret 38 rfl rfl rfl ?_)
            exact ⟨_, rfl, rfl, trivial⟩
        · refine ok_iconst 14 rfl rfl (by decide) (ok_iret 15 rfl rfl rfl ?_)
          exact ⟨_, rfl, rfl, trivial⟩
theorem s_Ev_kept {σ : eS} {w : Int} : MtI shA M_Ev_kept [vr 0, vi w] σ (fun σ' z => σ' = σ ∧ (w = 4 → z = σ 10 3)) := by
  refine Mt.of okM_Ev_kept (Nat.le_of_ble_eq_true rfl) (fun hk hg => ?_)
  refine ok_iload_n 0 rfl rfl rfl ?_
  rcases (by omega : w = 0 ∨ w = 1 ∨ w = 2 ∨ w = 3 ∨ w = 4 ∨ (w < 0 ∨ 4 < w)) with q_ | q_ | q_ | q_ | q_ | q_
  · subst q_
    refine ok_tin 1 (len := 35) 36 rfl rfl (by decide) (by decide) rfl rfl ?_
    refine ok_aload_n 2 rfl rfl rfl (ok_getR 3 rfl rfl fl_X11_48 rfl rfl (ok_getI 4 rfl rfl fl_X11_315 rfl rfl (Or.inl rfl) (ok_iret 5 rfl rfl rfl ?_)))
    exact ⟨_, rfl, rfl, by first | (intro _; rfl) | (intro q; exact absurd q (by decide)) | (intro q; omega)⟩
  · subst q_
    refine ok_tin 1 (len := 35) 44 rfl rfl (by decide) (by decide) rfl rfl ?_
    refine ok_aload_n 6 rfl rfl rfl (ok_getR 7 rfl rfl fl_X11_48 rfl rfl (ok_getI 8 rfl rfl fl_X11_318 rfl rfl (Or.inl rfl) (ok_iret 9 rfl rfl rfl ?_)))
    exact ⟨_, rfl, rfl, by first | (intro _; rfl) | (intro q; exact absurd q (by decide)) | (intro q; omega)⟩
  · subst q_
    refine ok_tin 1 (len := 35) 52 rfl rfl (by decide) (by decide) rfl rfl ?_
    refine ok_aload_n 10 rfl rfl rfl (ok_getR 11 rfl rfl fl_X11_48 rfl rfl (ok_getI 12 rfl rfl fl_X11_321 rfl rfl (Or.inl rfl) (ok_iret 13 rfl rfl rfl ?_)))
    exact ⟨_, rfl, rfl, by first | (intro _; rfl) | (intro q; exact absurd q (by decide)) | (intro q; omega)⟩
  · subst q_
    refine ok_tin 1 (len := 35) 60 rfl rfl (by decide) (by decide) rfl rfl ?_
    refine ok_aload_n 14 rfl rfl rfl (ok_getR 15 rfl rfl fl_X11_48 rfl rfl (ok_getI 16 rfl rfl fl_X11_324 rfl rfl (Or.inl rfl) (ok_iret 17 rfl rfl rfl ?_)))
    exact ⟨_, rfl, rfl, by first | (intro _; rfl) | (intro q; exact absurd q (by decide)) | (intro q; omega)⟩
  · subst q_
    refine ok_tin 1 (len := 35) 68 rfl rfl (by decide) (by decide) rfl rfl ?_
    refine ok_aload_n 18 rfl rfl rfl (ok_getR 19 rfl rfl fl_X11_18 rfl rfl (ok_getI 20 rfl rfl fl_X11_82 rfl rfl (Or.inl rfl) (ok_iret 21 rfl rfl rfl ?_)))
    exact ⟨_, rfl, rfl, by first | (intro _; rfl) | (intro q; exact absurd q (by decide)) | (intro q; omega)⟩
  · refine ok_tout 1 (len := 35) 76 rfl rfl q_ rfl ?_
    refine ok_iconst 22 rfl rfl (by decide) (ok_iret 23 rfl rfl rfl ?_)
    exact ⟨_, rfl, rfl, by first | (intro _; rfl) | (intro q; exact absurd q (by decide)) | (intro q; omega)⟩
theorem s_Ev_out {σ : eS} {i : Int} (h : IA σ) : MtI shA M_Ev_out [vr 0, vi i] σ (fun σ' _ => σ' = σ ∧ True) := by
  refine Mt.of okM_Ev_out (Nat.le_of_ble_eq_true rfl) (fun hk hg => ?_)
  have h1 := h.2.2.2.2.1.1
  have h2 := h.2.2.2.2.1.2
  refine ok_iload_n 0 rfl rfl rfl (ok_if_lt 1 15 rfl rfl rfl (fun h1 => ?_) (fun h1 => ?_))
  · refine ok_iconst 7 rfl rfl (by decide) (ok_goto 8 28 rfl rfl rfl (ok_iret 14 rfl rfl rfl ?_))
    exact ⟨_, rfl, rfl, trivial⟩
  · refine ok_iload_n 2 rfl rfl rfl (ok_aload_n 3 rfl rfl rfl (ok_getR 4 rfl rfl fl_X11_69 rfl rfl (ok_getI 5 rfl rfl fl_X11_290 rfl rfl (Or.inl rfl) (ok_icmp_lt 6 19 rfl rfl rfl (fun h12 => ?_) (fun h12 => ?_)))))
    · refine ok_aload_n 9 rfl rfl rfl (ok_getR 10 rfl rfl fl_X11_69 rfl rfl (ok_getR 11 rfl rfl fl_X11_291 rfl rfl (ok_iload_n 12 rfl rfl rfl (ok_iald 13 rfl rfl rfl (by first | omega | (simp [up_if]; omega) | (simp [up_if] at *; omega)) (ok_iret 14 rfl rfl rfl ?_)))))
      exact ⟨_, rfl, rfl, trivial⟩
    · refine ok_iconst 7 rfl rfl (by decide) (ok_goto 8 28 rfl rfl rfl (ok_iret 14 rfl rfl rfl ?_))
      exact ⟨_, rfl, rfl, trivial⟩
def likeA (σ : eS) (s r w : Int) : Prop := 0 ≤ s ∧ s < 4 ∧ 0 ≤ r ∧ r < 4 ∧ 0 ≤ w ∧ w < 4 ∧ σ (s.toNat + 2) 1 ≠ 0 ∧ σ (s.toNat + 2) 1 = σ (r.toNat + 2) 1
theorem s_Ev_areLike {σ : eS} {s r w : Int} : MtI shA M_Ev_areLike [vr 0, vi s, vi r, vi w] σ (fun σ' z => σ' = σ ∧ ((z = 0 ∧ ¬ likeA σ s r w) ∨ (z = 1 ∧ likeA σ s r w))) := by
  refine Mt.of okM_Ev_areLike (Nat.le_of_ble_eq_true rfl) (fun hk hg => ?_)
  refine ok_aload_n 0 rfl rfl rfl (ok_iload_n 1 rfl rfl rfl (ok_callVR (M' := M_Ev_filledSlot) (as := [_]) 2 rfl rfl ml_X11_137 (s_Ev_filledSlot) rfl rfl (Nat.le_of_ble_eq_true rfl) ⟨Nat.le_of_ble_eq_true rfl, Nat.le_of_ble_eq_true rfl⟩ rfl (Nat.le_of_ble_eq_true rfl) (fun σ' z1 x1 => ?_)))
  obtain ⟨hs_, x1⟩ := x1
  rw [hs_]; clear hs_ σ'
  refine ok_ast4 3 rfl rfl rfl (ok_aload_n 4 rfl rfl rfl (ok_iload_n 5 rfl rfl rfl (ok_callVR (M' := M_Ev_filledSlot) (as := [_]) 6 rfl rfl ml_X11_137 (s_Ev_filledSlot) rfl rfl (Nat.le_of_ble_eq_true rfl) ⟨Nat.le_of_ble_eq_true rfl, Nat.le_of_ble_eq_true rfl⟩ rfl (Nat.le_of_ble_eq_true rfl) (fun σ' z2 x2 => ?_))))
  obtain ⟨hs_, x2⟩ := x2
  rw [hs_]; clear hs_ σ'
  rcases x1 with ⟨q, q0⟩ | ⟨q1, q2, q, q3⟩
  · subst q
    refine ok_ast5 7 rfl rfl rfl (ok_aload 8 rfl rfl rfl (ok_ifnullN 9 49 rfl rfl rfl (ok_iconst 23 rfl rfl (by decide) (ok_zret 24 rfl rfl rfl (by first | omega | (simp [up_if]; omega) | (simp [up_if] at *; omega)) ?_))))
    exact ⟨_, rfl, rfl, Or.inl ⟨rfl, fun w => q0 ⟨w.1, w.2.1, w.2.2.2.2.2.2.1⟩⟩⟩
  · subst q
    have ht := sl_tA ⟨q1, q2⟩
    rcases x2 with ⟨q, r0⟩ | ⟨r1, r2, q, r3⟩
    · subst q
      refine ok_ast5 7 rfl rfl rfl (ok_aload 8 rfl rfl rfl (ok_ifnull 9 rfl rfl (ok_aload 10 rfl rfl rfl (ok_ifnullN 11 49 rfl rfl rfl (ok_iconst 23 rfl rfl (by decide) (ok_zret 24 rfl rfl rfl (by first | omega | (simp [up_if]; omega) | (simp [up_if] at *; omega)) ?_))))))
      exact ⟨_, rfl, rfl, Or.inl ⟨rfl, fun w => r0 ⟨w.2.2.1, w.2.2.2.1, by show σ (r.toNat + 2) 1 ≠ 0; rw [← w.2.2.2.2.2.2.2]; exact w.2.2.2.2.2.2.1⟩⟩⟩
    · subst q
      have hu := sl_tA ⟨r1, r2⟩
      refine ok_ast5 7 rfl rfl rfl (ok_aload 8 rfl rfl rfl (ok_ifnull 9 rfl rfl (ok_aload 10 rfl rfl rfl (ok_ifnull 11 rfl rfl (ok_aload 12 rfl rfl rfl (ok_getI 13 rfl rfl fl_X11_103 (sT ht) rfl (Or.inl rfl) (ok_aload 14 rfl rfl rfl (ok_getI 15 rfl rfl fl_X11_103 (sT hu) rfl (Or.inl rfl) (ok_icmp_ne 16 49 rfl rfl rfl (fun h34 => ?_) (fun h34 => ?_))))))))))
      · refine ok_iconst 23 rfl rfl (by decide) (ok_zret 24 rfl rfl rfl (by first | omega | (simp [up_if]; omega) | (simp [up_if] at *; omega)) ?_)
        exact ⟨_, rfl, rfl, Or.inl ⟨rfl, fun w => h34 w.2.2.2.2.2.2.2⟩⟩
      · refine ok_aload_n 17 rfl rfl rfl (ok_iload_n 18 rfl rfl rfl (ok_callVR (M' := M_Ev_slotAt) (as := [_]) 19 rfl rfl ml_X11_86 (s_Ev_slotAt) rfl rfl (Nat.le_of_ble_eq_true rfl) ⟨Nat.le_of_ble_eq_true rfl, Nat.le_of_ble_eq_true rfl⟩ rfl (Nat.le_of_ble_eq_true rfl) (fun σ' z3 x3 => ?_)))
        obtain ⟨hs_, x3⟩ := x3
        rw [hs_]; clear hs_ σ'
        rcases x3 with ⟨q, q2⟩ | ⟨w1, w2, q⟩
        · subst q
          refine ok_ifnullN 20 49 rfl rfl rfl (ok_iconst 23 rfl rfl (by decide) (ok_zret 24 rfl rfl rfl (by first | omega | (simp [up_if]; omega) | (simp [up_if] at *; omega)) ?_))
          exact ⟨_, rfl, rfl, Or.inl ⟨rfl, fun w => q2 ⟨w.2.2.2.2.1, w.2.2.2.2.2.1⟩⟩⟩
        · subst q
          refine ok_ifnull 20 rfl rfl (ok_iconst 21 rfl rfl (by decide) (ok_goto 22 50 rfl rfl rfl (ok_zret 24 rfl rfl rfl (by first | omega | (simp [up_if]; omega) | (simp [up_if] at *; omega)) ?_)))
          exact ⟨_, rfl, rfl, Or.inr ⟨rfl, q1, q2, r1, r2, w1, w2, q3, h34⟩⟩
