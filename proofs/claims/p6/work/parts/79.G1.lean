/-! both sides between calls -/
def IB (τ : eS) : Prop := iB1 τ ∧ iK τ ∧ (0 ≤ τ 0 6 ∧ τ 0 6 ≤ 600) ∧ (0 ≤ τ 0 42 ∧ τ 0 42 ≤ 1400)
/-- the tape stays -/
def tpB (τ τ' : eS) : Prop := τ' 0 6 = τ 0 6 ∧ τ' 0 7 = τ 0 7 ∧ τ' 0 8 = τ 0 8 ∧ ∀ k, τ' 5 k = τ 5 k
/-- the parts stay -/
def miK (τ τ' : eS) : Prop := ∀ (c : Nat) (k : Int), (c = 0 ∧ 27 ≤ k ∧ k ≤ 31) ∨ c = 12 ∨ c = 13 → τ' c k = τ c k
theorem miK_rf (τ : eS) : miK τ τ := fun _ _ _ => rfl
/-- what was shown stays -/
def swK (τ τ' : eS) : Prop := τ' 0 42 = τ 0 42 ∧ ∀ k, τ' 23 k = τ 23 k
theorem swK_rf (τ : eS) : swK τ τ := ⟨rfl, fun _ => rfl⟩
def otK (τ τ' : eS) : Prop := miK τ τ' ∧ swK τ τ'
theorem otK_rf (τ : eS) : otK τ τ := ⟨miK_rf _, swK_rf _⟩
def QB0 (τ τ' : eS) : Prop := IB τ' ∧ tpB τ τ' ∧ otK τ τ'
def QB1 (τ τ' : eS) : Prop := IB τ' ∧ tpB τ τ' ∧ tbK τ τ' ∧ swK τ τ'
def QBw (τ τ' : eS) : Prop := IB τ' ∧ tpB τ τ' ∧ tbK τ τ' ∧ miK τ τ'
def QB (τ τ' : eS) : Prop := IB τ' ∧ tpB τ τ' ∧ tbK τ τ' ∧ otK τ τ'
theorem QB.q0 {τ τ' : eS} (h : QB τ τ') : QB0 τ τ' := ⟨h.1, h.2.1, h.2.2.2⟩
theorem iK_cg {σ τ : eS} (h : iK σ) (e : ∀ c k, (c = 0 ∧ 27 ≤ k ∧ k ≤ 31) ∨ c = 12 ∨ c = 13 → τ c k = σ c k) : iK τ := by
  have e27 := e 0 27 (by omega)
  have e28 := e 0 28 (by omega)
  have e29 := e 0 29 (by omega)
  have e30 := e 0 30 (by omega)
  have e31 := e 0 31 (by omega)
  have e12 : ∀ k, τ 12 k = σ 12 k := fun k => e 12 k (by omega)
  have e13 : ∀ k, τ 13 k = σ 13 k := fun k => e 13 k (by omega)
  unfold iK wtK colK
  simp only [e27, e28, e29, e30, e31, e12, e13]
  exact h
theorem QB_rf {σ : eS} (h : IB σ) : QB σ σ := ⟨h, ⟨rfl, rfl, rfl, fun _ => rfl⟩, fun _ => ⟨rfl, rfl, rfl⟩, otK_rf _⟩
theorem QB_cg {σ τ : eS} {P : Nat → Int → Prop} (h : IB σ) (f : fr P σ τ) (e : ∀ c k, (c = 0 ∧ (k = 6 ∨ k = 7 ∨ k = 8 ∨ k = 42 ∨ (27 ≤ k ∧ k ≤ 31))) ∨ (1 ≤ c ∧ c ≤ 5) ∨ c = 12 ∨ c = 13 ∨ c = 23 → ¬ P c k) : QB σ τ := by
  have e6 := f 0 6 (e 0 6 (by omega))
  have e42 := f 0 42 (e 0 42 (by omega))
  refine ⟨⟨h.1.fr (fun c k q => f c k (e c k (by omega))), iK_cg h.2.1 (fun c k q => f c k (e c k (by omega))), ?_, ?_⟩, ⟨e6, f _ _ (e _ _ (by omega)), f _ _ (e _ _ (by omega)), fun k => f _ _ (e _ _ (by omega))⟩, fun k => ⟨f _ _ (e _ _ (by omega)), f _ _ (e _ _ (by omega)), f _ _ (e _ _ (by omega))⟩, ⟨fun c k w => f c k (e c k (by omega)), e42, fun k => f _ _ (e _ _ (by omega))⟩⟩
  · rw [e6]; exact h.2.2.1
  · rw [e42]; exact h.2.2.2
theorem QB_M {σ τ : eS} {z : Int} (h : IB σ) (q : QM σ τ z) : QB0 σ τ := by
  have e6 := q.1 0 6 (by simp [rgM])
  have e42 := q.1 0 42 (by simp [rgM])
  refine ⟨⟨q.2.1, iK_cg h.2.1 (fun c k w => q.1 c k (by simp only [rgM]; omega)), ?_, ?_⟩, ⟨e6, q.1 _ _ (by simp [rgM]), q.1 _ _ (by simp [rgM]), fun k => q.1 _ _ (by simp [rgM])⟩, ⟨fun c k w => q.1 c k (by simp only [rgM]; omega), e42, fun k => q.1 _ _ (by simp [rgM])⟩⟩
  · rw [e6]; exact h.2.2.1
  · rw [e42]; exact h.2.2.2
theorem QB_P {σ τ : eS} (h : IB σ) (q : QP σ τ) : QB1 σ τ := by
  have e6 := q.1 0 6 (by simp [rgP])
  have e42 := q.1 0 42 (by simp [rgP])
  refine ⟨⟨h.1.fr (fun c k w => q.1 c k (by simp only [rgP]; omega)), q.2 h.2.1, ?_, ?_⟩, ⟨e6, q.1 _ _ (by simp [rgP]), q.1 _ _ (by simp [rgP]), fun k => q.1 _ _ (by simp [rgP])⟩, fun k => ⟨q.1 _ _ (by simp [rgP]), q.1 _ _ (by simp [rgP]), q.1 _ _ (by simp [rgP])⟩, e42, fun k => q.1 _ _ (by simp [rgP])⟩
  · rw [e6]; exact h.2.2.1
  · rw [e42]; exact h.2.2.2
theorem QB_W {σ τ : eS} (h : IB σ) (f : fr rgW σ τ) (g : 0 ≤ τ 0 42 ∧ τ 0 42 ≤ 1216) : QBw σ τ := by
  have e6 := f 0 6 (by simp [rgW])
  refine ⟨⟨h.1.fr (fun c k w => f c k (by simp only [rgW]; omega)), iK_cg h.2.1 (fun c k w => f c k (by simp only [rgW]; omega)), ?_, by omega⟩, ⟨e6, f _ _ (by simp [rgW]), f _ _ (by simp [rgW]), fun k => f _ _ (by simp [rgW])⟩, fun k => ⟨f _ _ (by simp [rgW]), f _ _ (by simp [rgW]), f _ _ (by simp [rgW])⟩, fun c k w => f c k (by simp only [rgW]; omega)⟩
  rw [e6]; exact h.2.2.1
theorem fd_o (σ : eS) (t a b c d e : Int) (x : Nat) (k : Int) (h : ¬ (x = 0 ∧ k = 6)) (h5 : x ≠ 5) : fd σ t a b c d e x k = σ x k := by simp [fd, fo, h, h5]
theorem fd_6 (σ : eS) (t a b c d e : Int) : fd σ t a b c d e 0 6 = t + 20 := by unfold fd; rw [fo_6]; omega
/-- an int, a long comes back -/
def rI (v : Option eV) : Prop := ∃ z, v = some (vi z)
def rL (v : Option eV) : Prop := ∃ z, v = some (vl z)
theorem g_Ev_feed {σ : eS} {a b c d e : Int} (h : IA σ) : MtI shA M_Ev_feed [vr 0, vi a, vi b, vi c, vi d, vi e] σ (fun σ' z => IA σ' ∧ ((σ 10 3 + 20 ≤ 600 ∧ fdA σ (σ 10 3) a b c d e σ' ∧ z = σ 10 3 + 20) ∨ (600 < σ 10 3 + 20 ∧ σ' = σ ∧ z = -1))) :=
  (s_Ev_feed h.1).weaken (fun σ' v q => by
    obtain ⟨z, e1, q⟩ := q
    refine ⟨z, e1, ?_, q⟩
    rcases q with ⟨g1, g2, g3⟩ | ⟨g1, g2, g3⟩
    · have f := g2.1
      refine ⟨?_, iTs_cg h.2.1 (fun c k a b d => f c k (by simp only [rgG]; omega)), iCh_cg h.2.2.1 (fun k => f _ k (by simp [rgG])), iMi_cg h.2.2.2.1 (fun c k a b => f c k (by simp only [rgG]; omega)), iSh_cg h.2.2.2.2.1 (fun k => f _ k (by simp [rgG])), iSu_cg h.2.2.2.2.2 (fun k => f _ k (by simp [rgG]))⟩
      have := h.1
      unfold tL at *
      have := g2.2.1
      omega
    · subst g2
      exact h)
theorem g_Mo_feed {σ : eS} {a b c d e : Int} (h : IB σ) : MtI shB M_Mo_feed [vr 0, vi a, vi b, vi c, vi d, vi e] σ (fun σ' z => IB σ' ∧ ((σ 0 6 + 20 ≤ 600 ∧ σ' = fd σ (σ 0 6) a b c d e ∧ z = σ 0 6 + 20) ∨ (600 < σ 0 6 + 20 ∧ σ' = σ ∧ z = -1))) :=
  (s_Mo_feed h.2.2.1).weaken (fun σ' v q => by
    obtain ⟨z, e1, q⟩ := q
    refine ⟨z, e1, ?_, q⟩
    rcases q with ⟨g1, g2, g3⟩ | ⟨g1, g2, g3⟩
    · subst g2
      have h6 := h.2.2.1
      exact ⟨h.1.fr (fun c k w => fd_o _ _ _ _ _ _ _ _ _ (by omega) (by omega)), iK_cg h.2.1 (fun c k w => fd_o _ _ _ _ _ _ _ _ _ (by omega) (by omega)), by rw [fd_6]; omega, by rw [fd_o _ _ _ _ _ _ _ _ _ (by omega) (by omega)]; exact h.2.2.2⟩
    · subst g2
      exact h)
theorem g_Ev_end {σ : eS} {n : Int} (h : IA σ) : MtI shA M_Ev_end [vr 0, vi n] σ (fun σ' z => IA σ' ∧ ((0 ≤ n ∧ n ≤ σ 10 3 ∧ σ' = up σ 10 3 n ∧ z = 1) ∨ (¬ (0 ≤ n ∧ n ≤ σ 10 3) ∧ σ' = σ ∧ z = 0))) :=
  s_Ev_end.weaken (fun σ' v q => by
    obtain ⟨z, e1, q⟩ := q
    refine ⟨z, e1, ?_, q⟩
    rcases q with ⟨g1, g2, g3, g4⟩ | ⟨g1, g2, g3⟩
    · subst g3
      have f : fr (fun c k => c = 10 ∧ k = 3) σ (up σ 10 3 n) := fr_up fr.rf ⟨rfl, rfl⟩
      refine ⟨?_, iTs_cg h.2.1 (fun c k a b d => f c k (by omega)), iCh_cg h.2.2.1 (fun k => f _ k (by omega)), iMi_cg h.2.2.2.1 (fun c k a b => f c k (by omega)), iSh_cg h.2.2.2.2.1 (fun k => f _ k (by omega)), iSu_cg h.2.2.2.2.2 (fun k => f _ k (by omega))⟩
      have := h.1
      unfold tL at *
      rw [up_same]
      omega
    · subst g2
      exact h)
theorem g_Mo_end {σ : eS} {n : Int} (h : IB σ) : MtI shB M_Mo_end [vr 0, vi n] σ (fun σ' z => IB σ' ∧ ((0 ≤ n ∧ n ≤ σ 0 6 ∧ σ' = up σ 0 6 n ∧ z = 1) ∨ (¬ (0 ≤ n ∧ n ≤ σ 0 6) ∧ σ' = σ ∧ z = 0))) :=
  s_Mo_end.weaken (fun σ' v q => by
    obtain ⟨z, e1, q⟩ := q
    refine ⟨z, e1, ?_, q⟩
    rcases q with ⟨g1, g2, g3, g4⟩ | ⟨g1, g2, g3⟩
    · subst g3
      have h6 := h.2.2.1
      refine ⟨h.1.fr (fun c k w => up_ne _ _ _ _ (by omega)), iK_cg h.2.1 (fun c k w => ?_), by rw [up_same]; omega, by rw [up_nk _ _ _ _ (by decide)]; exact h.2.2.2⟩
      rw [up_if, if_neg (by omega)]
    · subst g2
      exact h)
theorem g_Ev_table {σ : eS} {s : Int} (h : IA σ) : MtI shA M_Ev_table [vr 0, vi s] σ (fun σ' z => IA σ' ∧ (σ' 10 3 = 0 ∧ TA σ s σ' z) ∧ otS σ σ') := t_Ev_table h
theorem g_Mo_table {σ : eS} {s : Int} (h : IB σ ∧ byt σ) : MtI shB M_Mo_table [vr 0, vi s] σ (fun σ' z => IB σ' ∧ (σ' 0 6 = 0 ∧ TB σ s σ' z) ∧ otK σ σ') :=
  (t_Mo_table h.1.1 h.1.2.2.1 h.2).weaken (fun σ' v q => by
    obtain ⟨z, e1, ⟨f, g1, g2⟩, g3⟩ := q
    exact ⟨z, e1, ⟨g1, iK_cg h.1.2.1 (fun c k w => f c k (by simp only [rgT]; omega)), by omega, by rw [f 0 42 (by simp [rgT])]; exact h.1.2.2.2⟩, ⟨g2, g3⟩, fun c k w => f c k (by simp only [rgT]; omega), f _ _ (by simp [rgT]), fun k => f _ _ (by simp [rgT])⟩)
theorem g_Ev_look {σ : eS} {x0 x1 : Int} (h : IA σ) : MtI shA M_Ev_look [vr 0, vi x0, vi x1] σ (fun σ' _ => QA σ σ') := (s_Ev_look h).weaken (fun σ' v q => by obtain ⟨z, e1, g1, _⟩ := q; subst g1; exact ⟨z, e1, QA_rf h⟩)
theorem g_Mo_look {σ : eS} {x0 x1 : Int} (h : IB σ) : MtI shB M_Mo_look [vr 0, vi x0, vi x1] σ (fun σ' _ => QB σ σ') := (s_Mo_look h.1).weaken (fun σ' v q => by obtain ⟨z, e1, g1⟩ := q; exact ⟨z, e1, QB_cg h g1 (fun c k w => by omega)⟩)
theorem g_Ev_cell {σ : eS} {x0 x1 x2 : Int} (h : IA σ) : MtI shA M_Ev_cell [vr 0, vi x0, vi x1, vi x2] σ (fun σ' z => QA σ σ' ∧ ((celA σ x0 x1 x2 ∧ z = cT σ (x0.toNat + 2) x1 x2) ∨ (¬ celA σ x0 x1 x2 ∧ z = -1))) := (s_Ev_cell h).weaken (fun σ' v q => by obtain ⟨z, e1, g1, g2⟩ := q; subst g1; exact ⟨z, e1, QA_rf h, g2⟩)
theorem g_Mo_cell {σ : eS} {x0 x1 x2 : Int} (h : IB σ) : MtI shB M_Mo_cell [vr 0, vi x0, vi x1, vi x2] σ (fun σ' z => QB σ σ' ∧ ((celB σ x0 x1 x2 ∧ z = cB σ x0 x1 x2) ∨ (¬ celB σ x0 x1 x2 ∧ z = -1))) := (s_Mo_cell h.1).weaken (fun σ' v q => by obtain ⟨z, e1, g1, g2⟩ := q; subst g1; exact ⟨z, e1, QB_rf h, g2⟩)
theorem g_Ev_uneven {σ : eS} {x0 : Int} (h : IA σ) : MtI shA M_Ev_uneven [vr 0, vi x0] σ (fun σ' z => QA σ σ' ∧ ((¬ tabA σ x0 ∧ z = -1) ∨ (tabA σ x0 ∧ unev (rowT σ (x0.toNat + 2)) (colT σ (x0.toNat + 2)) (σ (x0.toNat + 2) 1) z))) := (s_Ev_uneven h).weaken (fun σ' v q => by obtain ⟨z, e1, g1, g2⟩ := q; subst g1; exact ⟨z, e1, QA_rf h, g2⟩)
theorem g_Mo_uneven {σ : eS} {x0 : Int} (h : IB σ) : MtI shB M_Mo_uneven [vr 0, vi x0] σ (fun σ' z => QB σ σ' ∧ ((¬ tabB σ x0 ∧ z = -1) ∨ (tabB σ x0 ∧ unev (rowB σ x0) (colB σ x0) (σ 1 x0) z))) := (s_Mo_uneven h.1).weaken (fun σ' v q => by obtain ⟨z, e1, g1, g2⟩ := q; subst g1; exact ⟨z, e1, QB_rf h, g2⟩)
theorem g_Ev_lack {σ : eS} {x0 x1 x2 : Int} (h : IA σ) : MtI shA M_Ev_lack [vr 0, vi x0, vi x1, vi x2] σ (fun σ' z => QA σ σ' ∧ ((¬ okL (tabA σ x0) x1 x2 ∧ z = -1) ∨ (okL (tabA σ x0) x1 x2 ∧ z = lackV (σ (x0.toNat + 2) 1) (fun i j => x1 ≤ cT σ (x0.toNat + 2) i j) x2))) := (t_Ev_lack h).weaken (fun σ' v q => by obtain ⟨z, e1, g1, g2⟩ := q; subst g1; exact ⟨z, e1, QA_rf h, g2⟩)
theorem g_Mo_lack {σ : eS} {x0 x1 x2 : Int} (h : IB σ) : MtI shB M_Mo_lack [vr 0, vi x0, vi x1, vi x2] σ (fun σ' z => QB σ σ' ∧ ((¬ okL (tabB σ x0) x1 x2 ∧ z = -1) ∨ (okL (tabB σ x0) x1 x2 ∧ z = lackV (σ 1 x0) (fun i j => x1 ≤ cB σ x0 i j) x2))) := (t_Mo_lack h.1).weaken (fun σ' v q => by obtain ⟨z, e1, g1, g2⟩ := q; subst g1; exact ⟨z, e1, QB_rf h, g2⟩)
theorem g_Ev_mixing {σ : eS} {x0 : Int} (h : IA σ) : MtI shA M_Ev_mixing [vr 0, vi x0] σ (fun σ' z => QA σ σ' ∧ ((¬ tabA σ x0 ∧ z = -1) ∨ (tabA σ x0 ∧ mxG (σ (x0.toNat + 2) 1) (cT σ (x0.toNat + 2)) z))) := (t_Ev_mixing h).weaken (fun σ' v q => by obtain ⟨z, e1, g1, g2⟩ := q; subst g1; exact ⟨z, e1, QA_rf h, g2⟩)
theorem g_Mo_mixing {σ : eS} {x0 : Int} (h : IB σ) : MtI shB M_Mo_mixing [vr 0, vi x0] σ (fun σ' z => QB σ σ' ∧ ((¬ tabB σ x0 ∧ z = -1) ∨ (tabB σ x0 ∧ mxG (σ 1 x0) (cB σ x0) z))) := (t_Mo_mixing h.1).weaken (fun σ' v q => by obtain ⟨z, e1, g1, g2⟩ := q; exact ⟨z, e1, QB_cg h g1 (fun c k w => by simp only [rgX]; omega), g2⟩)
theorem g_Ev_kin {σ : eS} {x0 x1 : Int} (h : IA σ) : MtI shA M_Ev_kin [vr 0, vi x0, vi x1] σ (fun σ' z => QA σ σ' ∧ ((¬ okKn (tabA σ x0) (σ (x0.toNat + 2) 1) x1 ∧ z = -1) ∨ (okKn (tabA σ x0) (σ (x0.toNat + 2) 1) x1 ∧ kiS (σ (x0.toNat + 2) 1) (cT σ (x0.toNat + 2)) x1 z))) := (t_Ev_kin h).weaken (fun σ' v q => by obtain ⟨z, e1, g1, g2⟩ := q; subst g1; exact ⟨z, e1, QA_rf h, g2⟩)
theorem g_Mo_kin {σ : eS} {x0 x1 : Int} (h : IB σ) : MtI shB M_Mo_kin [vr 0, vi x0, vi x1] σ (fun σ' z => QB σ σ' ∧ ((¬ okKn (tabB σ x0) (σ 1 x0) x1 ∧ z = -1) ∨ (okKn (tabB σ x0) (σ 1 x0) x1 ∧ kiS (σ 1 x0) (cB σ x0) x1 z))) := (t_Mo_kin h.1).weaken (fun σ' v q => by obtain ⟨z, e1, g1, g2⟩ := q; exact ⟨z, e1, QB_cg h g1 (fun c k w => by simp only [rgX]; omega), g2⟩)
theorem g_Ev_part {σ : eS} {x0 x1 : Int} (h : IA σ) : MtI shA M_Ev_part [vr 0, vi x0, vi x1] σ (fun σ' z => QA σ σ' ∧ prS (σ 22 5) (σ 22 4) (kA σ) x0 x1 z) := (t_Ev_part h).weaken (fun σ' v q => by obtain ⟨z, e1, g1, g2⟩ := q; subst g1; exact ⟨z, e1, QA_rf h, g2⟩)
theorem g_Mo_part {σ : eS} {x0 x1 : Int} (h : IB σ) : MtI shB M_Mo_part [vr 0, vi x0, vi x1] σ (fun σ' z => QB σ σ' ∧ ((z = σ 13 (8 * x0 + x1) ∧ 0 ≤ x0 ∧ x0 < σ 0 27 ∧ 0 ≤ x1 ∧ x1 < σ 0 28) ∨ (z = -1 ∧ ¬ (0 ≤ x0 ∧ x0 < σ 0 27 ∧ 0 ≤ x1 ∧ x1 < σ 0 28)))) := (s_Mo_part h.2.1).weaken (fun σ' v q => by obtain ⟨z, e1, g1, g2⟩ := q; subst g1; exact ⟨z, e1, QB_rf h, g2⟩)
theorem g_Ev_weight {σ : eS} {x0 x1 : Int} (h : IA σ) : MtI shA M_Ev_weight [vr 0, vi x0, vi x1] σ (fun σ' z => QA σ σ' ∧ ((1 ≤ σ 22 6 → wtS (σ 22 5) (σ 22 6) (wA σ) x0 x1 z) ∧ (σ 22 5 = 0 → z = -1))) := (t_Ev_weight h).weaken (fun σ' v q => by obtain ⟨z, e1, g1, g2⟩ := q; subst g1; exact ⟨z, e1, QA_rf h, g2⟩)
theorem g_Mo_weight {σ : eS} {x0 x1 : Int} (h : IB σ) : MtI shB M_Mo_weight [vr 0, vi x0, vi x1] σ (fun σ' z => QB σ σ' ∧ wtS (σ 0 27) (σ 0 29) (wB σ) x0 x1 z) := (t_Mo_weight h.2.1).weaken (fun σ' v q => by obtain ⟨z, e1, g1, g2⟩ := q; subst g1; exact ⟨z, e1, QB_rf h, g2⟩)
theorem g_Ev_draw {σ : eS} {x0 : Int} (h : IA σ) : MtI shA M_Ev_draw [vr 0, vi x0] σ (fun σ' z => QA σ σ' ∧ drS (σ 22 5) (wA σ) x0 z) := (t_Ev_draw h).weaken (fun σ' v q => by obtain ⟨z, e1, g1, g2⟩ := q; subst g1; exact ⟨z, e1, QA_rf h, g2⟩)
theorem g_Mo_draw {σ : eS} {x0 : Int} (h : IB σ) : MtI shB M_Mo_draw [vr 0, vi x0] σ (fun σ' z => QB σ σ' ∧ drS (σ 0 27) (wB σ) x0 z) := (t_Mo_draw h.2.1).weaken (fun σ' v q => by obtain ⟨z, e1, g1, g2⟩ := q; subst g1; exact ⟨z, e1, QB_rf h, g2⟩)
theorem g_Ev_joint {σ : eS} {x0 x1 x2 x3 x4 : Int} (h : IA σ) : MtI shA M_Ev_joint [vr 0, vi x0, vi x1, vi x2, vi x3, vi x4] σ (fun σ' z => QA σ σ' ∧ ((1 ≤ σ 22 6 → jtS (σ 22 5) (σ 22 4) (σ 22 6) (wA σ) (kA σ) x0 x1 x2 x3 x4 z) ∧ (σ 22 4 = 0 → z = -1))) := (t_Ev_joint h).weaken (fun σ' v q => by obtain ⟨z, e1, g1, g2⟩ := q; subst g1; exact ⟨z, e1, QA_rf h, g2⟩)
theorem g_Mo_joint {σ : eS} {x0 x1 x2 x3 x4 : Int} (h : IB σ) : MtI shB M_Mo_joint [vr 0, vi x0, vi x1, vi x2, vi x3, vi x4] σ (fun σ' z => QB σ σ' ∧ ((σ 0 27 ≠ 0 → jtS (σ 0 27) (σ 0 28) (σ 0 29) (wB σ) (kB σ) x0 x1 x2 x3 x4 z) ∧ (σ 0 27 = 0 → z = -1))) := (t_Mo_joint h.2.1).weaken (fun σ' v q => by obtain ⟨z, e1, g1, g2⟩ := q; subst g1; exact ⟨z, e1, QB_rf h, g2⟩)
theorem g_Ev_most {σ : eS} {x0 x1 : Int} (h : IA σ) : MtI shA M_Ev_most [vr 0, vi x0, vi x1] σ (fun σ' z => QA σ σ' ∧ mtS (σ 22 5) (σ 22 4) (wA σ) (kA σ) x0 x1 z) := (t_Ev_most h).weaken (fun σ' v q => by obtain ⟨z, e1, g1, g2⟩ := q; subst g1; exact ⟨z, e1, QA_rf h, g2⟩)
theorem g_Mo_most {σ : eS} {x0 x1 : Int} (h : IB σ) : MtI shB M_Mo_most [vr 0, vi x0, vi x1] σ (fun σ' z => QB σ σ' ∧ moS (σ 0 27) (σ 0 28) (wB σ) (kB σ) x0 x1 z) := (t_Mo_most h.2.1).weaken (fun σ' v q => by obtain ⟨z, e1, g1, g2⟩ := q; subst g1; exact ⟨z, e1, QB_rf h, g2⟩)
theorem g_Ev_works {σ : eS} {x0 x1 : Int} (h : IA σ) : MtI shA M_Ev_works [vr 0, vi x0, vi x1] σ (fun σ' z => QA σ σ' ∧ wkS (σ 22 5) (σ 22 3) (wA σ) (kA σ) (σ 22 2 = 2 ∧ 0 ≤ x0 ∧ x0 < σ 22 3) x0 x1 z) := (t_Ev_works h).weaken (fun σ' v q => by obtain ⟨z, e1, g1, g2⟩ := q; subst g1; exact ⟨z, e1, QA_rf h, g2⟩)
theorem g_Mo_works {σ : eS} {x0 x1 : Int} (h : IB σ) : MtI shB M_Mo_works [vr 0, vi x0, vi x1] σ (fun σ' z => QB σ σ' ∧ wkS (σ 0 27) (σ 0 31) (wB σ) (kB σ) (σ 0 30 = 2 ∧ 0 ≤ x0 ∧ x0 < σ 0 31) x0 x1 z) := (t_Mo_works h.2.1).weaken (fun σ' v q => by obtain ⟨z, e1, g1, g2⟩ := q; subst g1; exact ⟨z, e1, QB_rf h, g2⟩)
theorem g_Ev_job {σ : eS} {x0 x1 : Int} (h : IA σ) : MtI shA M_Ev_job [vr 0, vi x0, vi x1] σ (fun σ' _ => QA σ σ') := (s_Ev_job h).weaken (fun σ' v q => by obtain ⟨z, e1, g1, _⟩ := q; subst g1; exact ⟨z, e1, QA_rf h⟩)
theorem g_Mo_job {σ : eS} {x0 x1 : Int} (h : IB σ) : MtI shB M_Mo_job [vr 0, vi x0, vi x1] σ (fun σ' _ => QB σ σ') := (s_Mo_job h.2.1).weaken (fun σ' v q => by obtain ⟨z, e1, g1⟩ := q; subst g1; exact ⟨z, e1, QB_rf h⟩)
theorem g_Ev_out {σ : eS} {x0 : Int} (h : IA σ) : MtI shA M_Ev_out [vr 0, vi x0] σ (fun σ' z => QA σ σ' ∧ ouS (σ 46 1) (fun k => σ 47 k) x0 z) := (t_Ev_out h).weaken (fun σ' v q => by obtain ⟨z, e1, g1, g2⟩ := q; subst g1; exact ⟨z, e1, QA_rf h, g2⟩)
theorem g_Mo_out {σ : eS} {x0 : Int} (h : IB σ) : MtI shB M_Mo_out [vr 0, vi x0] σ (fun σ' z => QB σ σ' ∧ ouS (σ 0 42) (fun k => σ 23 k) x0 z) := (t_Mo_out h.2.2.2).weaken (fun σ' v q => by obtain ⟨z, e1, g1, g2⟩ := q; subst g1; exact ⟨z, e1, QB_rf h, g2⟩)
theorem g_Ev_fault {σ : eS} {x0 : Int} (h : IA σ) : MtI shA M_Ev_fault [vr 0, vi x0] σ (fun σ' z => QA σ σ' ∧ z = if x0 = 0 then σ 10 4 else if x0 = 1 then σ 10 5 else -1) := (s_Ev_fault).weaken (fun σ' v q => by obtain ⟨z, e1, g1, g2⟩ := q; subst g1; exact ⟨z, e1, QA_rf h, g2⟩)
theorem g_Mo_fault {σ : eS} {x0 : Int} (h : IB σ) : MtI shB M_Mo_fault [vr 0, vi x0] σ (fun σ' z => QB σ σ' ∧ z = if x0 = 0 then σ 0 7 else if x0 = 1 then σ 0 8 else -1) := (s_Mo_fault).weaken (fun σ' v q => by obtain ⟨z, e1, g1, g2⟩ := q; subst g1; exact ⟨z, e1, QB_rf h, g2⟩)
theorem g_Ev_kept {σ : eS} {x0 : Int} (h : IA σ) : MtI shA M_Ev_kept [vr 0, vi x0] σ (fun σ' z => QA σ σ' ∧ z = if x0 = 0 then σ 22 2 else if x0 = 1 then σ 22 5 else if x0 = 2 then σ 22 6 else if x0 = 3 then σ 22 3 else if x0 = 4 then σ 10 3 else -1) := (t_Ev_kept).weaken (fun σ' v q => by obtain ⟨z, e1, g1, g2⟩ := q; subst g1; exact ⟨z, e1, QA_rf h, g2⟩)
theorem g_Mo_kept {σ : eS} {x0 : Int} (h : IB σ) : MtI shB M_Mo_kept [vr 0, vi x0] σ (fun σ' z => QB σ σ' ∧ z = if x0 = 0 then σ 0 30 else if x0 = 1 then σ 0 27 else if x0 = 2 then σ 0 29 else if x0 = 3 then (if σ 0 30 = 2 then σ 0 31 else σ 0 28) else if x0 = 4 then σ 0 6 else -1) := (t_Mo_kept).weaken (fun σ' v q => by obtain ⟨z, e1, g1, g2⟩ := q; subst g1; exact ⟨z, e1, QB_rf h, g2⟩)
theorem g_Ev_peel {σ : eS} {x0 x1 : Int} (h : IA σ ∧ iSe σ ∧ σ 16 3 + 64 < 2147483647) : MtI shA M_Ev_peel [vr 0, vi x0, vi x1] σ (fun σ' z => XpA σ x0 x1 σ' z) := t_Ev_peel h.1 h.2.1 h.2.2
theorem g_Mo_peel {σ : eS} {x0 x1 : Int} (h : IB σ) : MtI shB M_Mo_peel [vr 0, vi x0, vi x1] σ (fun σ' z => XpB σ x0 x1 σ' z) := t_Mo_peel h.1
theorem g_Ev_shop {σ : eS} {x0 x1 : Int} (h : IA σ ∧ iSe σ ∧ σ 16 3 + 64 < 2147483647) : MtI shA M_Ev_shop [vr 0, vi x0, vi x1] σ (fun σ' z => XsA σ x0 x1 σ' z) := t_Ev_shop h.1 h.2.1 h.2.2
theorem g_Mo_shop {σ : eS} {x0 x1 : Int} (h : IB σ) : MtI shB M_Mo_shop [vr 0, vi x0, vi x1] σ (fun σ' z => XsB σ x0 x1 σ' z) := t_Mo_shop h.1
theorem g_Ev_paired {σ : eS} {x0 x1 x2 : Int} (h : IA σ ∧ iSe σ ∧ σ 16 3 + 64 < 2147483647) : MtI shA M_Ev_paired [vr 0, vi x0, vi x1, vi x2] σ (fun σ' z => QA σ σ' ∧ ((¬ okPr (tabA σ x0) (σ (x0.toNat + 2) 1) x1 x2 ∧ z = -1) ∨ (okPr (tabA σ x0) (σ (x0.toNat + 2) 1) x1 x2 ∧ paS (σ (x0.toNat + 2) 1) (fun i j => x1 ≤ cT σ (x0.toNat + 2) i j) x2 z))) := t_Ev_paired h
theorem g_Mo_paired {σ : eS} {x0 x1 x2 : Int} (h : IB σ) : MtI shB M_Mo_paired [vr 0, vi x0, vi x1, vi x2] σ (fun σ' z => QB σ σ' ∧ ((¬ okPr (tabB σ x0) (σ 1 x0) x1 x2 ∧ z = -1) ∨ (okPr (tabB σ x0) (σ 1 x0) x1 x2 ∧ paS (σ 1 x0) (fun i j => x1 ≤ cB σ x0 i j) x2 z))) := (t_Mo_paired h.1).weaken (fun σ' v q => by obtain ⟨z, e1, g1, g2⟩ := q; exact ⟨z, e1, QB_cg h g1 (fun c k w => by simp only [rgS]; omega), g2⟩)
theorem g_Ev_ways {σ : eS} {x0 x1 : Int} (h : IA σ) : MtI shA M_Ev_ways [vr 0, vi x0, vi x1] σ (fun σ' z => QA σ σ' ∧ ((¬ okW (tabA σ x0) x1 ∧ z = -1) ∨ (okW (tabA σ x0) x1 ∧ z = wyV (σ (x0.toNat + 2) 1) (fun i j => x1 ≤ cT σ (x0.toNat + 2) i j)))) := t_Ev_ways h
theorem g_Mo_ways {σ : eS} {x0 x1 : Int} (h : IB σ) : MtI shB M_Mo_ways [vr 0, vi x0, vi x1] σ (fun σ' z => QB σ σ' ∧ ((¬ okW (tabB σ x0) x1 ∧ z = -1) ∨ (okW (tabB σ x0) x1 ∧ z = wyV (σ 1 x0) (fun i j => x1 ≤ cB σ x0 i j)))) := (t_Mo_ways h.1).weaken (fun σ' v q => by obtain ⟨z, e1, g1, g2⟩ := q; exact ⟨z, e1, QB_cg h g1 (fun c k w => by simp only [rgU]; omega), g2⟩)
theorem g_Ev_widest {σ : eS} {x0 : Int} (h : IA σ) : MtI shA M_Ev_widest [vr 0, vi x0] σ (fun σ' z => QA σ σ' ∧ ((¬ tabA σ x0 ∧ z = -1) ∨ (tabA σ x0 ∧ wdA (σ (x0.toNat + 2) 1) (fun i j => 0 ≤ cT σ (x0.toNat + 2) i j) (cT σ (x0.toNat + 2)) z))) := t_Ev_widest h
theorem g_Mo_widest {σ : eS} {x0 : Int} (h : IB σ) : MtI shB M_Mo_widest [vr 0, vi x0] σ (fun σ' z => QB σ σ' ∧ ((¬ tabB σ x0 ∧ z = -1) ∨ (tabB σ x0 ∧ wdA (σ 1 x0) (fun i j => 0 ≤ wk (wo σ x0 (σ 1 x0) (σ 1 x0 * σ 1 x0)) i j) (wk (wo σ x0 (σ 1 x0) (σ 1 x0 * σ 1 x0))) z))) := (t_Mo_widest h.1).weaken (fun σ' v q => by obtain ⟨z, e1, g1, g2⟩ := q; exact ⟨z, e1, QB_cg h g1 (fun c k w => by simp only [rgS]; omega), g2⟩)
theorem g_Ev_best {σ : eS} {x0 x1 : Int} (h : IA σ) : MtL shA M_Ev_best [vr 0, vi x0, vi x1] σ (fun σ' z => QA σ σ' ∧ ((¬ okBs (tabA σ x0) (σ (x0.toNat + 2) 1) x1 ∧ z = -1) ∨ (okBs (tabA σ x0) (σ (x0.toNat + 2) 1) x1 ∧ bsA (σ (x0.toNat + 2) 1) (fun i j => 0 ≤ cT σ (x0.toNat + 2) i j) (cT σ (x0.toNat + 2)) x1 z))) := t_Ev_best h
theorem g_Mo_best {σ : eS} {x0 x1 : Int} (h : IB σ) : MtL shB M_Mo_best [vr 0, vi x0, vi x1] σ (fun σ' z => QB σ σ' ∧ ((¬ okBs (tabB σ x0) (σ 1 x0) x1 ∧ z = -1) ∨ (okBs (tabB σ x0) (σ 1 x0) x1 ∧ bsA (σ 1 x0) (fun i j => 0 ≤ wk (wo σ x0 (σ 1 x0) (σ 1 x0 * σ 1 x0)) i j) (wk (wo σ x0 (σ 1 x0) (σ 1 x0 * σ 1 x0))) x1 z))) := (t_Mo_best h.1).weaken (fun σ' v q => by obtain ⟨z, e1, g1, g2⟩ := q; exact ⟨z, e1, QB_cg h g1 (fun c k w => by simp only [rgS]; omega), g2⟩)
theorem g_Ev_permanent {σ : eS} {x0 : Int} (h : IA σ) : MtL shA M_Ev_permanent [vr 0, vi x0] σ (fun σ' z => QA σ σ' ∧ ((¬ tabA σ x0 ∧ z = -1) ∨ (tabA σ x0 ∧ pmA (σ (x0.toNat + 2) 1) (cT σ (x0.toNat + 2)) z))) := t_Ev_permanent h
theorem g_Mo_permanent {σ : eS} {x0 : Int} (h : IB σ) : MtL shB M_Mo_permanent [vr 0, vi x0] σ (fun σ' z => QB σ σ' ∧ ((¬ tabB σ x0 ∧ z = -1) ∨ (tabB σ x0 ∧ pmA (σ 1 x0) (cB σ x0) z))) := (t_Mo_permanent h.1).weaken (fun σ' v q => by obtain ⟨z, e1, g1, g2⟩ := q; exact ⟨z, e1, QB_cg h g1 (fun c k w => by simp only [rgU]; omega), g2⟩)
theorem g_Ev_sought {σ : eS} {x0 x1 : Int} (h : IA σ) : MtI shA M_Ev_sought [vr 0, vi x0, vi x1] σ (fun σ' _ => QAk σ σ') := (s_Ev_sought h).weaken (fun σ' v q => by exact q)
theorem g_Mo_sought {σ : eS} {x0 x1 : Int} (h : IB σ) : MtI shB M_Mo_sought [vr 0, vi x0, vi x1] σ (fun σ' _ => QB σ σ') := (s_Mo_sought h.1).weaken (fun σ' v q => by obtain ⟨z, e1, g1⟩ := q; exact ⟨z, e1, QB_cg h g1 (fun c k w => by simp only [rgS]; omega)⟩)
theorem g_Ev_bound {σ : eS} {x0 x1 : Int} (h : IA σ) : MtI shA M_Ev_bound [vr 0, vi x0, vi x1] σ (fun σ' _ => QA σ σ') := (s_Ev_bound h).weaken (fun σ' v q => by exact q)
theorem g_Mo_bound {σ : eS} {x0 x1 : Int} (h : IB σ) : MtI shB M_Mo_bound [vr 0, vi x0, vi x1] σ (fun σ' _ => QB σ σ') := (s_Mo_bound h.1).weaken (fun σ' v q => by obtain ⟨z, e1, g1⟩ := q; exact ⟨z, e1, QB_cg h g1 (fun c k w => by omega)⟩)
theorem g_Ev_rounded {σ : eS} {x0 x1 x2 : Int} (h : IA σ) : MtI shA M_Ev_rounded [vr 0, vi x0, vi x1, vi x2] σ (fun σ' _ => QAr σ σ') := (s_Ev_rounded h).weaken (fun σ' v q => by exact q)
theorem g_Mo_rounded {σ : eS} {x0 x1 x2 : Int} (h : IB σ) : MtI shB M_Mo_rounded [vr 0, vi x0, vi x1, vi x2] σ (fun σ' _ => QB σ σ') := (s_Mo_rounded h.1).weaken (fun σ' v q => by obtain ⟨z, e1, g1⟩ := q; exact ⟨z, e1, QB_cg h g1 (fun c k w => by simp only [rgN]; omega)⟩)
theorem g_Ev_show {σ : eS} (h : IA σ) : MtI shA M_Ev_show [vr 0] σ (fun σ' z => QAw σ σ' ∧ z = σ' 46 1 ∧ bfl (fun k => σ' 47 k) (σ' 46 1) (shL (wA σ) (kA σ) (σ 22 4) (σ 22 5).toNat)) := t_Ev_show h
theorem g_Mo_show {σ : eS} (h : IB σ) : MtI shB M_Mo_show [vr 0] σ (fun σ' z => QBw σ σ' ∧ z = σ' 0 42 ∧ bfl (fun k => σ' 23 k) (σ' 0 42) (shL (wB σ) (kB σ) (σ 0 28) (σ 0 27).toNat)) := (t_Mo_show h.2.1).weaken (fun σ' v q => by obtain ⟨z, e1, g1, g2, g3⟩ := q; exact ⟨z, e1, QB_W h g1 g2, g3⟩)
theorem g_Ev_mix {σ : eS} {x0 x1 x2 x3 x4 x5 x6 : Int} (h : IA σ) : MtI shA M_Ev_mix [vr 0, vi x0, vi x1, vi x2, vi x3, vi x4, vi x5, vi x6] σ (fun σ' z => QA0 σ σ' ∧ XmA σ x0 x1 x2 x3 x4 x5 x6 σ' z) := t_Ev_mix h
theorem g_Mo_mix {σ : eS} {x0 x1 x2 x3 x4 x5 x6 : Int} (h : IB σ) : MtI shB M_Mo_mix [vr 0, vi x0, vi x1, vi x2, vi x3, vi x4, vi x5, vi x6] σ (fun σ' z => QB0 σ σ' ∧ XmB σ x0 x1 x2 x3 x4 x5 x6 σ' z) := (t_Mo_mix h.1).weaken (fun σ' v q => by obtain ⟨z, e1, g1, g2⟩ := q; exact ⟨z, e1, QB_M h g1, g2⟩)
theorem g_Ev_times {σ : eS} {x0 x1 x2 : Int} (h : IA σ) : MtI shA M_Ev_times [vr 0, vi x0, vi x1, vi x2] σ (fun σ' z => QA0 σ σ' ∧ XtA σ x0 x1 x2 σ' z) := t_Ev_times h
theorem g_Mo_times {σ : eS} {x0 x1 x2 : Int} (h : IB σ) : MtI shB M_Mo_times [vr 0, vi x0, vi x1, vi x2] σ (fun σ' z => QB0 σ σ' ∧ XtB σ x0 x1 x2 σ' z) := (t_Mo_times h.1).weaken (fun σ' v q => by obtain ⟨z, e1, g1, g2⟩ := q; exact ⟨z, e1, QB_M h g1, g2⟩)
theorem g_Ev_turn {σ : eS} {x0 x1 x2 x3 : Int} (h : IA σ) : MtI shA M_Ev_turn [vr 0, vi x0, vi x1, vi x2, vi x3] σ (fun σ' z => QA0 σ σ' ∧ XuA σ x0 x1 x2 x3 σ' z) := t_Ev_turn h
theorem g_Mo_turn {σ : eS} {x0 x1 x2 x3 : Int} (h : IB σ) : MtI shB M_Mo_turn [vr 0, vi x0, vi x1, vi x2, vi x3] σ (fun σ' z => QB0 σ σ' ∧ XuB σ x0 x1 x2 x3 σ' z) := (t_Mo_turn h.1).weaken (fun σ' v q => by obtain ⟨z, e1, g1, g2⟩ := q; exact ⟨z, e1, QB_M h g1, g2⟩)
