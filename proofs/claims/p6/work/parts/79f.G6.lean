/-! LOOK alike -/
theorem look_al {σ τ : eS} {zA zB x0 x1 : Int} (hI : iB1 τ) (hA : IA σ) (h : TT σ τ) (qA : loA σ x0 x1 zA) (qB : loB τ x0 x1 zB) : zA = zB := by
  rcases qA with ⟨a1, a2⟩ | ⟨a1, a2⟩ <;> rcases qB with ⟨b1, b2⟩ | ⟨b1, b2⟩
  · omega
  · exact absurd b1 a1
  · exact absurd a1 b1
  · have e := h x0 a1.1 a1.2
    have eag : ag (τ 1 x0) (cT σ (x0.toNat + 2)) (cB τ x0) := fun i j a b c d => e.2.2.2 i j a b c d
    have k0 : zA = σ (x0.toNat + 2) 1 → zB = τ 1 x0 → zA = zB := fun a b => by rw [a, b, e.1]
    have k1 : zA = (if σ (x0.toNat + 2) 1 = 0 then 0 else σ (x0.toNat + 2) 2) → zB = τ 2 x0 → zA = zB := fun a b => by
      rw [a, b]
      by_cases q : τ 1 x0 = 0
      · rw [if_pos (by rw [e.1]; exact q), e.2.2.1 q]
      · rw [if_neg (by rw [e.1]; exact q), e.2.1 q]
    have k2 : zA = σ (x0.toNat + 2) 3 → ((evB τ x0 ∧ zB = rowB τ x0 0) ∨ (¬ evB τ x0 ∧ zB = -1)) → zA = zB := fun a b => by
      have ev := ev_al hI hA h x0
      rw [a]
      rcases b with ⟨b, c⟩ | ⟨b, c⟩
      · have va := ev.mpr b
        rw [c]
        rcases (hA.2.1 _ (sl_tA ⟨a1.1, a1.2⟩)).2 with w | ⟨-, w⟩
        · exact absurd w.1 va.2.2
        · rw [w, row_al e ⟨by omega, b.1.2.2⟩]
      · rw [c]
        refine Classical.byContradiction (fun q => b (ev.mp ⟨a1.1, a1.2, q⟩))
    have k3 : zA = cnV (σ (x0.toNat + 2) 1) (cT σ (x0.toNat + 2)) → zB = cnV (τ 1 x0) (cB τ x0) → zA = zB := fun a b => by rw [a, b, e.1]; exact cnV_cg eag
    have k4 : gcD (σ (x0.toNat + 2) 1) (cT σ (x0.toNat + 2)) (fun _ _ => True) zA → gcD (τ 1 x0) (cB τ x0) (fun _ _ => True) zB → zA = zB := fun a b => by rw [e.1] at a; exact gcD_un eag a b
    have k5 : zA = gpV (σ (x0.toNat + 2) 1) (cT σ (x0.toNat + 2)) → zB = gpV (τ 1 x0) (cB τ x0) → zA = zB := fun a b => by rw [a, b, e.1]; exact gpV_cg eag
    rcases a2 with ⟨w, a2⟩ | ⟨w, a2⟩ | ⟨w, a2⟩ | ⟨w, a2⟩ | ⟨w, a2⟩ | ⟨w, a2⟩ | ⟨w, a2⟩
    · rcases b2 with ⟨v, b2⟩ | ⟨v, b2⟩ | ⟨v, b2⟩ | ⟨v, b2⟩ | ⟨v, b2⟩ | ⟨v, b2⟩ | ⟨v, b2⟩ <;> first | exact k0 a2 b2 | (clear k0 k1 k2 k3 k4 k5 b2; omega)
    · rcases b2 with ⟨v, b2⟩ | ⟨v, b2⟩ | ⟨v, b2⟩ | ⟨v, b2⟩ | ⟨v, b2⟩ | ⟨v, b2⟩ | ⟨v, b2⟩ <;> first | exact k1 a2 b2 | (clear k0 k1 k2 k3 k4 k5 b2; omega)
    · rcases b2 with ⟨v, b2⟩ | ⟨v, b2⟩ | ⟨v, b2⟩ | ⟨v, b2⟩ | ⟨v, b2⟩ | ⟨v, b2⟩ | ⟨v, b2⟩ <;> first | exact k2 a2 b2 | (clear k0 k1 k2 k3 k4 k5 b2; omega)
    · rcases b2 with ⟨v, b2⟩ | ⟨v, b2⟩ | ⟨v, b2⟩ | ⟨v, b2⟩ | ⟨v, b2⟩ | ⟨v, b2⟩ | ⟨v, b2⟩ <;> first | exact k3 a2 b2 | (clear k0 k1 k2 k3 k4 k5 b2; omega)
    · rcases b2 with ⟨v, b2⟩ | ⟨v, b2⟩ | ⟨v, b2⟩ | ⟨v, b2⟩ | ⟨v, b2⟩ | ⟨v, b2⟩ | ⟨v, b2⟩ <;> first | exact k4 a2 b2 | (clear k0 k1 k2 k3 k4 k5 b2; omega)
    · rcases b2 with ⟨v, b2⟩ | ⟨v, b2⟩ | ⟨v, b2⟩ | ⟨v, b2⟩ | ⟨v, b2⟩ | ⟨v, b2⟩ | ⟨v, b2⟩ <;> first | exact k5 a2 b2 | (clear k0 k1 k2 k3 k4 k5 b2; omega)
    · rcases b2 with ⟨v, b2⟩ | ⟨v, b2⟩ | ⟨v, b2⟩ | ⟨v, b2⟩ | ⟨v, b2⟩ | ⟨v, b2⟩ | ⟨v, b2⟩ <;> first | (rw [a2, b2]; done) | (clear k0 k1 k2 k3 k4 k5 b2; omega)
theorem bound_al {σ τ : eS} {zA zB x0 x1 : Int} (hI : iB1 τ) (hA : IA σ) (h : TT σ τ) (qA : boS (evA σ x0) (σ (x0.toNat + 2) 1) (cT σ (x0.toNat + 2)) x1 zA) (qB : boS (evB τ x0) (τ 1 x0) (cB τ x0) x1 zB) : zA = zB := by
  refine boS_un (ev_al hI hA h x0) (fun q => ?_) qA qB
  have e := h x0 q.1 q.2.1
  exact ⟨e.1, fun i j a b c d => e.2.2.2 i j a (by rw [← e.1]; exact b) c (by rw [← e.1]; exact d)⟩
theorem x_Ev_look {σ : eS} {x0 x1 : Int} (h : IA σ) : MtI shA M_Ev_look [vr 0, vi x0, vi x1] σ (fun σ' z => QA σ σ' ∧ loA σ x0 x1 z) := (t_Ev_look h).weaken (fun σ' v q => by obtain ⟨z, e1, g1, g2⟩ := q; subst g1; exact ⟨z, e1, QA_rf h, g2⟩)
theorem x_Mo_look {σ : eS} {x0 x1 : Int} (h : IB σ) : MtI shB M_Mo_look [vr 0, vi x0, vi x1] σ (fun σ' z => QB σ σ' ∧ loB σ x0 x1 z) := (t_Mo_look h.1).weaken (fun σ' v q => by obtain ⟨z, e1, g1, g2⟩ := q; exact ⟨z, e1, QB_cg h g1 (fun c k w => by omega), g2⟩)
theorem x_Ev_bound {σ : eS} {x0 x1 : Int} (h : IA σ ∧ iSe σ ∧ σ 16 3 + 64 < 2147483647) : MtI shA M_Ev_bound [vr 0, vi x0, vi x1] σ (fun σ' z => QA σ σ' ∧ boS (evA σ x0) (σ (x0.toNat + 2) 1) (cT σ (x0.toNat + 2)) x1 z) := t_Ev_bound h.1 h.2.1 h.2.2
theorem x_Mo_bound {σ : eS} {x0 x1 : Int} (h : IB σ) : MtI shB M_Mo_bound [vr 0, vi x0, vi x1] σ (fun σ' z => QB σ σ' ∧ boS (evB σ x0) (σ 1 x0) (cB σ x0) x1 z) := (t_Mo_bound h.1).weaken (fun σ' v q => by obtain ⟨z, e1, g1, g2⟩ := q; exact ⟨z, e1, QB_cg h g1 (fun c k w => by omega), g2⟩)
