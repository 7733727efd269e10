def oN (R : oA) : Int := R.2.2.1
def oW (R : oA) : Int := R.2.2.2.1
def oAb (R : oA) : Int → Int := R.2.2.2.2.1
def oUn (R : oA) : Int → Int := R.2.2.2.2.2
def oB (R : oA) : Int := cbC (oUn R) (oN R).toNat (oN R).toNat
def oG (R : oA) : Prop := 1 ≤ oB R ∧ cOk (oAb R) (oUn R) (oB R) (oN R)
def oS (R : oA) : Prop := R.1 = 0 → oN R = oW R
/-- what a reading of a text answers: answer, fault, place -/
def tbO (R : oA) (L z f p : Int) : Prop := (R.1 ≠ 0 ∧ z = -1 ∧ f = R.1 ∧ p = R.2.1) ∨ (R.1 = 0 ∧ ¬ oG R ∧ z = -1 ∧ f = 6 ∧ p = L) ∨ (R.1 = 0 ∧ oG R ∧ z = oN R ∧ f = 0 ∧ p = -1)
theorem oG_cg {R R' : oA} (h : aO R R') (hs : oS R) (h0 : R.1 = 0) : oN R = oN R' ∧ oB R = oB R' ∧ (oG R ↔ oG R') ∧ ∀ i j, 0 ≤ i → i < oN R → 0 ≤ j → j < oN R → oAb R (i * 8 + j) = oAb R' (i * 8 + j) ∧ oUn R (i * 8 + j) = oUn R' (i * 8 + j) := by
  obtain ⟨h1, h2, h3, h4, h5⟩ := h
  have c := h5 h0
  have s := hs h0
  have e : ∀ i j, 0 ≤ i → i < oN R → 0 ≤ j → j < oN R → oAb R (i * 8 + j) = oAb R' (i * 8 + j) ∧ oUn R (i * 8 + j) = oUn R' (i * 8 + j) := fun i j a b d f => c i j a d (Or.inl ⟨b, by unfold oN oW at *; omega⟩)
  have hn : oN R = oN R' := h3
  have hb : oB R = oB R' := by
    unfold oB
    rw [← hn]
    exact cbC_cg (fun x y a b => (e x y (by omega) (by omega) (by omega) (by omega)).2)
  refine ⟨hn, hb, ?_, e⟩
  unfold oG cOk
  rw [← hn, ← hb]
  refine and_congr Iff.rfl ⟨fun q i j a b d f => ?_, fun q i j a b d f => ?_⟩
  · rw [← (e i j a b d f).1, ← (e i j a b d f).2]; exact q i j a b d f
  · rw [(e i j a b d f).1, (e i j a b d f).2]; exact q i j a b d f
theorem tbO_un {R R' : oA} {L z f p z' f' p' : Int} (h : aO R R') (hs : oS R) (a : tbO R L z f p) (b : tbO R' L z' f' p') : z = z' ∧ f = f' ∧ p = p' := by
  have h1 := h.1
  have h2 := h.2.1
  by_cases h0 : R.1 = 0
  · obtain ⟨c1, c2, c3, c4⟩ := oG_cg h hs h0
    rcases a with a | a | a <;> rcases b with b | b | b
    · omega
    · omega
    · omega
    · omega
    · omega
    · exact absurd (c3.mpr b.2.1) a.2.1
    · omega
    · exact absurd (c3.mp a.2.1) b.2.1
    · omega
  · rcases a with a | a | a <;> rcases b with b | b | b <;> omega
def RB (σ : eS) : oA := PR (σ 5) (σ 0 6) 0 0 0 0 (rdA σ) (rdU σ)
def TBt (σ σ' : eS) (s : Int) : Prop := (∀ k, σ' 1 k = if k = s then oN (RB σ) else σ 1 k) ∧ (∀ k, σ' 2 k = if k = s then (if oN (RB σ) = 0 then 0 else oB (RB σ)) else σ 2 k) ∧ (∀ k, ¬ (64 * s ≤ k ∧ k < 64 * s + oN (RB σ) * oN (RB σ)) → σ' 3 k = σ 3 k) ∧ ∀ i j, 0 ≤ i → i < oN (RB σ) → 0 ≤ j → j < oN (RB σ) → σ' 3 (64 * s + (oN (RB σ) * i + j)) = oAb (RB σ) (i * 8 + j) * (oB (RB σ) / oUn (RB σ) (i * 8 + j))
def tbK (σ σ' : eS) : Prop := ∀ k, σ' 1 k = σ 1 k ∧ σ' 2 k = σ 2 k ∧ σ' 3 k = σ 3 k
/-- what `table` does, of the reference -/
def TB (σ : eS) (s : Int) (σ' : eS) (z : Int) : Prop := (¬ (0 ≤ s ∧ s < 4) ∧ z = -2 ∧ σ' 0 7 = 0 ∧ σ' 0 8 = -1 ∧ tbK σ σ') ∨ ((0 ≤ s ∧ s < 4) ∧ tbO (RB σ) (σ 0 6) z (σ' 0 7) (σ' 0 8) ∧ ((σ' 0 7 ≠ 0 ∧ tbK σ σ') ∨ (σ' 0 7 = 0 ∧ TBt σ σ' s)))
theorem tbK.tr {σ τ υ : eS} (a : tbK σ τ) (b : tbK τ υ) : tbK σ υ := fun k => ⟨(b k).1.trans (a k).1, (b k).2.1.trans (a k).2.1, (b k).2.2.trans (a k).2.2⟩
theorem tbK.of {σ τ : eS} {P : Nat → Int → Prop} (f : fr P σ τ) (h : ∀ k, ¬ P 1 k ∧ ¬ P 2 k ∧ ¬ P 3 k) : tbK σ τ := fun k => ⟨f 1 k (h k).1, f 2 k (h k).2.1, f 3 k (h k).2.2⟩
/-- the state ahead of the end: fault, or all read -/
def TE (σ τ : eS) : Prop := tbK σ τ ∧ τ 0 6 = σ 0 6 ∧ ((τ 0 9 ≠ 0 ∧ (RB σ).1 = τ 0 9 ∧ (RB σ).2.1 = τ 0 10) ∨ (τ 0 9 = 0 ∧ τ 0 10 = -1 ∧ RR τ ∧ Pz τ ∧ τ 0 11 = 0 ∧ TK τ ∧ PB τ 0 = RB σ))
theorem t_Mo_table {σ : eS} {s : Int} (hB : iB1 σ) (h6 : 0 ≤ σ 0 6 ∧ σ 0 6 ≤ 600) (hby : byt σ) : MtI shB M_Mo_table [vr 0, vi s] σ (fun σ' z => QT σ σ' z ∧ TB σ s σ' z) := by
  refine Mt.of okM_Mo_table (Nat.le_of_ble_eq_true rfl) (fun hk hg => ?_)
  have tail : ∀ (τ : eS) (b : Int) (x : Option eV), fr rgT σ τ → iB1 τ → (∀ (σ' : eS) (z : Int), σ' 0 7 = τ 0 9 → σ' 0 8 = τ 0 10 → tbK τ σ' → z = (if b = 0 then -2 else if τ 0 9 ≠ 0 then -1 else τ 0 18) → TB σ s σ' z) → Ok shB M_Mo_table 132 [some (vr 0), some (vi s), some (vi b), x] [] τ (fun σ' v => ∃ z, v = some (vi z) ∧ QT σ σ' z ∧ TB σ s σ' z) := by
    intro τ b x f hb hp
    refine ok_aload_n 69 rfl rfl rfl (ok_iconst 70 rfl rfl (by decide) (ok_putI 71 rfl rfl fl_X12_125 rfl rfl rfl rfl (ok_aload_n 72 rfl rfl rfl (ok_aload_n 73 rfl rfl rfl (ok_getI 74 rfl rfl fl_X12_154 rfl rfl (Or.inl rfl) (ok_putI 75 rfl rfl fl_X12_189 rfl rfl rfl rfl (ok_aload_n 76 rfl rfl rfl (ok_aload_n 77 rfl rfl rfl (ok_getI 78 rfl rfl fl_X12_157 rfl rfl (Or.inl rfl) (ok_putI 79 rfl rfl fl_X12_26 rfl rfl rfl rfl (ok_iload_n 80 rfl rfl rfl (ok_if_ne 81 162 rfl rfl rfl (fun h154 => ?_) (fun h154 => ?_)))))))))))))
    · refine ok_aload_n 84 rfl rfl rfl (ok_getI 85 rfl rfl fl_X12_154 rfl rfl (Or.inl rfl) (ok_if_eq 86 173 rfl rfl rfl (fun h166 => ?_) (fun h166 => ?_)))
      · refine ok_aload_n 89 rfl rfl rfl (ok_getI 90 rfl rfl fl_X12_167 rfl rfl (Or.inl rfl) (ok_iret 91 rfl rfl rfl ?_))
        refine ⟨_, rfl, ⟨fr_up (fr_up (fr_up f (by simp [rgT])) (by simp [rgT])) (by simp [rgT]), hb.fr (fun c k q => by rw [up_ne _ _ _ _ (by omega), up_ne _ _ _ _ (by omega), up_ne _ _ _ _ (by omega)]), by simp [up_if]⟩, hp _ _ (by simp [up_if]) (by simp [up_if]) (fun k => by simp [up_if]) ?_⟩
        first | exact (if_pos h154).symm | (rw [if_neg h154]; simp_all [up_if])
      · refine ok_iconst 87 rfl rfl (by decide) (ok_goto 88 177 rfl rfl rfl (ok_iret 91 rfl rfl rfl ?_))
        refine ⟨_, rfl, ⟨fr_up (fr_up (fr_up f (by simp [rgT])) (by simp [rgT])) (by simp [rgT]), hb.fr (fun c k q => by rw [up_ne _ _ _ _ (by omega), up_ne _ _ _ _ (by omega), up_ne _ _ _ _ (by omega)]), by simp [up_if]⟩, hp _ _ (by simp [up_if]) (by simp [up_if]) (fun k => by simp [up_if]) ?_⟩
        first | exact (if_pos h154).symm | (rw [if_neg h154]; simp_all [up_if])
    · refine ok_bipush 82 rfl rfl (by decide) (by decide) (ok_goto 83 177 rfl rfl rfl (ok_iret 91 rfl rfl rfl ?_))
      refine ⟨_, rfl, ⟨fr_up (fr_up (fr_up f (by simp [rgT])) (by simp [rgT])) (by simp [rgT]), hb.fr (fun c k q => by rw [up_ne _ _ _ _ (by omega), up_ne _ _ _ _ (by omega), up_ne _ _ _ _ (by omega)]), by simp [up_if]⟩, hp _ _ (by simp [up_if]) (by simp [up_if]) (fun k => by simp [up_if]) ?_⟩
      first | exact (if_pos h154).symm | (rw [if_neg h154]; simp_all [up_if])
  obtain ⟨τ0, e0⟩ : ∃ x, x = up (up (up (up (up σ 0 18 0) 0 19 0) 0 13 0) 0 9 0) 0 10 (-1) := ⟨_, rfl⟩
  have f00 : fr (fun c k => c = 0 ∧ (k = 9 ∨ k = 10 ∨ k = 13 ∨ k = 18 ∨ k = 19)) σ τ0 := by rw [e0]; exact fr_up (fr_up (fr_up (fr_up (fr_up fr.rf (by simp)) (by simp)) (by simp)) (by simp)) (by simp)
  have f0 : fr rgT σ τ0 := f00.mono (fun c k q => by simp only [rgT]; omega)
  have b0 : iB1 τ0 := hB.fr (fun c k q => by rw [e0]; simp only [up_if]; repeat rw [if_neg (by omega)])
  have a18 : τ0 0 18 = 0 := by rw [e0]; simp [up_if]
  have a19 : τ0 0 19 = 0 := by rw [e0]; simp [up_if]
  have a13 : τ0 0 13 = 0 := by rw [e0]; simp [up_if]
  have a9 : τ0 0 9 = 0 := by rw [e0]; simp [up_if]
  have a10 : τ0 0 10 = -1 := by rw [e0]; simp [up_if]
  have a6 : τ0 0 6 = σ 0 6 := by rw [e0]; simp [up_if]
  have a5 : τ0 5 = σ 5 := by funext j; exact f00 5 j (by omega)
  have aA : rdA τ0 = rdA σ := by funext j; unfold rdA; rw [f00 6 j (by omega), f00 7 j (by omega)]
  have aU : rdU τ0 = rdU σ := by funext j; unfold rdU; rw [f00 6 j (by omega), f00 7 j (by omega)]
  have by0 : ∀ k : Int, 0 ≤ k → k < τ0 0 6 → 0 ≤ τ0 5 k := by rw [a5, a6]; exact hby
  have p0 : P0 τ0 := ⟨by omega, by omega, by omega⟩
  have start : ∀ (τ1 : eS), lex τ0 τ1 ∧ LX τ0 τ1 → fr rgT σ τ1 ∧ iB1 τ1 ∧ Pz τ1 ∧ τ1 0 9 = 0 ∧ RR τ1 ∧ τ1 0 10 = -1 ∧ TK τ1 ∧ PB τ1 0 = RB σ ∧ tbK σ τ1 ∧ byt τ1 := fun τ1 hl0 => by
    obtain ⟨hl, hx⟩ := hl0
    obtain ⟨T1, i12, i5, i6⟩ := TK_of hl hx
    have k0 : tbK σ τ0 := tbK.of f00 (fun k => by omega)
    refine ⟨f0.tr (hl.1.mono (fun c k q => by simp only [rgT]; omega)), b0.fr (fun c k q => hl.1 c k (by omega)), Pz.of p0 hl, by rw [hl.1 0 9 (by omega)]; exact a9, ⟨by rw [hl.1 0 18 (by omega)]; omega, by rw [hl.1 0 18 (by omega)]; omega, by rw [hl.1 0 19 (by omega)]; omega, by rw [hl.1 0 19 (by omega)]; omega, fun i j q1 q2 q3 q4 => by rw [hl.1 0 18 (by omega)] at q2; omega⟩, by rw [hl.1 0 10 (by omega)]; exact a10, T1, ?_, k0.tr (tbK.of hl.1 (fun k => by omega)), by unfold byt; rw [i5, i6]; exact by0⟩
    have rA : rdA τ1 = rdA σ := by rw [← aA]; funext j; unfold rdA; rw [hl.1 6 j (by omega), hl.1 7 j (by omega)]
    have rU : rdU τ1 = rdU σ := by rw [← aU]; funext j; unfold rdU; rw [hl.1 6 j (by omega), hl.1 7 j (by omega)]
    unfold PB RB
    rw [rA, rU, i5, i6, a5, a6, i12, a5, a6, a13, hl.1 0 18 (by omega), hl.1 0 19 (by omega), a18, a19]
    exact PR_sk sk_id
  by_cases hs : 0 ≤ s ∧ s < 4
  · have after : ∀ (τ : eS), fr rgT σ τ → iB1 τ → TE σ τ → Ok shB M_Mo_table 78 [some (vr 0), some (vi s), some (vi 1), some (vi 0)] [] τ (fun σ' v => ∃ z, v = some (vi z) ∧ QT σ σ' z ∧ TB σ s σ' z) := by
      intro τ f hb hx
      obtain ⟨tk, e6, hx⟩ := hx
      have ended : τ 0 9 = 0 → RR τ ∧ τ 0 12 = σ 0 6 ∧ RB σ = (if τ 0 18 ≠ τ 0 19 then (5, σ 0 6, τ 0 18, τ 0 19, rdA τ, rdU τ) else (0, -1, τ 0 18, τ 0 19, rdA τ, rdU τ)) ∧ τ 0 10 = -1 := fun q => by
        rcases hx with w | ⟨w1, w2, w3, w4, w5, w6, w7⟩
        · exact absurd q w.1
        · obtain ⟨x1, x2⟩ := w6
          rcases x2 with ⟨y1, y2, y3⟩ | ⟨y1, y2, y3, y4⟩ | ⟨y1, y2, y3, y4, y5⟩
          · refine ⟨w3, by have := w4.2.1; have := w4.2.2.1; omega, ?_, w2⟩
            rw [← w7, ← e6]
            unfold PB
            rw [PR_end x1 y1, if_neg (by omega)]
          · omega
          · omega
      have faulted : τ 0 9 ≠ 0 → ∀ (σ' : eS) (z : Int), σ' 0 7 = τ 0 9 → σ' 0 8 = τ 0 10 → tbK τ σ' → z = (if (1 : Int) = 0 then -2 else if τ 0 9 ≠ 0 then -1 else τ 0 18) → TB σ s σ' z := fun q σ' z c1 c2 c3 c4 => by
        rcases hx with ⟨w1, w2, w3⟩ | w
        · rw [if_neg (by decide), if_pos q] at c4
          exact Or.inr ⟨hs, Or.inl ⟨by omega, c4, by omega, by omega⟩, Or.inl ⟨by omega, tk.tr c3⟩⟩
        · exact absurd w.1 q
      refine ok_iload_n 42 rfl rfl rfl (ok_if_eq 43 106 rfl rfl rfl (fun h79 => ?_) (fun h79 => ?_))
      · omega
      · refine ok_aload_n 44 rfl rfl rfl (ok_getI 45 rfl rfl fl_X12_154 rfl rfl (Or.inl rfl) (ok_if_ne 46 106 rfl rfl rfl (fun h86 => ?_) (fun h86 => ?_)))
        · refine ok_iload_n 56 rfl rfl rfl (ok_if_eq 57 132 rfl rfl rfl (fun h107 => ?_) (fun h107 => ?_))
          · omega
          · refine ok_aload_n 58 rfl rfl rfl (ok_getI 59 rfl rfl fl_X12_154 rfl rfl (Or.inl rfl) (ok_if_ne 60 132 rfl rfl rfl (fun h114 => ?_) (fun h114 => ?_)))
            · exact tail _ _ _ f hb (faulted (by omega))
            · obtain ⟨hrr, n1, n2, n3⟩ := ended (by omega)
              have hw : τ 0 18 = τ 0 19 := by omega
              rw [if_neg (by omega)] at n2
              refine ok_aload_n 61 rfl rfl rfl (ok_iload_n 62 rfl rfl rfl (ok_callVI (M' := M_Mo_isOver) (as := [_]) 63 rfl rfl ml_X12_186 (t_Mo_isOver hb hs ⟨hrr.1, hrr.2.1⟩ (by have := hrr.2.2.2.2; rw [← hw] at this; exact this)) rfl rfl (Nat.le_of_ble_eq_true rfl) ⟨Nat.le_of_ble_eq_true rfl, Nat.le_of_ble_eq_true rfl⟩ rfl (Nat.le_of_ble_eq_true rfl) (fun τ1 z hz => ?_)))
              obtain ⟨⟨q1, q2, q3⟩, q4⟩ := hz
              have g1 : fr rgT σ τ1 := f.tr (q1.mono (fun c k q => by simp only [rgO] at q; simp only [rgT]; omega))
              have hb1 := q2
              have j9 : τ1 0 9 = 0 := by rw [q1 0 9 (by simp [rgO])]; omega
              have j10 : τ1 0 10 = -1 := by rw [q1 0 10 (by simp [rgO])]; omega
              have j12 : τ1 0 12 = σ 0 6 := by rw [q1 0 12 (by simp [rgO])]; omega
              have j18 : τ1 0 18 = τ 0 18 := q1 0 18 (by simp [rgO])
              have nG : oG (RB σ) ↔ (1 ≤ cbC (rdU τ) (τ 0 18).toNat (τ 0 18).toNat ∧ cOk (rdA τ) (rdU τ) (cbC (rdU τ) (τ 0 18).toNat (τ 0 18).toNat) (τ 0 18)) := by rw [n2]; exact Iff.rfl
              have hT0 : z ≠ 0 → ∀ (σ'' : eS) (z3 : Int), σ'' 0 7 = τ1 0 9 → σ'' 0 8 = τ1 0 10 → tbK τ1 σ'' → z3 = (if (1 : Int) = 0 then -2 else if τ1 0 9 ≠ 0 then -1 else τ1 0 18) → TB σ s σ'' z3 := fun hz1 σ'' z3 c1 c2 c3 c4 => by
                rw [if_neg (by decide), if_neg (by omega)] at c4
                rcases q4 with ⟨u, -⟩ | ⟨-, u1, u2, u3, u4, u5, u6⟩
                · omega
                · refine Or.inr ⟨hs, Or.inr (Or.inr ⟨by rw [n2], nG.mpr ⟨u1, u2⟩, by rw [c4, j18, n2]; rfl, by omega, by omega⟩), Or.inr ⟨by omega, fun k => ?_, fun k => ?_, fun k hk => ?_, fun i j a b c d => ?_⟩⟩
                  · rw [(c3 k).1, u3 k, n2, (tk k).1]; rfl
                  · rw [(c3 k).2.1, u4 k, n2, (tk k).2.1]; rfl
                  · rw [n2] at hk
                    rw [(c3 k).2.2, u5 k hk, (tk k).2.2]
                  · rw [n2] at b d ⊢
                    exact (c3 _).2.2.trans (u6 i j a b c d)
              refine ok_if_ne 64 132 rfl rfl rfl (fun h122 => ?_) (fun h122 => ?_)
              · first | exact tail _ _ _ g2 hb2 hT6 | exact tail _ _ _ g1 hb1 (hT0 (by omega))
              · refine ok_aload_n 65 rfl rfl rfl (ok_bipush 66 rfl rfl (by decide) (by decide) (ok_callVI (M' := M_Mo_fails) (as := [_]) 67 rfl rfl ml_X12_164 (t_Mo_fails j9) rfl rfl (Nat.le_of_ble_eq_true rfl) ⟨Nat.le_of_ble_eq_true rfl, Nat.le_of_ble_eq_true rfl⟩ rfl (Nat.le_of_ble_eq_true rfl) (fun σ' z2 hz0 => ?_)))
                obtain ⟨⟨-, y1, y2⟩, y3, y4⟩ := fl_of (by decide) hz0
                have g2 : fr rgT σ σ' := g1.tr (y1.mono (fun c k q => by simp only [rgT]; omega))
                have hb2 : iB1 σ' := hb1.fr (fun c k q => y1 c k (by omega))
                have hT6 : ∀ (σ'' : eS) (z3 : Int), σ'' 0 7 = σ' 0 9 → σ'' 0 8 = σ' 0 10 → tbK σ' σ'' → z3 = (if (1 : Int) = 0 then -2 else if σ' 0 9 ≠ 0 then -1 else σ' 0 18) → TB σ s σ'' z3 := fun σ'' z3 c1 c2 c3 c4 => by
                  rw [if_neg (by decide), if_pos y2] at c4
                  rcases q4 with ⟨-, u1, u2⟩ | ⟨u, -⟩
                  · refine Or.inr ⟨hs, Or.inr (Or.inl ⟨by rw [n2], fun q => ?_, c4, by omega, by omega⟩), Or.inl ⟨by omega, ((tk.tr u2).tr (tbK.of y1 (fun k => by omega))).tr c3⟩⟩
                    rw [nG] at q
                    rcases u1 with u1 | u1
                    · have := q.1; omega
                    · exact u1 q.2
                  · omega
                refine ok_pop 68 rfl rfl rfl ?_
                first | exact tail _ _ _ g2 hb2 hT6 | exact tail _ _ _ g1 hb1 (hT0 (by omega))
        · refine ok_aload_n 47 rfl rfl rfl (ok_getI 48 rfl rfl fl_X12_167 rfl rfl (Or.inl rfl) (ok_aload_n 49 rfl rfl rfl (ok_getI 50 rfl rfl fl_X12_170 rfl rfl (Or.inl rfl) (ok_icmp_eq 51 106 rfl rfl rfl (fun h97 => ?_) (fun h97 => ?_)))))
          · refine ok_iload_n 56 rfl rfl rfl (ok_if_eq 57 132 rfl rfl rfl (fun h107 => ?_) (fun h107 => ?_))
            · omega
            · refine ok_aload_n 58 rfl rfl rfl (ok_getI 59 rfl rfl fl_X12_154 rfl rfl (Or.inl rfl) (ok_if_ne 60 132 rfl rfl rfl (fun h114 => ?_) (fun h114 => ?_)))
              · exact tail _ _ _ f hb (faulted (by omega))
              · obtain ⟨hrr, n1, n2, n3⟩ := ended (by omega)
                have hw : τ 0 18 = τ 0 19 := by omega
                rw [if_neg (by omega)] at n2
                refine ok_aload_n 61 rfl rfl rfl (ok_iload_n 62 rfl rfl rfl (ok_callVI (M' := M_Mo_isOver) (as := [_]) 63 rfl rfl ml_X12_186 (t_Mo_isOver hb hs ⟨hrr.1, hrr.2.1⟩ (by have := hrr.2.2.2.2; rw [← hw] at this; exact this)) rfl rfl (Nat.le_of_ble_eq_true rfl) ⟨Nat.le_of_ble_eq_true rfl, Nat.le_of_ble_eq_true rfl⟩ rfl (Nat.le_of_ble_eq_true rfl) (fun τ1 z hz => ?_)))
                obtain ⟨⟨q1, q2, q3⟩, q4⟩ := hz
                have g1 : fr rgT σ τ1 := f.tr (q1.mono (fun c k q => by simp only [rgO] at q; simp only [rgT]; omega))
                have hb1 := q2
                have j9 : τ1 0 9 = 0 := by rw [q1 0 9 (by simp [rgO])]; omega
                have j10 : τ1 0 10 = -1 := by rw [q1 0 10 (by simp [rgO])]; omega
                have j12 : τ1 0 12 = σ 0 6 := by rw [q1 0 12 (by simp [rgO])]; omega
                have j18 : τ1 0 18 = τ 0 18 := q1 0 18 (by simp [rgO])
                have nG : oG (RB σ) ↔ (1 ≤ cbC (rdU τ) (τ 0 18).toNat (τ 0 18).toNat ∧ cOk (rdA τ) (rdU τ) (cbC (rdU τ) (τ 0 18).toNat (τ 0 18).toNat) (τ 0 18)) := by rw [n2]; exact Iff.rfl
                have hT0 : z ≠ 0 → ∀ (σ'' : eS) (z3 : Int), σ'' 0 7 = τ1 0 9 → σ'' 0 8 = τ1 0 10 → tbK τ1 σ'' → z3 = (if (1 : Int) = 0 then -2 else if τ1 0 9 ≠ 0 then -1 else τ1 0 18) → TB σ s σ'' z3 := fun hz1 σ'' z3 c1 c2 c3 c4 => by
                  rw [if_neg (by decide), if_neg (by omega)] at c4
                  rcases q4 with ⟨u, -⟩ | ⟨-, u1, u2, u3, u4, u5, u6⟩
                  · omega
                  · refine Or.inr ⟨hs, Or.inr (Or.inr ⟨by rw [n2], nG.mpr ⟨u1, u2⟩, by rw [c4, j18, n2]; rfl, by omega, by omega⟩), Or.inr ⟨by omega, fun k => ?_, fun k => ?_, fun k hk => ?_, fun i j a b c d => ?_⟩⟩
                    · rw [(c3 k).1, u3 k, n2, (tk k).1]; rfl
                    · rw [(c3 k).2.1, u4 k, n2, (tk k).2.1]; rfl
                    · rw [n2] at hk
                      rw [(c3 k).2.2, u5 k hk, (tk k).2.2]
                    · rw [n2] at b d ⊢
                      exact (c3 _).2.2.trans (u6 i j a b c d)
                refine ok_if_ne 64 132 rfl rfl rfl (fun h122 => ?_) (fun h122 => ?_)
                · first | exact tail _ _ _ g2 hb2 hT6 | exact tail _ _ _ g1 hb1 (hT0 (by omega))
                · refine ok_aload_n 65 rfl rfl rfl (ok_bipush 66 rfl rfl (by decide) (by decide) (ok_callVI (M' := M_Mo_fails) (as := [_]) 67 rfl rfl ml_X12_164 (t_Mo_fails j9) rfl rfl (Nat.le_of_ble_eq_true rfl) ⟨Nat.le_of_ble_eq_true rfl, Nat.le_of_ble_eq_true rfl⟩ rfl (Nat.le_of_ble_eq_true rfl) (fun σ' z2 hz0 => ?_)))
                  obtain ⟨⟨-, y1, y2⟩, y3, y4⟩ := fl_of (by decide) hz0
                  have g2 : fr rgT σ σ' := g1.tr (y1.mono (fun c k q => by simp only [rgT]; omega))
                  have hb2 : iB1 σ' := hb1.fr (fun c k q => y1 c k (by omega))
                  have hT6 : ∀ (σ'' : eS) (z3 : Int), σ'' 0 7 = σ' 0 9 → σ'' 0 8 = σ' 0 10 → tbK σ' σ'' → z3 = (if (1 : Int) = 0 then -2 else if σ' 0 9 ≠ 0 then -1 else σ' 0 18) → TB σ s σ'' z3 := fun σ'' z3 c1 c2 c3 c4 => by
                    rw [if_neg (by decide), if_pos y2] at c4
                    rcases q4 with ⟨-, u1, u2⟩ | ⟨u, -⟩
                    · refine Or.inr ⟨hs, Or.inr (Or.inl ⟨by rw [n2], fun q => ?_, c4, by omega, by omega⟩), Or.inl ⟨by omega, ((tk.tr u2).tr (tbK.of y1 (fun k => by omega))).tr c3⟩⟩
                      rw [nG] at q
                      rcases u1 with u1 | u1
                      · have := q.1; omega
                      · exact u1 q.2
                    · omega
                  refine ok_pop 68 rfl rfl rfl ?_
                  first | exact tail _ _ _ g2 hb2 hT6 | exact tail _ _ _ g1 hb1 (hT0 (by omega))
          · refine ok_aload_n 52 rfl rfl rfl (ok_iconst 53 rfl rfl (by decide) (ok_callVI (M' := M_Mo_fails) (as := [_]) 54 rfl rfl ml_X12_164 (t_Mo_fails (by omega)) rfl rfl (Nat.le_of_ble_eq_true rfl) ⟨Nat.le_of_ble_eq_true rfl, Nat.le_of_ble_eq_true rfl⟩ rfl (Nat.le_of_ble_eq_true rfl) (fun σ' z hz0 => ?_)))
            obtain ⟨⟨-, q1, q2⟩, q3, q4⟩ := fl_of (by decide) hz0
            have g : fr rgT σ σ' := f.tr (q1.mono (fun c k q => by simp only [rgT]; omega))
            have hb' : iB1 σ' := hb.fr (fun c k q => q1 c k (by omega))
            obtain ⟨-, n1, n2, -⟩ := ended (by omega)
            rw [if_pos (by omega)] at n2
            refine ok_pop 55 rfl rfl rfl (ok_iload_n 56 rfl rfl rfl (ok_if_eq 57 132 rfl rfl rfl (fun h107 => ?_) (fun h107 => ?_)))
            · omega
            · refine ok_aload_n 58 rfl rfl rfl (ok_getI 59 rfl rfl fl_X12_154 rfl rfl (Or.inl rfl) (ok_if_ne 60 132 rfl rfl rfl (fun h114 => ?_) (fun h114 => ?_)))
              · refine tail _ _ _ g hb' (fun σ'' z c1 c2 c3 c4 => ?_)
                rw [if_neg (by decide), if_pos q2] at c4
                exact Or.inr ⟨hs, Or.inl ⟨by rw [n2]; show (5 : Int) ≠ 0; decide, c4, by rw [n2, c1, q3], by rw [n2, c2, q4]; exact n1⟩, Or.inl ⟨by omega, (tk.tr (tbK.of q1 (fun k => by omega))).tr c3⟩⟩
              · exact absurd h114 q2
    have loop : ∀ (m : Int) (τ : eS), (m = 0 ∨ m = 1) → fr rgT σ τ → iB1 τ → Pz τ → (m = 1 → RR τ ∧ τ 0 9 = 0 ∧ τ 0 11 ≠ 0 ∧ tbK σ τ ∧ τ 0 6 = σ 0 6 ∧ τ 0 10 = -1 ∧ TK τ ∧ PB τ 0 = RB σ) → (m = 0 → TE σ τ) → Ok shB M_Mo_table 51 [some (vr 0), some (vi s), some (vi 1), some (vi m)] [] τ (fun σ' v => ∃ z, v = some (vi z) ∧ QT σ σ' z ∧ TB σ s σ' z) := by
      intro m τ h1 h2 h3 h4 h5 h6
      refine lpO2 (fun (m : Int) (_ : eS) => [some (vr 0), some (vi s), some (vi 1), some (vi m)]) (fun _ τ => τ) (fun m τ => (m = 0 ∨ m = 1) ∧ fr rgT σ τ ∧ iB1 τ ∧ Pz τ ∧ (m = 1 → RR τ ∧ τ 0 9 = 0 ∧ τ 0 11 ≠ 0 ∧ tbK σ τ ∧ τ 0 6 = σ 0 6 ∧ τ 0 10 = -1 ∧ TK τ ∧ PB τ 0 = RB σ) ∧ (m = 0 → TE σ τ)) (fun m τ => if m = 0 then 0 else (700 - τ 0 12).toNat + 1) ?_ m τ ⟨h1, h2, h3, h4, h5, h6⟩
      clear h1 h2 h3 h4 h5 h6 m τ
      rintro m τ ⟨h1, h2, h3, h4, h5, h6⟩ ih
      refine ok_iload_n 29 rfl rfl rfl (ok_if_eq 30 78 rfl rfl rfl (fun h52 => ?_) (fun h52 => ?_))
      · rw [show m = 0 by omega]
        exact after τ h2 h3 (h6 (by omega))
      · have hm : m = 1 := by omega
        subst hm
        obtain ⟨k1, k2, k3, k4, k5, k6, k7, k8⟩ := h5 rfl
        have by1 : byt τ := by unfold byt; rw [k5]; intro k a b; rw [h2 5 k (by simp [rgT])]; exact hby k a b
        refine ok_aload_n 31 rfl rfl rfl (ok_callVI (M' := M_Mo_readRow) (as := []) 32 rfl rfl ml_X12_183 (t_Mo_readRow h4 k1 k7 by1 k2 k3) rfl rfl (Nat.le_of_ble_eq_true rfl) ⟨Nat.le_of_ble_eq_true rfl, Nat.le_of_ble_eq_true rfl⟩ rfl (Nat.le_of_ble_eq_true rfl) (fun τ1 z hz => ?_))
        obtain ⟨⟨z1, z2, z3⟩, z4⟩ := hz
        have g1 : fr rgT σ τ1 := h2.tr (z1.mono (fun c k q => by simp only [rgR] at q; simp only [rgT]; omega))
        have hb1 : iB1 τ1 := h3.fr (fun c k q => z1 c k (by simp only [rgR]; omega))
        have g2 : tbK σ τ1 := k4.tr (tbK.of z1 (fun k => by simp only [rgR]; omega))
        have g6 : τ1 0 6 = σ 0 6 := by rw [z1 0 6 (by simp [rgR])]; exact k5
        have l1 := h4.1
        have l2 := z2.2.1
        have l3 := z2.2.2.1
        have l4 := z2.2.2.2.1
        refine ok_if_eq 33 73 rfl rfl rfl (fun h59 => ?_) (fun h59 => ?_)
        · refine ok_iconst 39 rfl rfl (by decide) (ok_ist3 40 rfl rfl rfl (ok_goto 41 51 rfl rfl rfl ?_))
          refine ih _ τ1 ⟨by omega, g1, hb1, z2, fun q => ?_, fun q => ?_⟩ (by
            rcases z3 with ⟨y1, y2⟩ | ⟨y1, y2, y3, y4⟩
            · first | omega | (simp; done)
            · first | (rw [if_neg (by decide), if_neg (by decide)]; omega) | (simp; done))
          · rcases z3 with ⟨y1, y2⟩ | ⟨y1, y2, y3, y4⟩
            · omega
            · rcases z4 with ⟨x1, x2, x3, x4⟩ | ⟨x1, -⟩
              · exact ⟨y3, by omega, by omega, g2, g6, x4.trans k6, x2, x3.trans k8⟩
              · omega
          · rcases z3 with ⟨y1, y2⟩ | ⟨y1, y2, y3, y4⟩
            · rcases z4 with ⟨x1, -⟩ | ⟨-, x2, x3⟩
              · omega
              · rw [k8] at x2 x3; exact ⟨g2, g6, Or.inl ⟨y2, x2, x3⟩⟩
            · rcases z4 with ⟨x1, x2, x3, x4⟩ | ⟨x1, -⟩
              · exact ⟨g2, g6, Or.inr ⟨by omega, x4.trans k6, y3, z2, by omega, x2, x3.trans k8⟩⟩
              · omega
        · refine ok_aload_n 34 rfl rfl rfl (ok_getI 35 rfl rfl fl_X12_147 rfl rfl (Or.inl rfl) (ok_if_eq 36 73 rfl rfl rfl (fun h66 => ?_) (fun h66 => ?_)))
          · refine ok_iconst 39 rfl rfl (by decide) (ok_ist3 40 rfl rfl rfl (ok_goto 41 51 rfl rfl rfl ?_))
            refine ih _ τ1 ⟨by omega, g1, hb1, z2, fun q => ?_, fun q => ?_⟩ (by
              rcases z3 with ⟨y1, y2⟩ | ⟨y1, y2, y3, y4⟩
              · first | omega | (simp; done)
              · first | (rw [if_neg (by decide), if_neg (by decide)]; omega) | (simp; done))
            · rcases z3 with ⟨y1, y2⟩ | ⟨y1, y2, y3, y4⟩
              · omega
              · rcases z4 with ⟨x1, x2, x3, x4⟩ | ⟨x1, -⟩
                · exact ⟨y3, by omega, by omega, g2, g6, x4.trans k6, x2, x3.trans k8⟩
                · omega
            · rcases z3 with ⟨y1, y2⟩ | ⟨y1, y2, y3, y4⟩
              · rcases z4 with ⟨x1, -⟩ | ⟨-, x2, x3⟩
                · omega
                · rw [k8] at x2 x3; exact ⟨g2, g6, Or.inl ⟨y2, x2, x3⟩⟩
              · rcases z4 with ⟨x1, x2, x3, x4⟩ | ⟨x1, -⟩
                · exact ⟨g2, g6, Or.inr ⟨by omega, x4.trans k6, y3, z2, by omega, x2, x3.trans k8⟩⟩
                · omega
          · refine ok_iconst 37 rfl rfl (by decide) (ok_goto 38 74 rfl rfl rfl (ok_ist3 40 rfl rfl rfl (ok_goto 41 51 rfl rfl rfl ?_)))
            refine ih _ τ1 ⟨by omega, g1, hb1, z2, fun q => ?_, fun q => ?_⟩ (by
              rcases z3 with ⟨y1, y2⟩ | ⟨y1, y2, y3, y4⟩
              · first | omega | (simp; done)
              · first | (rw [if_neg (by decide), if_neg (by decide)]; omega) | (simp; done))
            · rcases z3 with ⟨y1, y2⟩ | ⟨y1, y2, y3, y4⟩
              · omega
              · rcases z4 with ⟨x1, x2, x3, x4⟩ | ⟨x1, -⟩
                · exact ⟨y3, by omega, by omega, g2, g6, x4.trans k6, x2, x3.trans k8⟩
                · omega
            · rcases z3 with ⟨y1, y2⟩ | ⟨y1, y2, y3, y4⟩
              · rcases z4 with ⟨x1, -⟩ | ⟨-, x2, x3⟩
                · omega
                · rw [k8] at x2 x3; exact ⟨g2, g6, Or.inl ⟨y2, x2, x3⟩⟩
              · rcases z4 with ⟨x1, x2, x3, x4⟩ | ⟨x1, -⟩
                · exact ⟨g2, g6, Or.inr ⟨by omega, x4.trans k6, y3, z2, by omega, x2, x3.trans k8⟩⟩
                · omega
    refine ok_aload_n 0 rfl rfl rfl (ok_iconst 1 rfl rfl (by decide) (ok_putI 2 rfl rfl fl_X12_167 rfl rfl rfl rfl (ok_aload_n 3 rfl rfl rfl (ok_iconst 4 rfl rfl (by decide) (ok_putI 5 rfl rfl fl_X12_170 rfl rfl rfl rfl (ok_aload_n 6 rfl rfl rfl (ok_iconst 7 rfl rfl (by decide) (ok_putI 8 rfl rfl fl_X12_132 rfl rfl rfl rfl (ok_aload_n 9 rfl rfl rfl (ok_iconst 10 rfl rfl (by decide) (ok_putI 11 rfl rfl fl_X12_154 rfl rfl rfl rfl (ok_aload_n 12 rfl rfl rfl (ok_iconst 13 rfl rfl (by decide) (ok_putI 14 rfl rfl fl_X12_157 rfl rfl rfl rfl ?_))))))))))))))
    rw [← e0]
    refine ok_aload_n 15 rfl rfl rfl (ok_callVV (M' := M_Mo_next) (as := []) 16 rfl rfl ml_X12_173 (t_Mo_next p0 by0) rfl rfl (Nat.le_of_ble_eq_true rfl) ⟨Nat.le_of_ble_eq_true rfl, Nat.le_of_ble_eq_true rfl⟩ rfl (Nat.le_of_ble_eq_true rfl) (fun τ1 hl => ?_))
    obtain ⟨s1, s2, s3, s4, s5, s6, s7, s8, s9, s10⟩ := start τ1 hl
    have s11 : τ1 0 6 = σ 0 6 := by rw [hl.1.1 0 6 (by omega)]; exact a6
    refine ok_iload_n 17 rfl rfl rfl (ok_callSI (M' := M_Mo_isSlot) (as := [_]) 18 rfl rfl ml_X12_103 (s_Mo_isSlot_y hs) ⟨Nat.le_of_ble_eq_true rfl, Nat.le_of_ble_eq_true rfl⟩ rfl (Nat.le_of_ble_eq_true rfl) (fun σ' z hz => ?_))
    rw [hz.1, hz.2]
    clear hz z σ'
    refine ok_ist2 19 rfl rfl rfl (ok_iload_n 20 rfl rfl rfl (ok_if_eq 21 49 rfl rfl rfl (fun h35 => ?_) (fun h35 => ?_)))
    · omega
    · refine ok_aload_n 22 rfl rfl rfl (ok_getI 23 rfl rfl fl_X12_147 rfl rfl (Or.inl rfl) (ok_if_eq 24 49 rfl rfl rfl (fun h42 => ?_) (fun h42 => ?_)))
      · refine ok_iconst 27 rfl rfl (by decide) (ok_ist3 28 rfl rfl rfl ?_)
        exact loop _ τ1 (by omega) s1 s2 s3 (fun q => ⟨s5, s4, by omega, s9, s11, s6, s7, s8⟩) (fun _ => ⟨s9, s11, Or.inr ⟨s4, s6, s5, s3, by omega, s7, s8⟩⟩)
      · refine ok_iconst 25 rfl rfl (by decide) (ok_goto 26 50 rfl rfl rfl (ok_ist3 28 rfl rfl rfl ?_))
        exact loop _ τ1 (by omega) s1 s2 s3 (fun q => ⟨s5, s4, by omega, s9, s11, s6, s7, s8⟩) (fun _ => ⟨s9, s11, Or.inr ⟨s4, s6, s5, s3, by omega, s7, s8⟩⟩)
  · refine ok_aload_n 0 rfl rfl rfl (ok_iconst 1 rfl rfl (by decide) (ok_putI 2 rfl rfl fl_X12_167 rfl rfl rfl rfl (ok_aload_n 3 rfl rfl rfl (ok_iconst 4 rfl rfl (by decide) (ok_putI 5 rfl rfl fl_X12_170 rfl rfl rfl rfl (ok_aload_n 6 rfl rfl rfl (ok_iconst 7 rfl rfl (by decide) (ok_putI 8 rfl rfl fl_X12_132 rfl rfl rfl rfl (ok_aload_n 9 rfl rfl rfl (ok_iconst 10 rfl rfl (by decide) (ok_putI 11 rfl rfl fl_X12_154 rfl rfl rfl rfl (ok_aload_n 12 rfl rfl rfl (ok_iconst 13 rfl rfl (by decide) (ok_putI 14 rfl rfl fl_X12_157 rfl rfl rfl rfl ?_))))))))))))))
    rw [← e0]
    refine ok_aload_n 15 rfl rfl rfl (ok_callVV (M' := M_Mo_next) (as := []) 16 rfl rfl ml_X12_173 (t_Mo_next p0 by0) rfl rfl (Nat.le_of_ble_eq_true rfl) ⟨Nat.le_of_ble_eq_true rfl, Nat.le_of_ble_eq_true rfl⟩ rfl (Nat.le_of_ble_eq_true rfl) (fun τ1 hl => ?_))
    obtain ⟨s1, s2, s3, s4, s5, s6, s7, s8, s9, s10⟩ := start τ1 hl
    refine ok_iload_n 17 rfl rfl rfl (ok_callSI (M' := M_Mo_isSlot) (as := [_]) 18 rfl rfl ml_X12_103 (s_Mo_isSlot_n hs) ⟨Nat.le_of_ble_eq_true rfl, Nat.le_of_ble_eq_true rfl⟩ rfl (Nat.le_of_ble_eq_true rfl) (fun σ' z hz => ?_))
    rw [hz.1, hz.2]
    clear hz z σ'
    refine ok_ist2 19 rfl rfl rfl (ok_iload_n 20 rfl rfl rfl (ok_if_eq 21 49 rfl rfl rfl (fun h35 => ?_) (fun h35 => ?_)))
    · refine ok_iconst 27 rfl rfl (by decide) (ok_ist3 28 rfl rfl rfl (ok_iload_n 29 rfl rfl rfl (ok_if_eq 30 78 rfl rfl rfl (fun h52 => ?_) (fun h52 => ?_))))
      · refine ok_iload_n 42 rfl rfl rfl (ok_if_eq 43 106 rfl rfl rfl (fun h79 => ?_) (fun h79 => ?_))
        · refine ok_iload_n 56 rfl rfl rfl (ok_if_eq 57 132 rfl rfl rfl (fun h107 => ?_) (fun h107 => ?_))
          · refine tail _ _ _ s1 s2 (fun σ' z c1 c2 c3 c4 => ?_)
            rw [if_pos rfl] at c4
            exact Or.inl ⟨hs, c4, by omega, by omega, s9.tr c3⟩
          · omega
        · omega
      · omega
    · omega
