/-! the same of the reference -/
theorem gF_un {σ : eS} {m : Int} (h0 : m ∣ σ 0 4) : ∀ {k : Nat}, (∀ j : Nat, j < k → m ∣ σ 4 j) → m ∣ gF σ k
  | 0, _ => h0
  | k + 1, h => Int.dvd_coe_gcd (gF_un h0 (fun j q => h j (by omega))) (h k (by omega))
abbrev frF (τ : eS) (n : Int) : Int → Int → Int := fun i j => τ 4 (n * i + j)
theorem Qtk.B {τ σ' : eS} {s n z : Int} (hn : 1 ≤ n ∧ n ≤ 8) (hb : 1 ≤ τ 0 4) (h : Qtk τ s n σ' z) : MB τ s n (τ 0 4) (frF τ n) σ' z := by
  obtain ⟨gp, gl⟩ := gF_bd hb (n * n).toNat
  obtain ⟨v1, v2⟩ := gF_dv τ (n * n).toNat
  have sq := sq8 (n := n) ⟨by omega, by omega⟩
  have ix : ∀ i j, 0 ≤ i → i < n → 0 ≤ j → j < n → ∃ k : Nat, (k : Int) = n * i + j ∧ k < (n * n).toNat := fun i j a b c d => by
    obtain ⟨y1, y2, y3, y4⟩ := ix8 (n := n) (i := i) (j := j) ⟨by omega, by omega⟩ ⟨a, b⟩ ⟨c, d⟩
    exact ⟨(n * i + j).toNat, by omega, by omega⟩
  have hG : isG (gF τ (n * n).toNat) (τ 0 4) n (frF τ n) := by
    refine ⟨gp, v1, fun i j a b c d => ?_, fun m p q => gF_un p (fun k hk => ?_)⟩
    · obtain ⟨k, e, l⟩ := ix i j a b c d
      have := v2 k l
      rw [e] at this
      exact this
    · obtain ⟨x, y, a, b, c, d, e⟩ := dm_n (k := (k : Int)) (n := n) (by omega) (by omega) (by omega)
      rw [e]; exact q x y a b c d
  have hft : fitT τ n ↔ fitM (gF τ (n * n).toNat) (τ 0 4) n (frF τ n) := by
    refine ⟨fun q => ⟨q.1, fun i j a b c d => ?_⟩, fun q => ⟨q.1, fun k a b => ?_⟩⟩
    · obtain ⟨y1, y2, y3, y4⟩ := ix8 (n := n) (i := i) (j := j) ⟨by omega, by omega⟩ ⟨a, b⟩ ⟨c, d⟩
      exact q.2 (n * i + j) (by omega) (by omega)
    · obtain ⟨x, y, a1, b1, c1, d1, e1⟩ := dm_n (by omega) a b
      rw [e1]; exact q.2 x y a1 b1 c1 d1
  refine ⟨_, hG, ?_⟩
  rcases h with ⟨hz, e, w⟩ | ⟨hz, e, w⟩
  · exact Or.inl ⟨hz, fun q => w (hft.mpr q), fun k => by rw [e]; exact ⟨rfl, rfl, rfl⟩⟩
  · refine Or.inr ⟨hz, hft.mp w, fun k => ?_, fun k => ?_, fun k hk => ?_, fun i j a b c d => ?_⟩
    · rw [e]; simp only [tw]; simp
    · rw [e, if_neg (by omega)]; simp only [tw]; simp
    · rw [e]; simp only [tw]; rw [if_neg (by omega), if_neg (by omega), if_neg (by omega)]
    · obtain ⟨y1, y2, y3, y4⟩ := ix8 (n := n) (i := i) (j := j) ⟨by omega, by omega⟩ ⟨a, b⟩ ⟨c, d⟩
      rw [e]
      simp only [tw]
      rw [if_neg (by omega), if_neg (by omega), if_pos ⟨trivial, by omega, by omega⟩, show 64 * s + (n * i + j) - 64 * s = n * i + j by omega]
theorem MB_cg {σ τ σ' : eS} {s n b z : Int} {f f' : Int → Int → Int} (h : MB τ s n b f σ' z) (hk : tbK σ τ) (e : ∀ i j, 0 ≤ i → i < n → 0 ≤ j → j < n → f i j = f' i j) : MB σ s n b f' σ' z := by
  obtain ⟨g, h1, h2⟩ := h
  refine ⟨g, isG_cg h1 e, ?_⟩
  rcases h2 with ⟨a1, a2, a3⟩ | ⟨a1, a2, a3, a4, a5, a6⟩
  · exact Or.inl ⟨a1, fun q => a2 ((fitM_cg e).mpr q), hk.tr a3⟩
  · exact Or.inr ⟨a1, (fitM_cg e).mp a2, fun k => by rw [a3 k, (hk k).1], fun k => by rw [a4 k, (hk k).2.1], fun k q => by rw [a5 k q, (hk k).2.2], fun i j p q r w => by rw [a6 i j p q r w, e i j p q r w]⟩
theorem tbK_rf (σ : eS) : tbK σ σ := fun _ => ⟨rfl, rfl, rfl⟩
theorem tbK_M {σ τ : eS} (f : fr (fun c k => (c = 0 ∧ k = 4) ∨ c = 4) σ τ) : tbK σ τ := tbK.of f (fun k => by omega)
def likeB (σ : eS) (s o w : Int) : Prop := tabB σ s ∧ tabB σ o ∧ (0 ≤ w ∧ w < 4) ∧ σ 1 s = σ 1 o
def pdB (σ : eS) (s o : Int) : Int → Int → Int := fun i j => sm (fun k => cB σ s i k * cB σ o k j) (σ 1 s).toNat
def XtB (σ : eS) (s o w : Int) (σ' : eS) (z : Int) : Prop := (z = 0 ∧ tbK σ σ' ∧ ¬ likeB σ s o w) ∨ (likeB σ s o w ∧ MB σ w (σ 1 s) (σ 2 s * σ 2 o) (pdB σ s o) σ' z)
theorem cB_cg {σ τ : eS} (h : tbK σ τ) (s i j : Int) : cB τ s i j = cB σ s i j := by unfold cB; rw [(h _).2.2, (h _).1]
theorem t_Mo_times {σ : eS} {s o t : Int} (hB : iB1 σ) : MtI shB M_Mo_times [vr 0, vi s, vi o, vi t] σ (fun σ' z => QM σ σ' z ∧ XtB σ s o t σ' z) := by
  refine Mt.of okM_Mo_times (Nat.le_of_ble_eq_true rfl) (fun hk hg => ?_)
  refine ok_aload_n 0 rfl rfl rfl (ok_iload_n 1 rfl rfl rfl (ok_callVI (M' := M_Mo_isTable) (as := [_]) 2 rfl rfl ml_X12_111 (s_Mo_isTable_r) rfl rfl (Nat.le_of_ble_eq_true rfl) ⟨Nat.le_of_ble_eq_true rfl, Nat.le_of_ble_eq_true rfl⟩ rfl (Nat.le_of_ble_eq_true rfl) (fun σ' z1 a1 => ?_)))
  obtain ⟨hs_, a1⟩ := a1
  rw [hs_]; clear hs_ σ'
  refine ok_if_eq 3 38 rfl rfl rfl (fun h5 => ?_) (fun h5 => ?_)
  · refine ok_iconst 20 rfl rfl (by decide) (ok_zret 21 rfl rfl rfl (by first | omega | (simp [up_if]; omega) | (simp [up_if] at *; omega)) ?_)
    exact ⟨_, rfl, ⟨fr.rf, hB, Or.inl rfl⟩, Or.inl ⟨rfl, tbK_rf _, fun q => no1 a1 h5 q.1⟩⟩
  · refine ok_aload_n 4 rfl rfl rfl (ok_iload_n 5 rfl rfl rfl (ok_callVI (M' := M_Mo_isTable) (as := [_]) 6 rfl rfl ml_X12_111 (s_Mo_isTable_r) rfl rfl (Nat.le_of_ble_eq_true rfl) ⟨Nat.le_of_ble_eq_true rfl, Nat.le_of_ble_eq_true rfl⟩ rfl (Nat.le_of_ble_eq_true rfl) (fun σ' z2 a2 => ?_)))
    obtain ⟨hs_, a2⟩ := a2
    rw [hs_]; clear hs_ σ'
    refine ok_if_eq 7 38 rfl rfl rfl (fun h13 => ?_) (fun h13 => ?_)
    · refine ok_iconst 20 rfl rfl (by decide) (ok_zret 21 rfl rfl rfl (by first | omega | (simp [up_if]; omega) | (simp [up_if] at *; omega)) ?_)
      exact ⟨_, rfl, ⟨fr.rf, hB, Or.inl rfl⟩, Or.inl ⟨rfl, tbK_rf _, fun q => no1 a2 h13 q.2.1⟩⟩
    · refine ok_iload_n 8 rfl rfl rfl (ok_callSI (M' := M_Mo_isSlot) (as := [_]) 9 rfl rfl ml_X12_103 (s_Mo_isSlot_r) ⟨Nat.le_of_ble_eq_true rfl, Nat.le_of_ble_eq_true rfl⟩ rfl (Nat.le_of_ble_eq_true rfl) (fun σ' z3 a3 => ?_))
      obtain ⟨hs_, a3⟩ := a3
      rw [hs_]; clear hs_ σ'
      refine ok_if_eq 10 38 rfl rfl rfl (fun h20 => ?_) (fun h20 => ?_)
      · refine ok_iconst 20 rfl rfl (by decide) (ok_zret 21 rfl rfl rfl (by first | omega | (simp [up_if]; omega) | (simp [up_if] at *; omega)) ?_)
        exact ⟨_, rfl, ⟨fr.rf, hB, Or.inl rfl⟩, Or.inl ⟨rfl, tbK_rf _, fun q => no1 a3 h20 q.2.2.1⟩⟩
      · have hs : tabB σ s := yes1 a1 h5
        have ho : tabB σ o := yes1 a2 h13
        have ht := yes1 a3 h20
        obtain ⟨s1, s2, s3⟩ := id hs
        obtain ⟨o1, o2, o3⟩ := id ho
        obtain ⟨g1, g2, g3⟩ := hB.1 s s1 s2
        obtain ⟨k1, k2, k3⟩ := hB.1 o o1 o2
        refine ok_aload_n 11 rfl rfl rfl (ok_getR 12 rfl rfl fl_X12_7 rfl rfl (ok_iload_n 13 rfl rfl rfl (ok_iald 14 rfl rfl rfl (by first | omega | (simp [up_if]; omega) | (simp [up_if] at *; omega)) (ok_aload_n 15 rfl rfl rfl (ok_getR 16 rfl rfl fl_X12_7 rfl rfl (ok_iload_n 17 rfl rfl rfl (ok_iald 18 rfl rfl rfl (by first | omega | (simp [up_if]; omega) | (simp [up_if] at *; omega)) (ok_icmp_eq 19 40 rfl rfl rfl (fun h35 => ?_) (fun h35 => ?_)))))))))
        · have hl : likeB σ s o t := ⟨hs, ho, ht, by omega⟩
          obtain ⟨n, en⟩ : ∃ x, x = σ 1 s := ⟨_, rfl⟩
          obtain ⟨x1, x2⟩ := sq8 (n := n) ⟨by omega, by omega⟩
          refine ok_aload_n 22 rfl rfl rfl (ok_getR 23 rfl rfl fl_X12_7 rfl rfl (ok_iload_n 24 rfl rfl rfl (ok_iald 25 rfl rfl rfl (by first | omega | (simp [up_if]; omega) | (simp [up_if] at *; omega)) (ok_ist4 26 rfl rfl rfl (ok_iconst 27 rfl rfl (by decide) (ok_ist5 28 rfl rfl rfl ?_))))))
          rw [← en]
          refine lpO2 (fun (i : Int) (_ : eS) => [some (vr 0), some (vi s), some (vi o), some (vi t), some (vi n), some (vi i), none, none, none, none]) (fun _ τ => τ) (fun i τ => 0 ≤ i ∧ i ≤ n ∧ fr (fun c k => (c = 0 ∧ k = 4) ∨ c = 4) σ τ ∧ (∀ k, 0 ≤ k → k < 64 → 0 ≤ τ 4 k) ∧ ∀ x y, 0 ≤ x → x < i → 0 ≤ y → y < n → τ 4 (n * x + y) = pdB σ s o x y) (fun i _ => (n - i).toNat) ?_ 0 σ ⟨by omega, by omega, fr.rf, hB.2.2, fun x y p q => by omega⟩
          rintro i τ ⟨i1, i2, i3, i4, i5⟩ ih
          refine ok_iload 29 rfl rfl rfl (ok_iload 30 rfl rfl rfl (ok_icmp_ge 31 140 rfl rfl rfl (fun h55 => ?_) (fun h55 => ?_)))
          · obtain ⟨b1, b2⟩ := iB1_M hB i3 i4
            have bs := (b2 s)
            have bo := (b2 o)
            obtain ⟨m1, m2⟩ := mul_bd (a := τ 2 s) (b := τ 2 o) (A := 999999) (B := 999999) ⟨by omega, by omega⟩ ⟨by omega, by omega⟩
            have m3 := Int.mul_pos (by omega : 0 < τ 2 s) (by omega : 0 < τ 2 o)
            have hin : i = n := by omega
            refine ok_aload_n 75 rfl rfl rfl (ok_aload_n 76 rfl rfl rfl (ok_getR 77 rfl rfl fl_X12_13 rfl rfl (ok_iload_n 78 rfl rfl rfl (ok_iald 79 rfl rfl rfl (by first | omega | (simp [up_if]; omega) | (simp [up_if] at *; omega)) (ok_i2l 80 rfl rfl (ok_aload_n 81 rfl rfl rfl (ok_getR 82 rfl rfl fl_X12_13 rfl rfl (ok_iload_n 83 rfl rfl rfl (ok_iald 84 rfl rfl rfl (by first | omega | (simp [up_if]; omega) | (simp [up_if] at *; omega)) (ok_i2l 85 rfl rfl (ok_lmul 86 rfl rfl (by first | omega | (simp [up_if]; omega) | (simp [up_if] at *; omega)) (ok_putL 87 rfl rfl fl_X12_85 rfl rfl rfl rfl (ok_aload_n 88 rfl rfl rfl (ok_iload_n 89 rfl rfl rfl (ok_iload 90 rfl rfl rfl (ok_callVI (M' := M_Mo_takes) (as := [_, _]) 91 rfl rfl ml_X12_179 (s_Mo_takes ht ⟨by omega, by omega⟩ (by rw [up_same]; omega) (fun k a b => by rw [up_ne _ _ _ _ (by decide)]; exact i4 k a (by omega))) rfl rfl (Nat.le_of_ble_eq_true rfl) ⟨Nat.le_of_ble_eq_true rfl, Nat.le_of_ble_eq_true rfl⟩ rfl (Nat.le_of_ble_eq_true rfl) (fun σ' z hz => ?_)))))))))))))))))
            have hq := Qtk.M (b1.fr (fun c k q => by rw [up_ne _ _ _ _ (by omega)])) ht ⟨by omega, by omega⟩ (by rw [up_same]; omega) (fun k a b => by rw [up_ne _ _ _ _ (by decide)]; exact i4 k a (by omega)) hz
            have hm := Qtk.B ⟨by omega, by omega⟩ (by rw [up_same]; omega) hz
            rw [up_same, bs.2, bo.2, en] at hm
            refine ok_zret 92 rfl rfl rfl (by have := hq.2.2; omega) ?_
            refine ⟨_, rfl, hq.tr (fr_up (i3.mono (fun c k q => by simp only [rgM]; omega)) (by simp [rgM])), Or.inr ⟨hl, MB_cg hm (tbK_M (fr_up i3 (by omega))) (fun x y p q r w => ?_)⟩⟩
            show up τ 0 4 _ 4 _ = _
            rw [up_ne _ _ _ _ (by decide), ← en]
            exact i5 x y p (by omega) r (by omega)
          · refine ok_iconst 32 rfl rfl (by decide) (ok_ist6 33 rfl rfl rfl ?_)
            have il : i < n := by omega
            refine lpO2 (fun (j : Int) (_ : eS) => [some (vr 0), some (vi s), some (vi o), some (vi t), some (vi n), some (vi i), some (vi j), none, none, none]) (fun _ τ => τ) (fun j τ => 0 ≤ j ∧ j ≤ n ∧ fr (fun c k => (c = 0 ∧ k = 4) ∨ c = 4) σ τ ∧ (∀ k, 0 ≤ k → k < 64 → 0 ≤ τ 4 k) ∧ ∀ x y, 0 ≤ x → 0 ≤ y → y < n → (x < i ∨ (x = i ∧ y < j)) → τ 4 (n * x + y) = pdB σ s o x y) (fun j _ => (n - j).toNat) ?_ 0 τ ⟨by omega, by omega, i3, i4, fun x y p q r w => i5 x y p (by omega) q r⟩
            clear i3 i4 i5 τ
            rintro j τ ⟨j1, j2, i3, i4, i5⟩ ih2
            obtain ⟨b1, b2⟩ := iB1_M hB i3 i4
            have tk := tbK_M i3
            have bs := (b2 s).1
            have bo := (b2 o).1
            refine ok_iload 34 rfl rfl rfl (ok_iload 35 rfl rfl rfl (ok_icmp_ge 36 134 rfl rfl rfl (fun h65 => ?_) (fun h65 => ?_)))
            · refine ok_inc5 73 rfl rfl rfl (by first | omega | (simp [up_if]; omega) | (simp [up_if] at *; omega)) (ok_goto 74 51 rfl rfl rfl ?_)
              exact ok_fg [some (vr 0), some (vi s), some (vi o), some (vi t), some (vi n), some (vi (i + 1)), none, none, none, none] ⟨rfl, rfl, rfl, rfl, rfl, rfl, trivial⟩ (ih (i + 1) τ ⟨by omega, by omega, i3, i4, fun x y p q r w => i5 x y p r w (by omega)⟩ (by omega))
            · obtain ⟨y1, y2, y3, y4⟩ := ix8 (n := n) (i := i) (j := j) ⟨by omega, by omega⟩ ⟨by omega, by omega⟩ ⟨by omega, by omega⟩
              refine ok_lconst (w := 0) 37 rfl rfl rfl (by decide) (ok_lst7 38 rfl rfl rfl (ok_iconst 39 rfl rfl (by decide) (ok_ist9 40 rfl rfl rfl ?_)))
              have jl : j < n := by omega
              refine lpO2 (fun (v k : Int) => [some (vr 0), some (vi s), some (vi o), some (vi t), some (vi n), some (vi i), some (vi j), some (vl v), none, some (vi k)]) (fun _ _ => τ) (fun v k => 0 ≤ k ∧ k ≤ n ∧ 0 ≤ v ∧ v ≤ 9999999800000001 * k ∧ v = sm (fun k => cB σ s i k * cB σ o k j) k.toNat) (fun _ k => (n - k).toNat) ?_ 0 0 ⟨by omega, by omega, by omega, by omega, rfl⟩
              rintro v k ⟨v1, v2, v3, v4, v5⟩ ih3
              have es := sm_s (fun k => cB σ s i k * cB σ o k j) v1
              refine ok_iload 41 rfl rfl rfl (ok_iload 42 rfl rfl rfl (ok_icmp_ge 43 113 rfl rfl rfl (fun h78 => ?_) (fun h78 => ?_)))
              · refine ok_aload_n 62 rfl rfl rfl (ok_getR 63 rfl rfl fl_X12_19 rfl rfl (ok_iload 64 rfl rfl rfl (ok_iload 65 rfl rfl rfl (ok_imul 66 rfl rfl (by first | omega | (simp [up_if]; omega) | (simp [up_if] at *; omega)) (ok_iload 67 rfl rfl rfl (ok_iadd 68 rfl rfl (by first | omega | (simp [up_if]; omega) | (simp [up_if] at *; omega)) (ok_lload 69 rfl rfl rfl (ok_last 70 rfl rfl rfl (by first | omega | (simp [up_if]; omega) | (simp [up_if] at *; omega)) (ok_inc6 71 rfl rfl rfl (by first | omega | (simp [up_if]; omega) | (simp [up_if] at *; omega)) (ok_goto 72 61 rfl rfl rfl ?_))))))))))
                refine ok_fg [some (vr 0), some (vi s), some (vi o), some (vi t), some (vi n), some (vi i), some (vi (j + 1)), none, none, none] ⟨rfl, rfl, rfl, rfl, rfl, rfl, rfl, trivial⟩ (ih2 (j + 1) _ ⟨by omega, by omega, fr_up i3 (by simp), fun k a b => ?_, fun x y p q r w => ?_⟩ (by omega))
                · rw [up_if]
                  split
                  · exact v3
                  · exact i4 k a (by omega)
                · rcases (by omega : (x < i ∨ (x = i ∧ y < j)) ∨ (x = i ∧ y = j)) with c | c
                  · rw [up_nk _ _ _ _ (fun e => by have := nx_inj ⟨q, r⟩ ⟨j1, jl⟩ e; omega)]; exact i5 x y p q r c
                  · rw [c.1, c.2, up_same, v5, show k = n by omega, en]; rfl
              · refine ok_lload 44 rfl rfl rfl (ok_aload_n 45 rfl rfl rfl (ok_iload_n 46 rfl rfl rfl (ok_iload 47 rfl rfl rfl (ok_iload 48 rfl rfl rfl (ok_callVI (M' := M_Mo_at) (as := [_, _, _]) 49 rfl rfl ml_X12_107 (s_Mo_at b1 ⟨s1, s2⟩ ⟨by omega, by omega⟩ ⟨by omega, by omega⟩) rfl rfl (Nat.le_of_ble_eq_true rfl) ⟨Nat.le_of_ble_eq_true rfl, Nat.le_of_ble_eq_true rfl⟩ rfl (Nat.le_of_ble_eq_true rfl) (fun σ' z hz => ?_))))))
                rw [hz.1, hz.2]
                clear hz z σ'
                refine ok_i2l 50 rfl rfl (ok_aload_n 51 rfl rfl rfl (ok_iload_n 52 rfl rfl rfl (ok_iload 53 rfl rfl rfl (ok_iload 54 rfl rfl rfl (ok_callVI (M' := M_Mo_at) (as := [_, _, _]) 55 rfl rfl ml_X12_107 (s_Mo_at b1 ⟨o1, o2⟩ ⟨by omega, by omega⟩ ⟨by omega, by omega⟩) rfl rfl (Nat.le_of_ble_eq_true rfl) ⟨Nat.le_of_ble_eq_true rfl, Nat.le_of_ble_eq_true rfl⟩ rfl (Nat.le_of_ble_eq_true rfl) (fun σ' z hz => ?_))))))
                rw [hz.1, hz.2]; clear hz z σ'
                have p1 := cB_bd b1 ⟨s1, s2⟩ (i := i) (j := k) ⟨by omega, by omega⟩ ⟨by omega, by omega⟩
                have p2 := cB_bd b1 ⟨o1, o2⟩ (i := k) (j := j) ⟨by omega, by omega⟩ ⟨by omega, by omega⟩
                have p3 := mul_bd p1 p2
                refine ok_i2l 56 rfl rfl (ok_lmul 57 rfl rfl (by first | omega | (simp [up_if]; omega) | (simp [up_if] at *; omega)) (ok_ladd 58 rfl rfl (by first | omega | (simp [up_if]; omega) | (simp [up_if] at *; omega)) (ok_lst7 59 rfl rfl rfl (ok_inc9 60 rfl rfl rfl (by first | omega | (simp [up_if]; omega) | (simp [up_if] at *; omega)) (ok_goto 61 74 rfl rfl rfl ?_)))))
                exact ih3 _ (k + 1) ⟨by omega, by omega, by omega, by omega, by rw [es, ← v5, cB_cg tk, cB_cg tk]⟩ (by omega)
        · refine ok_iconst 20 rfl rfl (by decide) (ok_zret 21 rfl rfl rfl (by first | omega | (simp [up_if]; omega) | (simp [up_if] at *; omega)) ?_)
          exact ⟨_, rfl, ⟨fr.rf, hB, Or.inl rfl⟩, Or.inl ⟨rfl, tbK_rf _, fun q => absurd q.2.2.2 (by omega)⟩⟩
