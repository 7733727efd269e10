section
/-! FEWEST PARTS with up to three rows: what all even and all odd choices have -/
def lz (W : Int → Int → Int) (a b : Int) : Int := W ((2 * (b + 3 - a)) % 3) (((2 * (b + 3 - a)) % 3 + a) % 3)
theorem t_Mo_lies {σ : eS} {s a b : Int} (hB : iB1 σ) (hs : 0 ≤ s ∧ s < 4) (h3 : σ 1 s = 3) (ha : 0 ≤ a ∧ a ≤ 2) (hb : 0 ≤ b ∧ b ≤ 2) : MtL shB M_Mo_lies [vr 0, vi s, vi a, vi b] σ (fun σ' z => σ' = σ ∧ z = lz (cB σ s) a b ∧ 0 ≤ z ∧ z ≤ 99999999) := by
  refine Mt.of okM_Mo_lies (Nat.le_of_ble_eq_true rfl) (fun hk hg => ?_)
  refine ok_iconst 0 rfl rfl (by decide) (ok_ist4 1 rfl rfl rfl ?_)
  refine lpO (fun i : Int => [some (vr 0), some (vi s), some (vi a), some (vi b), some (vi i)]) (fun _ => σ) (fun i => 0 ≤ i ∧ i ≤ 3 ∧ i ≤ (2 * (b + 3 - a)) % 3) (fun i => (3 - i).toNat) ?_ 0 ⟨by omega, by omega, by omega⟩
  rintro i ⟨i1, i2, i3⟩ ih
  refine ok_iload 2 rfl rfl rfl (ok_iconst 3 rfl rfl (by decide) (ok_icmp_ge 4 47 rfl rfl rfl (fun h6 => ?_) (fun h6 => ?_)))
  · refine ok_lconst (w := 0) 31 rfl rfl rfl (by decide) (ok_lret 32 rfl rfl rfl ?_)
    exfalso; omega
  · refine ok_iload 5 rfl rfl rfl (ok_iload_n 6 rfl rfl rfl (ok_iadd 7 rfl rfl (by first | omega | (simp [up_if]; omega) | (simp [up_if] at *; omega)) (ok_iconst 8 rfl rfl (by decide) (ok_irem 9 rfl rfl (by first | omega | (simp [up_if]; omega) | (simp [up_if] at *; omega)) (by first | omega | (simp [up_if]; omega) | (simp [up_if] at *; omega)) (ok_iload_n 10 rfl rfl rfl (ok_iload 11 rfl rfl rfl (ok_isub 12 rfl rfl (by first | omega | (simp [up_if]; omega) | (simp [up_if] at *; omega)) (ok_iconst 13 rfl rfl (by decide) (ok_iadd 14 rfl rfl (by first | omega | (simp [up_if]; omega) | (simp [up_if] at *; omega)) (ok_iconst 15 rfl rfl (by decide) (ok_irem 16 rfl rfl (by first | omega | (simp [up_if]; omega) | (simp [up_if] at *; omega)) (by first | omega | (simp [up_if]; omega) | (simp [up_if] at *; omega)) (ok_icmp_ne 17 41 rfl rfl rfl (fun h23 => ?_) (fun h23 => ?_)))))))))))))
    · refine ok_inc4 29 rfl rfl rfl (by first | omega | (simp [up_if]; omega) | (simp [up_if] at *; omega)) (ok_goto 30 3 rfl rfl rfl ?_)
      exact ih (i + 1) ⟨by omega, by omega, by omega⟩ (by omega)
    · refine ok_aload_n 18 rfl rfl rfl (ok_iload_n 19 rfl rfl rfl (ok_iload 20 rfl rfl rfl (ok_iload 21 rfl rfl rfl (ok_iload_n 22 rfl rfl rfl (ok_iadd 23 rfl rfl (by first | omega | (simp [up_if]; omega) | (simp [up_if] at *; omega)) (ok_iconst 24 rfl rfl (by decide) (ok_irem 25 rfl rfl (by first | omega | (simp [up_if]; omega) | (simp [up_if] at *; omega)) (by first | omega | (simp [up_if]; omega) | (simp [up_if] at *; omega)) (ok_callVI (M' := M_Mo_at) (as := [_, _, _]) 26 rfl rfl ml_X12_107 (s_Mo_at hB hs ⟨by omega, by omega⟩ ⟨by omega, by omega⟩) rfl rfl (Nat.le_of_ble_eq_true rfl) ⟨Nat.le_of_ble_eq_true rfl, Nat.le_of_ble_eq_true rfl⟩ rfl (Nat.le_of_ble_eq_true rfl) (fun σ' z hz => ?_)))))))))
      rw [hz.1, hz.2]; clear hz z σ'
      have hc := cB_bd hB hs (i := i) (j := (i + a) % 3) ⟨by omega, by omega⟩ ⟨by omega, by omega⟩
      have ei : i = (2 * (b + 3 - a)) % 3 := by omega
      refine ok_i2l 27 rfl rfl (ok_lret 28 rfl rfl rfl ?_)
      exact ⟨_, rfl, rfl, by unfold lz; rw [← ei], hc.1, hc.2⟩
def evn (W : Int → Int → Int) (t a : Int) : Int := lz W a 0 - lz W 0 0 + t
def odn (W : Int → Int → Int) (t a : Int) : Int := lz W 0 a - t
def vlT (W : Int → Int → Int) (t i : Int) : Prop := ∀ a, 0 ≤ a → a < i → 0 ≤ evn W t a ∧ 0 ≤ odn W t a
def nmT (W : Int → Int → Int) (t : Int) (i : Nat) : Int := sm (fun a => (if 0 < evn W t a then 1 else 0) + (if 0 < odn W t a then 1 else 0)) i
def ttK (W : Int → Int → Int) (k : Int) : Int := if k < 3 then lz W 0 k else lz W 0 0 - lz W (k - 3) 0
theorem vlT_s {W : Int → Int → Int} {t i : Int} (hi : 0 ≤ i) : vlT W t (i + 1) ↔ (vlT W t i ∧ 0 ≤ evn W t i ∧ 0 ≤ odn W t i) := by
  constructor
  · intro h; exact ⟨fun a x y => h a x (by omega), h i hi (by omega)⟩
  · rintro ⟨h, g⟩ a x y
    rcases (by omega : a < i ∨ a = i) with q | q
    · exact h a x q
    · rw [q]; exact g
theorem nmT_bd (W : Int → Int → Int) (t : Int) (i : Nat) : 0 ≤ nmT W t i ∧ nmT W t i ≤ 2 * i := by
  exact sm_bd (B := 2) (by decide) (fun k _ _ => by (try dsimp only); split <;> split <;> omega)
def bsK (W : Int → Int → Int) (k b : Int) : Prop := (b = -1 ∧ ∀ x, 0 ≤ x → x < k → ¬ vlT W (ttK W x) 3) ∨ ((∃ x, 0 ≤ x ∧ x < k ∧ vlT W (ttK W x) 3 ∧ b = nmT W (ttK W x) 3) ∧ ∀ x, 0 ≤ x → x < k → vlT W (ttK W x) 3 → b ≤ nmT W (ttK W x) 3)
theorem bsK_new {W : Int → Int → Int} {k b : Int} (hk : 0 ≤ k) (h : bsK W k b) (hv : vlT W (ttK W k) 3) (hb : b = -1 ∨ nmT W (ttK W k) 3 < b) : bsK W (k + 1) (nmT W (ttK W k) 3) := by
  refine Or.inr ⟨⟨k, hk, by omega, hv, rfl⟩, fun x a c q => ?_⟩
  rcases (by omega : x < k ∨ x = k) with u | u
  · rcases h with ⟨-, h⟩ | ⟨⟨y, -, -, -, e⟩, h⟩
    · exact absurd q (h x a u)
    · have h1 := h x a u q
      have h2 := (nmT_bd W (ttK W y) 3).1
      omega
  · rw [u]; exact Int.le_refl _
theorem bsK_no {W : Int → Int → Int} {k b : Int} (h : bsK W k b) (hv : ¬ vlT W (ttK W k) 3) : bsK W (k + 1) b := by
  have nx : ∀ x, x < k + 1 → vlT W (ttK W x) 3 → x < k := fun x a q => by
    rcases (by omega : x < k ∨ x = k) with u | u
    · exact u
    · rw [u] at q; exact absurd q hv
  rcases h with ⟨e, h⟩ | ⟨⟨y, y1, y2, y3⟩, h⟩
  · exact Or.inl ⟨e, fun x a c q => h x a (nx x c q) q⟩
  · exact Or.inr ⟨⟨y, y1, by omega, y3⟩, fun x a c q => h x a (nx x c q) q⟩
theorem bsK_old {W : Int → Int → Int} {k b : Int} (h : bsK W k b) (hb : b ≠ -1) (hle : b ≤ nmT W (ttK W k) 3) : bsK W (k + 1) b := by
  rcases h with ⟨e, h⟩ | ⟨⟨y, y1, y2, y3⟩, h⟩
  · exact absurd e hb
  · refine Or.inr ⟨⟨y, y1, by omega, y3⟩, fun x a c q => ?_⟩
    rcases (by omega : x < k ∨ x = k) with u | u
    · exact h x a u q
    · rw [u]; exact hle
theorem bsK_un {W : Int → Int → Int} {b c : Int} (h : bsK W 6 b) (g : bsK W 6 c) : b = c := by
  rcases h with ⟨e, h⟩ | ⟨⟨x, x1, x2, x3, x4⟩, h⟩ <;> rcases g with ⟨e', g⟩ | ⟨⟨y, y1, y2, y3, y4⟩, g⟩
  · omega
  · exact absurd y3 (h y y1 y2)
  · exact absurd x3 (g x x1 x2)
  · have := h y y1 y2 y3
    have := g x x1 x2 x3
    omega
theorem lz_ag {W V : Int → Int → Int} (e : ag 3 W V) (a b : Int) : lz W a b = lz V a b := by
  unfold lz
  exact e _ _ (by omega) (by omega) (by omega) (by omega)
theorem bsK_ag {W V : Int → Int → Int} {b : Int} (e : ag 3 W V) (h : bsK W 6 b) : bsK V 6 b := by
  have e1 : ∀ t a, evn V t a = evn W t a := fun t a => by unfold evn; rw [lz_ag e, lz_ag e]
  have e2 : ∀ t a, odn V t a = odn W t a := fun t a => by unfold odn; rw [lz_ag e]
  have e3 : ∀ k, ttK V k = ttK W k := fun k => by unfold ttK; rw [lz_ag e, lz_ag e, lz_ag e]
  have e4 : ∀ t i, vlT V t i ↔ vlT W t i := fun t i => by unfold vlT; simp only [e1, e2]
  have e5 : ∀ t i, nmT V t i = nmT W t i := fun t i => by unfold nmT; simp only [e1, e2]
  unfold bsK
  simp only [e3, e4, e5]
  exact h
def fwS (n : Int) (W : Int → Int → Int) (z : Int) : Prop := (n = 1 ∧ z = 1) ∨ (n = 2 ∧ z = (if 0 < W 0 0 then 1 else 0) + (if 0 < W 0 1 then 1 else 0)) ∨ (n = 3 ∧ bsK W 6 z)
theorem fwS_un {n z z' : Int} {W V : Int → Int → Int} (e : ag n W V) (h : fwS n W z) (g : fwS n V z') : z = z' := by
  rcases h with ⟨a, h⟩ | ⟨a, h⟩ | ⟨a, h⟩ <;> rcases g with ⟨b, g⟩ | ⟨b, g⟩ | ⟨b, g⟩
  · omega
  · omega
  · omega
  · omega
  · rw [h, g, e 0 0 (by omega) (by omega) (by omega) (by omega), e 0 1 (by omega) (by omega) (by omega) (by omega)]
  · omega
  · omega
  · omega
  · subst a; exact bsK_un (bsK_ag e h) g
theorem t_Mo_fewest {σ : eS} {s : Int} (hB : iB1 σ) (ht : tabB σ s) (h3 : σ 1 s ≤ 3) : MtI shB M_Mo_fewest [vr 0, vi s] σ (fun σ' z => σ' = σ ∧ fwS (σ 1 s) (cB σ s) z) := by
  refine Mt.of okM_Mo_fewest (Nat.le_of_ble_eq_true rfl) (fun hk hg => ?_)
  obtain ⟨t1, t2, t3⟩ := ht
  refine ok_aload_n 0 rfl rfl rfl (ok_getR 1 rfl rfl fl_X12_7 rfl rfl (ok_iload_n 2 rfl rfl rfl (ok_iald 3 rfl rfl rfl (by first | omega | (simp [up_if]; omega) | (simp [up_if] at *; omega)) (ok_iconst 4 rfl rfl (by decide) (ok_icmp_ne 5 12 rfl rfl rfl (fun h7 => ?_) (fun h7 => ?_))))))
  · refine ok_aload_n 8 rfl rfl rfl (ok_getR 9 rfl rfl fl_X12_7 rfl rfl (ok_iload_n 10 rfl rfl rfl (ok_iald 11 rfl rfl rfl (by first | omega | (simp [up_if]; omega) | (simp [up_if] at *; omega)) (ok_iconst 12 rfl rfl (by decide) (ok_icmp_ne 13 60 rfl rfl rfl (fun h19 => ?_) (fun h19 => ?_))))))
    · refine ok_iconst 36 rfl rfl (by decide) (ok_ist2 37 rfl rfl rfl (ok_iconst 38 rfl rfl (by decide) (ok_ist3 39 rfl rfl rfl ?_)))
      have e3 : σ 1 s = 3 := by omega
      obtain ⟨W, eW⟩ : ∃ W, W = cB σ s := ⟨_, rfl⟩
      rw [← eW]
      refine lpO2 (fun b k : Int => [some (vr 0), some (vi s), some (vi b), some (vi k), none, none, none, none, none, none, none, none, none]) (fun _ _ => σ) (fun b k => 0 ≤ k ∧ k ≤ 6 ∧ bsK W k b) (fun _ k => (6 - k).toNat) ?_ (-1) 0 ⟨by omega, by omega, Or.inl ⟨rfl, fun x a b => by omega⟩⟩
      rintro b k ⟨k1, k2, k3⟩ ih
      have tail : ∀ x : Int, x = ttK W k → k < 6 → -99999999 ≤ x → x ≤ 99999999 → Ok shB M_Mo_fewest 102 [some (vr 0), some (vi s), some (vi b), some (vi k), none, none, none, none, none, none, none, none, none] [vl x] σ (fun σ' v => ∃ z, v = some (vi z) ∧ σ' = σ ∧ fwS (σ 1 s) W z) := by
        intro x ex k6 x1 x2
        refine ok_lst4 65 rfl rfl rfl (ok_iconst 66 rfl rfl (by decide) (ok_ist6 67 rfl rfl rfl (ok_iconst 68 rfl rfl (by decide) (ok_ist7 69 rfl rfl rfl (ok_iconst 70 rfl rfl (by decide) (ok_ist8 71 rfl rfl rfl ?_))))))
        refine lpO3 (fun c o i : Int => [some (vr 0), some (vi s), some (vi b), some (vi k), some (vl x), none, some (vi c), some (vi o), some (vi i), none, none, none, none]) (fun _ _ _ => σ) (fun c o i => 0 ≤ i ∧ i ≤ 3 ∧ c = nmT W x i.toNat ∧ ((o = 1 ∧ vlT W x i) ∨ (o = 0 ∧ ¬ vlT W x i))) (fun _ _ i => (3 - i).toNat) ?_ 0 1 0 ⟨by omega, by omega, rfl, Or.inl ⟨rfl, fun a p q => by omega⟩⟩
        rintro c o i ⟨i1, i2, i3, ho⟩ ih2
        have cb := nmT_bd W x i.toNat
        rw [← i3] at cb
        have es : nmT W x (i + 1).toNat = nmT W x i.toNat + ((if 0 < evn W x i then 1 else 0) + (if 0 < odn W x i then 1 else 0)) := sm_s _ i1
        have vs := vlT_s (W := W) (t := x) i1
        refine ok_iload 72 rfl rfl rfl (ok_iconst 73 rfl rfl (by decide) (ok_icmp_ge 74 221 rfl rfl rfl (fun h116 => ?_) (fun h116 => ?_)))
        · have ei : i = 3 := by omega
          subst ei
          rw [ex] at i3 ho
          refine ok_iload 133 rfl rfl rfl (ok_if_eq 134 240 rfl rfl rfl (fun h223 => ?_) (fun h223 => ?_))
          · refine ok_inc3 143 rfl rfl rfl (by first | omega | (simp [up_if]; omega) | (simp [up_if] at *; omega)) (ok_goto 144 64 rfl rfl rfl ?_)
            refine ok_fg [some (vr 0), some (vi s), some (vi _), some (vi (k + 1)), none, none, none, none, none, none, none, none, none] ⟨rfl, rfl, rfl, rfl, trivial⟩ (ih _ (k + 1) ⟨by omega, by omega, ?_⟩ (by omega))
            have i3 : c = nmT W (ttK W k) 3 := i3
            first
              | (refine bsK_no k3 ?_
                 rcases ho with u | u
                 · omega
                 · exact u.2)
              | (rw [i3]
                 refine bsK_new k1 k3 ?_ (by omega)
                 rcases ho with u | u
                 · exact u.2
                 · exact absurd u.1 (by omega))
              | exact bsK_old k3 (by omega) (by omega)
          · refine ok_iload_n 135 rfl rfl rfl (ok_iconst 136 rfl rfl (by decide) (ok_icmp_eq 137 237 rfl rfl rfl (fun h228 => ?_) (fun h228 => ?_)))
            · refine ok_iload 141 rfl rfl rfl (ok_ist2 142 rfl rfl rfl (ok_inc3 143 rfl rfl rfl (by first | omega | (simp [up_if]; omega) | (simp [up_if] at *; omega)) (ok_goto 144 64 rfl rfl rfl ?_)))
              refine ok_fg [some (vr 0), some (vi s), some (vi _), some (vi (k + 1)), none, none, none, none, none, none, none, none, none] ⟨rfl, rfl, rfl, rfl, trivial⟩ (ih _ (k + 1) ⟨by omega, by omega, ?_⟩ (by omega))
              have i3 : c = nmT W (ttK W k) 3 := i3
              first
                | (refine bsK_no k3 ?_
                   rcases ho with u | u
                   · omega
                   · exact u.2)
                | (rw [i3]
                   refine bsK_new k1 k3 ?_ (by omega)
                   rcases ho with u | u
                   · exact u.2
                   · exact absurd u.1 (by omega))
                | exact bsK_old k3 (by omega) (by omega)
            · refine ok_iload 138 rfl rfl rfl (ok_iload_n 139 rfl rfl rfl (ok_icmp_ge 140 240 rfl rfl rfl (fun h234 => ?_) (fun h234 => ?_)))
              · refine ok_inc3 143 rfl rfl rfl (by first | omega | (simp [up_if]; omega) | (simp [up_if] at *; omega)) (ok_goto 144 64 rfl rfl rfl ?_)
                refine ok_fg [some (vr 0), some (vi s), some (vi _), some (vi (k + 1)), none, none, none, none, none, none, none, none, none] ⟨rfl, rfl, rfl, rfl, trivial⟩ (ih _ (k + 1) ⟨by omega, by omega, ?_⟩ (by omega))
                have i3 : c = nmT W (ttK W k) 3 := i3
                first
                  | (refine bsK_no k3 ?_
                     rcases ho with u | u
                     · omega
                     · exact u.2)
                  | (rw [i3]
                     refine bsK_new k1 k3 ?_ (by omega)
                     rcases ho with u | u
                     · exact u.2
                     · exact absurd u.1 (by omega))
                  | exact bsK_old k3 (by omega) (by omega)
              · refine ok_iload 141 rfl rfl rfl (ok_ist2 142 rfl rfl rfl (ok_inc3 143 rfl rfl rfl (by first | omega | (simp [up_if]; omega) | (simp [up_if] at *; omega)) (ok_goto 144 64 rfl rfl rfl ?_)))
                refine ok_fg [some (vr 0), some (vi s), some (vi _), some (vi (k + 1)), none, none, none, none, none, none, none, none, none] ⟨rfl, rfl, rfl, rfl, trivial⟩ (ih _ (k + 1) ⟨by omega, by omega, ?_⟩ (by omega))
                have i3 : c = nmT W (ttK W k) 3 := i3
                first
                  | (refine bsK_no k3 ?_
                     rcases ho with u | u
                     · omega
                     · exact u.2)
                  | (rw [i3]
                     refine bsK_new k1 k3 ?_ (by omega)
                     rcases ho with u | u
                     · exact u.2
                     · exact absurd u.1 (by omega))
                  | exact bsK_old k3 (by omega) (by omega)
        · refine ok_aload_n 75 rfl rfl rfl (ok_iload_n 76 rfl rfl rfl (ok_iload 77 rfl rfl rfl (ok_iconst 78 rfl rfl (by decide) (ok_callVL (M' := M_Mo_lies) (as := [_, _, _]) 79 rfl rfl ml_X12_314 (t_Mo_lies hB ⟨t1, t2⟩ e3 ⟨by omega, by omega⟩ ⟨by omega, by omega⟩) rfl rfl (Nat.le_of_ble_eq_true rfl) ⟨Nat.le_of_ble_eq_true rfl, Nat.le_of_ble_eq_true rfl⟩ rfl (Nat.le_of_ble_eq_true rfl) (fun σ' y1 g1 => ?_)))))
          obtain ⟨hs_, g1⟩ := g1
          rw [hs_]; clear hs_ σ'
          refine ok_aload_n 80 rfl rfl rfl (ok_iload_n 81 rfl rfl rfl (ok_iconst 82 rfl rfl (by decide) (ok_iconst 83 rfl rfl (by decide) (ok_callVL (M' := M_Mo_lies) (as := [_, _, _]) 84 rfl rfl ml_X12_314 (t_Mo_lies hB ⟨t1, t2⟩ e3 ⟨by omega, by omega⟩ ⟨by omega, by omega⟩) rfl rfl (Nat.le_of_ble_eq_true rfl) ⟨Nat.le_of_ble_eq_true rfl, Nat.le_of_ble_eq_true rfl⟩ rfl (Nat.le_of_ble_eq_true rfl) (fun σ' y2 g2 => ?_)))))
          obtain ⟨hs_, g2⟩ := g2
          rw [hs_]; clear hs_ σ'
          refine ok_lsub 85 rfl rfl (by first | omega | (simp [up_if]; omega) | (simp [up_if] at *; omega)) (ok_lload 86 rfl rfl rfl (ok_ladd 87 rfl rfl (by first | omega | (simp [up_if]; omega) | (simp [up_if] at *; omega)) (ok_lst9 88 rfl rfl rfl (ok_aload_n 89 rfl rfl rfl (ok_iload_n 90 rfl rfl rfl (ok_iconst 91 rfl rfl (by decide) (ok_iload 92 rfl rfl rfl (ok_callVL (M' := M_Mo_lies) (as := [_, _, _]) 93 rfl rfl ml_X12_314 (t_Mo_lies hB ⟨t1, t2⟩ e3 ⟨by omega, by omega⟩ ⟨by omega, by omega⟩) rfl rfl (Nat.le_of_ble_eq_true rfl) ⟨Nat.le_of_ble_eq_true rfl, Nat.le_of_ble_eq_true rfl⟩ rfl (Nat.le_of_ble_eq_true rfl) (fun σ' y3 g3 => ?_)))))))))
          obtain ⟨hs_, g3⟩ := g3
          rw [hs_]; clear hs_ σ'
          rw [← eW] at g1 g2 g3
          have eE : evn W x i = y1 - y2 + x := by unfold evn; rw [g1.1, g2.1]
          have eO : odn W x i = y3 - x := by unfold odn; rw [g3.1]
          refine ok_lload 94 rfl rfl rfl (ok_lsub 95 rfl rfl (by first | omega | (simp [up_if]; omega) | (simp [up_if] at *; omega)) (ok_lst11 96 rfl rfl rfl (ok_iload 97 rfl rfl rfl (ok_if_eq 98 176 rfl rfl rfl (fun h155 => ?_) (fun h155 => ?_)))))
          · refine ok_iconst 109 rfl rfl (by decide) (ok_ist7 110 rfl rfl rfl (ok_iload 111 rfl rfl rfl (ok_lload 112 rfl rfl rfl (ok_lconst (w := 0) 113 rfl rfl rfl (by decide) (ok_lcmp_le 114 115 192 rfl rfl rfl rfl rfl (fun h184 => ?_) (fun h184 => ?_))))))
            · refine ok_iconst 118 rfl rfl (by decide) (ok_callSI (M' := M_Mo_one) (as := [_]) 119 rfl rfl ml_X12_192 (s_Mo_one) ⟨Nat.le_of_ble_eq_true rfl, Nat.le_of_ble_eq_true rfl⟩ rfl (Nat.le_of_ble_eq_true rfl) (fun σ' z1 a1 => ?_))
              obtain ⟨hs_, a1⟩ := a1
              rw [hs_]; clear hs_ σ'
              have q1 : z1 = if 0 < evn W x i then 1 else 0 := by rw [a1]; first | rw [if_pos rfl, if_neg (by omega)] | rw [if_neg (by decide), if_pos (by omega)]
              have q1b : 0 ≤ z1 ∧ z1 ≤ 1 := by rw [a1]; split <;> omega
              refine ok_lload 120 rfl rfl rfl (ok_lconst (w := 0) 121 rfl rfl rfl (by decide) (ok_lcmp_le 122 123 207 rfl rfl rfl rfl rfl (fun h199 => ?_) (fun h199 => ?_)))
              · refine ok_iconst 126 rfl rfl (by decide) (ok_callSI (M' := M_Mo_one) (as := [_]) 127 rfl rfl ml_X12_192 (s_Mo_one) ⟨Nat.le_of_ble_eq_true rfl, Nat.le_of_ble_eq_true rfl⟩ rfl (Nat.le_of_ble_eq_true rfl) (fun σ' z2 a2 => ?_))
                obtain ⟨hs_, a2⟩ := a2
                rw [hs_]; clear hs_ σ'
                have q2 : z2 = if 0 < odn W x i then 1 else 0 := by rw [a2]; first | rw [if_pos rfl, if_neg (by omega)] | rw [if_neg (by decide), if_pos (by omega)]
                have q2b : 0 ≤ z2 ∧ z2 ≤ 1 := by rw [a2]; split <;> omega
                refine ok_iadd 128 rfl rfl (by first | omega | (simp [up_if]; omega) | (simp [up_if] at *; omega)) (ok_iadd 129 rfl rfl (by first | omega | (simp [up_if]; omega) | (simp [up_if] at *; omega)) (ok_ist6 130 rfl rfl rfl (ok_inc8 131 rfl rfl rfl (by first | omega | (simp [up_if]; omega) | (simp [up_if] at *; omega)) (ok_goto 132 113 rfl rfl rfl ?_))))
                refine ok_fg [some (vr 0), some (vi s), some (vi b), some (vi k), some (vl x), none, some (vi _), some (vi _), some (vi (i + 1)), none, none, none, none] ⟨rfl, rfl, rfl, rfl, rfl, rfl, rfl, rfl, trivial⟩ (ih2 _ _ (i + 1) ⟨by omega, by omega, by rw [es, ← i3, q1, q2], ?_⟩ (by omega))
                first
                  | exact Or.inl ⟨rfl, vs.mpr ⟨by rcases ho with u | u; exact u.2; exact absurd u.1 h155, by omega, by omega⟩⟩
                  | exact Or.inr ⟨rfl, fun q => by obtain ⟨w1, w2, w3⟩ := vs.mp q; first | omega | (rcases ho with u | u; omega; exact u.2 w1)⟩
              · refine ok_iconst 124 rfl rfl (by decide) (ok_goto 125 208 rfl rfl rfl (ok_callSI (M' := M_Mo_one) (as := [_]) 127 rfl rfl ml_X12_192 (s_Mo_one) ⟨Nat.le_of_ble_eq_true rfl, Nat.le_of_ble_eq_true rfl⟩ rfl (Nat.le_of_ble_eq_true rfl) (fun σ' z2 a2 => ?_)))
                obtain ⟨hs_, a2⟩ := a2
                rw [hs_]; clear hs_ σ'
                have q2 : z2 = if 0 < odn W x i then 1 else 0 := by rw [a2]; first | rw [if_pos rfl, if_neg (by omega)] | rw [if_neg (by decide), if_pos (by omega)]
                have q2b : 0 ≤ z2 ∧ z2 ≤ 1 := by rw [a2]; split <;> omega
                refine ok_iadd 128 rfl rfl (by first | omega | (simp [up_if]; omega) | (simp [up_if] at *; omega)) (ok_iadd 129 rfl rfl (by first | omega | (simp [up_if]; omega) | (simp [up_if] at *; omega)) (ok_ist6 130 rfl rfl rfl (ok_inc8 131 rfl rfl rfl (by first | omega | (simp [up_if]; omega) | (simp [up_if] at *; omega)) (ok_goto 132 113 rfl rfl rfl ?_))))
                refine ok_fg [some (vr 0), some (vi s), some (vi b), some (vi k), some (vl x), none, some (vi _), some (vi _), some (vi (i + 1)), none, none, none, none] ⟨rfl, rfl, rfl, rfl, rfl, rfl, rfl, rfl, trivial⟩ (ih2 _ _ (i + 1) ⟨by omega, by omega, by rw [es, ← i3, q1, q2], ?_⟩ (by omega))
                first
                  | exact Or.inl ⟨rfl, vs.mpr ⟨by rcases ho with u | u; exact u.2; exact absurd u.1 h155, by omega, by omega⟩⟩
                  | exact Or.inr ⟨rfl, fun q => by obtain ⟨w1, w2, w3⟩ := vs.mp q; first | omega | (rcases ho with u | u; omega; exact u.2 w1)⟩
            · refine ok_iconst 116 rfl rfl (by decide) (ok_goto 117 193 rfl rfl rfl (ok_callSI (M' := M_Mo_one) (as := [_]) 119 rfl rfl ml_X12_192 (s_Mo_one) ⟨Nat.le_of_ble_eq_true rfl, Nat.le_of_ble_eq_true rfl⟩ rfl (Nat.le_of_ble_eq_true rfl) (fun σ' z1 a1 => ?_)))
              obtain ⟨hs_, a1⟩ := a1
              rw [hs_]; clear hs_ σ'
              have q1 : z1 = if 0 < evn W x i then 1 else 0 := by rw [a1]; first | rw [if_pos rfl, if_neg (by omega)] | rw [if_neg (by decide), if_pos (by omega)]
              have q1b : 0 ≤ z1 ∧ z1 ≤ 1 := by rw [a1]; split <;> omega
              refine ok_lload 120 rfl rfl rfl (ok_lconst (w := 0) 121 rfl rfl rfl (by decide) (ok_lcmp_le 122 123 207 rfl rfl rfl rfl rfl (fun h199 => ?_) (fun h199 => ?_)))
              · refine ok_iconst 126 rfl rfl (by decide) (ok_callSI (M' := M_Mo_one) (as := [_]) 127 rfl rfl ml_X12_192 (s_Mo_one) ⟨Nat.le_of_ble_eq_true rfl, Nat.le_of_ble_eq_true rfl⟩ rfl (Nat.le_of_ble_eq_true rfl) (fun σ' z2 a2 => ?_))
                obtain ⟨hs_, a2⟩ := a2
                rw [hs_]; clear hs_ σ'
                have q2 : z2 = if 0 < odn W x i then 1 else 0 := by rw [a2]; first | rw [if_pos rfl, if_neg (by omega)] | rw [if_neg (by decide), if_pos (by omega)]
                have q2b : 0 ≤ z2 ∧ z2 ≤ 1 := by rw [a2]; split <;> omega
                refine ok_iadd 128 rfl rfl (by first | omega | (simp [up_if]; omega) | (simp [up_if] at *; omega)) (ok_iadd 129 rfl rfl (by first | omega | (simp [up_if]; omega) | (simp [up_if] at *; omega)) (ok_ist6 130 rfl rfl rfl (ok_inc8 131 rfl rfl rfl (by first | omega | (simp [up_if]; omega) | (simp [up_if] at *; omega)) (ok_goto 132 113 rfl rfl rfl ?_))))
                refine ok_fg [some (vr 0), some (vi s), some (vi b), some (vi k), some (vl x), none, some (vi _), some (vi _), some (vi (i + 1)), none, none, none, none] ⟨rfl, rfl, rfl, rfl, rfl, rfl, rfl, rfl, trivial⟩ (ih2 _ _ (i + 1) ⟨by omega, by omega, by rw [es, ← i3, q1, q2], ?_⟩ (by omega))
                first
                  | exact Or.inl ⟨rfl, vs.mpr ⟨by rcases ho with u | u; exact u.2; exact absurd u.1 h155, by omega, by omega⟩⟩
                  | exact Or.inr ⟨rfl, fun q => by obtain ⟨w1, w2, w3⟩ := vs.mp q; first | omega | (rcases ho with u | u; omega; exact u.2 w1)⟩
              · refine ok_iconst 124 rfl rfl (by decide) (ok_goto 125 208 rfl rfl rfl (ok_callSI (M' := M_Mo_one) (as := [_]) 127 rfl rfl ml_X12_192 (s_Mo_one) ⟨Nat.le_of_ble_eq_true rfl, Nat.le_of_ble_eq_true rfl⟩ rfl (Nat.le_of_ble_eq_true rfl) (fun σ' z2 a2 => ?_)))
                obtain ⟨hs_, a2⟩ := a2
                rw [hs_]; clear hs_ σ'
                have q2 : z2 = if 0 < odn W x i then 1 else 0 := by rw [a2]; first | rw [if_pos rfl, if_neg (by omega)] | rw [if_neg (by decide), if_pos (by omega)]
                have q2b : 0 ≤ z2 ∧ z2 ≤ 1 := by rw [a2]; split <;> omega
                refine ok_iadd 128 rfl rfl (by first | omega | (simp [up_if]; omega) | (simp [up_if] at *; omega)) (ok_iadd 129 rfl rfl (by first | omega | (simp [up_if]; omega) | (simp [up_if] at *; omega)) (ok_ist6 130 rfl rfl rfl (ok_inc8 131 rfl rfl rfl (by first | omega | (simp [up_if]; omega) | (simp [up_if] at *; omega)) (ok_goto 132 113 rfl rfl rfl ?_))))
                refine ok_fg [some (vr 0), some (vi s), some (vi b), some (vi k), some (vl x), none, some (vi _), some (vi _), some (vi (i + 1)), none, none, none, none] ⟨rfl, rfl, rfl, rfl, rfl, rfl, rfl, rfl, trivial⟩ (ih2 _ _ (i + 1) ⟨by omega, by omega, by rw [es, ← i3, q1, q2], ?_⟩ (by omega))
                first
                  | exact Or.inl ⟨rfl, vs.mpr ⟨by rcases ho with u | u; exact u.2; exact absurd u.1 h155, by omega, by omega⟩⟩
                  | exact Or.inr ⟨rfl, fun q => by obtain ⟨w1, w2, w3⟩ := vs.mp q; first | omega | (rcases ho with u | u; omega; exact u.2 w1)⟩
          · refine ok_lload 99 rfl rfl rfl (ok_lconst (w := 0) 100 rfl rfl rfl (by decide) (ok_lcmp_lt 101 102 176 rfl rfl rfl rfl rfl (fun h161 => ?_) (fun h161 => ?_)))
            · refine ok_iconst 109 rfl rfl (by decide) (ok_ist7 110 rfl rfl rfl (ok_iload 111 rfl rfl rfl (ok_lload 112 rfl rfl rfl (ok_lconst (w := 0) 113 rfl rfl rfl (by decide) (ok_lcmp_le 114 115 192 rfl rfl rfl rfl rfl (fun h184 => ?_) (fun h184 => ?_))))))
              · refine ok_iconst 118 rfl rfl (by decide) (ok_callSI (M' := M_Mo_one) (as := [_]) 119 rfl rfl ml_X12_192 (s_Mo_one) ⟨Nat.le_of_ble_eq_true rfl, Nat.le_of_ble_eq_true rfl⟩ rfl (Nat.le_of_ble_eq_true rfl) (fun σ' z1 a1 => ?_))
                obtain ⟨hs_, a1⟩ := a1
                rw [hs_]; clear hs_ σ'
                have q1 : z1 = if 0 < evn W x i then 1 else 0 := by rw [a1]; first | rw [if_pos rfl, if_neg (by omega)] | rw [if_neg (by decide), if_pos (by omega)]
                have q1b : 0 ≤ z1 ∧ z1 ≤ 1 := by rw [a1]; split <;> omega
                refine ok_lload 120 rfl rfl rfl (ok_lconst (w := 0) 121 rfl rfl rfl (by decide) (ok_lcmp_le 122 123 207 rfl rfl rfl rfl rfl (fun h199 => ?_) (fun h199 => ?_)))
                · refine ok_iconst 126 rfl rfl (by decide) (ok_callSI (M' := M_Mo_one) (as := [_]) 127 rfl rfl ml_X12_192 (s_Mo_one) ⟨Nat.le_of_ble_eq_true rfl, Nat.le_of_ble_eq_true rfl⟩ rfl (Nat.le_of_ble_eq_true rfl) (fun σ' z2 a2 => ?_))
                  obtain ⟨hs_, a2⟩ := a2
                  rw [hs_]; clear hs_ σ'
                  have q2 : z2 = if 0 < odn W x i then 1 else 0 := by rw [a2]; first | rw [if_pos rfl, if_neg (by omega)] | rw [if_neg (by decide), if_pos (by omega)]
                  have q2b : 0 ≤ z2 ∧ z2 ≤ 1 := by rw [a2]; split <;> omega
                  refine ok_iadd 128 rfl rfl (by first | omega | (simp [up_if]; omega) | (simp [up_if] at *; omega)) (ok_iadd 129 rfl rfl (by first | omega | (simp [up_if]; omega) | (simp [up_if] at *; omega)) (ok_ist6 130 rfl rfl rfl (ok_inc8 131 rfl rfl rfl (by first | omega | (simp [up_if]; omega) | (simp [up_if] at *; omega)) (ok_goto 132 113 rfl rfl rfl ?_))))
                  refine ok_fg [some (vr 0), some (vi s), some (vi b), some (vi k), some (vl x), none, some (vi _), some (vi _), some (vi (i + 1)), none, none, none, none] ⟨rfl, rfl, rfl, rfl, rfl, rfl, rfl, rfl, trivial⟩ (ih2 _ _ (i + 1) ⟨by omega, by omega, by rw [es, ← i3, q1, q2], ?_⟩ (by omega))
                  first
                    | exact Or.inl ⟨rfl, vs.mpr ⟨by rcases ho with u | u; exact u.2; exact absurd u.1 h155, by omega, by omega⟩⟩
                    | exact Or.inr ⟨rfl, fun q => by obtain ⟨w1, w2, w3⟩ := vs.mp q; first | omega | (rcases ho with u | u; omega; exact u.2 w1)⟩
                · refine ok_iconst 124 rfl rfl (by decide) (ok_goto 125 208 rfl rfl rfl (ok_callSI (M' := M_Mo_one) (as := [_]) 127 rfl rfl ml_X12_192 (s_Mo_one) ⟨Nat.le_of_ble_eq_true rfl, Nat.le_of_ble_eq_true rfl⟩ rfl (Nat.le_of_ble_eq_true rfl) (fun σ' z2 a2 => ?_)))
                  obtain ⟨hs_, a2⟩ := a2
                  rw [hs_]; clear hs_ σ'
                  have q2 : z2 = if 0 < odn W x i then 1 else 0 := by rw [a2]; first | rw [if_pos rfl, if_neg (by omega)] | rw [if_neg (by decide), if_pos (by omega)]
                  have q2b : 0 ≤ z2 ∧ z2 ≤ 1 := by rw [a2]; split <;> omega
                  refine ok_iadd 128 rfl rfl (by first | omega | (simp [up_if]; omega) | (simp [up_if] at *; omega)) (ok_iadd 129 rfl rfl (by first | omega | (simp [up_if]; omega) | (simp [up_if] at *; omega)) (ok_ist6 130 rfl rfl rfl (ok_inc8 131 rfl rfl rfl (by first | omega | (simp [up_if]; omega) | (simp [up_if] at *; omega)) (ok_goto 132 113 rfl rfl rfl ?_))))
                  refine ok_fg [some (vr 0), some (vi s), some (vi b), some (vi k), some (vl x), none, some (vi _), some (vi _), some (vi (i + 1)), none, none, none, none] ⟨rfl, rfl, rfl, rfl, rfl, rfl, rfl, rfl, trivial⟩ (ih2 _ _ (i + 1) ⟨by omega, by omega, by rw [es, ← i3, q1, q2], ?_⟩ (by omega))
                  first
                    | exact Or.inl ⟨rfl, vs.mpr ⟨by rcases ho with u | u; exact u.2; exact absurd u.1 h155, by omega, by omega⟩⟩
                    | exact Or.inr ⟨rfl, fun q => by obtain ⟨w1, w2, w3⟩ := vs.mp q; first | omega | (rcases ho with u | u; omega; exact u.2 w1)⟩
              · refine ok_iconst 116 rfl rfl (by decide) (ok_goto 117 193 rfl rfl rfl (ok_callSI (M' := M_Mo_one) (as := [_]) 119 rfl rfl ml_X12_192 (s_Mo_one) ⟨Nat.le_of_ble_eq_true rfl, Nat.le_of_ble_eq_true rfl⟩ rfl (Nat.le_of_ble_eq_true rfl) (fun σ' z1 a1 => ?_)))
                obtain ⟨hs_, a1⟩ := a1
                rw [hs_]; clear hs_ σ'
                have q1 : z1 = if 0 < evn W x i then 1 else 0 := by rw [a1]; first | rw [if_pos rfl, if_neg (by omega)] | rw [if_neg (by decide), if_pos (by omega)]
                have q1b : 0 ≤ z1 ∧ z1 ≤ 1 := by rw [a1]; split <;> omega
                refine ok_lload 120 rfl rfl rfl (ok_lconst (w := 0) 121 rfl rfl rfl (by decide) (ok_lcmp_le 122 123 207 rfl rfl rfl rfl rfl (fun h199 => ?_) (fun h199 => ?_)))
                · refine ok_iconst 126 rfl rfl (by decide) (ok_callSI (M' := M_Mo_one) (as := [_]) 127 rfl rfl ml_X12_192 (s_Mo_one) ⟨Nat.le_of_ble_eq_true rfl, Nat.le_of_ble_eq_true rfl⟩ rfl (Nat.le_of_ble_eq_true rfl) (fun σ' z2 a2 => ?_))
                  obtain ⟨hs_, a2⟩ := a2
                  rw [hs_]; clear hs_ σ'
                  have q2 : z2 = if 0 < odn W x i then 1 else 0 := by rw [a2]; first | rw [if_pos rfl, if_neg (by omega)] | rw [if_neg (by decide), if_pos (by omega)]
                  have q2b : 0 ≤ z2 ∧ z2 ≤ 1 := by rw [a2]; split <;> omega
                  refine ok_iadd 128 rfl rfl (by first | omega | (simp [up_if]; omega) | (simp [up_if] at *; omega)) (ok_iadd 129 rfl rfl (by first | omega | (simp [up_if]; omega) | (simp [up_if] at *; omega)) (ok_ist6 130 rfl rfl rfl (ok_inc8 131 rfl rfl rfl (by first | omega | (simp [up_if]; omega) | (simp [up_if] at *; omega)) (ok_goto 132 113 rfl rfl rfl ?_))))
                  refine ok_fg [some (vr 0), some (vi s), some (vi b), some (vi k), some (vl x), none, some (vi _), some (vi _), some (vi (i + 1)), none, none, none, none] ⟨rfl, rfl, rfl, rfl, rfl, rfl, rfl, rfl, trivial⟩ (ih2 _ _ (i + 1) ⟨by omega, by omega, by rw [es, ← i3, q1, q2], ?_⟩ (by omega))
                  first
                    | exact Or.inl ⟨rfl, vs.mpr ⟨by rcases ho with u | u; exact u.2; exact absurd u.1 h155, by omega, by omega⟩⟩
                    | exact Or.inr ⟨rfl, fun q => by obtain ⟨w1, w2, w3⟩ := vs.mp q; first | omega | (rcases ho with u | u; omega; exact u.2 w1)⟩
                · refine ok_iconst 124 rfl rfl (by decide) (ok_goto 125 208 rfl rfl rfl (ok_callSI (M' := M_Mo_one) (as := [_]) 127 rfl rfl ml_X12_192 (s_Mo_one) ⟨Nat.le_of_ble_eq_true rfl, Nat.le_of_ble_eq_true rfl⟩ rfl (Nat.le_of_ble_eq_true rfl) (fun σ' z2 a2 => ?_)))
                  obtain ⟨hs_, a2⟩ := a2
                  rw [hs_]; clear hs_ σ'
                  have q2 : z2 = if 0 < odn W x i then 1 else 0 := by rw [a2]; first | rw [if_pos rfl, if_neg (by omega)] | rw [if_neg (by decide), if_pos (by omega)]
                  have q2b : 0 ≤ z2 ∧ z2 ≤ 1 := by rw [a2]; split <;> omega
                  refine ok_iadd 128 rfl rfl (by first | omega | (simp [up_if]; omega) | (simp [up_if] at *; omega)) (ok_iadd 129 rfl rfl (by first | omega | (simp [up_if]; omega) | (simp [up_if] at *; omega)) (ok_ist6 130 rfl rfl rfl (ok_inc8 131 rfl rfl rfl (by first | omega | (simp [up_if]; omega) | (simp [up_if] at *; omega)) (ok_goto 132 113 rfl rfl rfl ?_))))
                  refine ok_fg [some (vr 0), some (vi s), some (vi b), some (vi k), some (vl x), none, some (vi _), some (vi _), some (vi (i + 1)), none, none, none, none] ⟨rfl, rfl, rfl, rfl, rfl, rfl, rfl, rfl, trivial⟩ (ih2 _ _ (i + 1) ⟨by omega, by omega, by rw [es, ← i3, q1, q2], ?_⟩ (by omega))
                  first
                    | exact Or.inl ⟨rfl, vs.mpr ⟨by rcases ho with u | u; exact u.2; exact absurd u.1 h155, by omega, by omega⟩⟩
                    | exact Or.inr ⟨rfl, fun q => by obtain ⟨w1, w2, w3⟩ := vs.mp q; first | omega | (rcases ho with u | u; omega; exact u.2 w1)⟩
            · refine ok_lload 103 rfl rfl rfl (ok_lconst (w := 0) 104 rfl rfl rfl (by decide) (ok_lcmp_lt 105 106 176 rfl rfl rfl rfl rfl (fun h168 => ?_) (fun h168 => ?_)))
              · refine ok_iconst 109 rfl rfl (by decide) (ok_ist7 110 rfl rfl rfl (ok_iload 111 rfl rfl rfl (ok_lload 112 rfl rfl rfl (ok_lconst (w := 0) 113 rfl rfl rfl (by decide) (ok_lcmp_le 114 115 192 rfl rfl rfl rfl rfl (fun h184 => ?_) (fun h184 => ?_))))))
                · refine ok_iconst 118 rfl rfl (by decide) (ok_callSI (M' := M_Mo_one) (as := [_]) 119 rfl rfl ml_X12_192 (s_Mo_one) ⟨Nat.le_of_ble_eq_true rfl, Nat.le_of_ble_eq_true rfl⟩ rfl (Nat.le_of_ble_eq_true rfl) (fun σ' z1 a1 => ?_))
                  obtain ⟨hs_, a1⟩ := a1
                  rw [hs_]; clear hs_ σ'
                  have q1 : z1 = if 0 < evn W x i then 1 else 0 := by rw [a1]; first | rw [if_pos rfl, if_neg (by omega)] | rw [if_neg (by decide), if_pos (by omega)]
                  have q1b : 0 ≤ z1 ∧ z1 ≤ 1 := by rw [a1]; split <;> omega
                  refine ok_lload 120 rfl rfl rfl (ok_lconst (w := 0) 121 rfl rfl rfl (by decide) (ok_lcmp_le 122 123 207 rfl rfl rfl rfl rfl (fun h199 => ?_) (fun h199 => ?_)))
                  · refine ok_iconst 126 rfl rfl (by decide) (ok_callSI (M' := M_Mo_one) (as := [_]) 127 rfl rfl ml_X12_192 (s_Mo_one) ⟨Nat.le_of_ble_eq_true rfl, Nat.le_of_ble_eq_true rfl⟩ rfl (Nat.le_of_ble_eq_true rfl) (fun σ' z2 a2 => ?_))
                    obtain ⟨hs_, a2⟩ := a2
                    rw [hs_]; clear hs_ σ'
                    have q2 : z2 = if 0 < odn W x i then 1 else 0 := by rw [a2]; first | rw [if_pos rfl, if_neg (by omega)] | rw [if_neg (by decide), if_pos (by omega)]
                    have q2b : 0 ≤ z2 ∧ z2 ≤ 1 := by rw [a2]; split <;> omega
                    refine ok_iadd 128 rfl rfl (by first | omega | (simp [up_if]; omega) | (simp [up_if] at *; omega)) (ok_iadd 129 rfl rfl (by first | omega | (simp [up_if]; omega) | (simp [up_if] at *; omega)) (ok_ist6 130 rfl rfl rfl (ok_inc8 131 rfl rfl rfl (by first | omega | (simp [up_if]; omega) | (simp [up_if] at *; omega)) (ok_goto 132 113 rfl rfl rfl ?_))))
                    refine ok_fg [some (vr 0), some (vi s), some (vi b), some (vi k), some (vl x), none, some (vi _), some (vi _), some (vi (i + 1)), none, none, none, none] ⟨rfl, rfl, rfl, rfl, rfl, rfl, rfl, rfl, trivial⟩ (ih2 _ _ (i + 1) ⟨by omega, by omega, by rw [es, ← i3, q1, q2], ?_⟩ (by omega))
                    first
                      | exact Or.inl ⟨rfl, vs.mpr ⟨by rcases ho with u | u; exact u.2; exact absurd u.1 h155, by omega, by omega⟩⟩
                      | exact Or.inr ⟨rfl, fun q => by obtain ⟨w1, w2, w3⟩ := vs.mp q; first | omega | (rcases ho with u | u; omega; exact u.2 w1)⟩
                  · refine ok_iconst 124 rfl rfl (by decide) (ok_goto 125 208 rfl rfl rfl (ok_callSI (M' := M_Mo_one) (as := [_]) 127 rfl rfl ml_X12_192 (s_Mo_one) ⟨Nat.le_of_ble_eq_true rfl, Nat.le_of_ble_eq_true rfl⟩ rfl (Nat.le_of_ble_eq_true rfl) (fun σ' z2 a2 => ?_)))
                    obtain ⟨hs_, a2⟩ := a2
                    rw [hs_]; clear hs_ σ'
                    have q2 : z2 = if 0 < odn W x i then 1 else 0 := by rw [a2]; first | rw [if_pos rfl, if_neg (by omega)] | rw [if_neg (by decide), if_pos (by omega)]
                    have q2b : 0 ≤ z2 ∧ z2 ≤ 1 := by rw [a2]; split <;> omega
                    refine ok_iadd 128 rfl rfl (by first | omega | (simp [up_if]; omega) | (simp [up_if] at *; omega)) (ok_iadd 129 rfl rfl (by first | omega | (simp [up_if]; omega) | (simp [up_if] at *; omega)) (ok_ist6 130 rfl rfl rfl (ok_inc8 131 rfl rfl rfl (by first | omega | (simp [up_if]; omega) | (simp [up_if] at *; omega)) (ok_goto 132 113 rfl rfl rfl ?_))))
                    refine ok_fg [some (vr 0), some (vi s), some (vi b), some (vi k), some (vl x), none, some (vi _), some (vi _), some (vi (i + 1)), none, none, none, none] ⟨rfl, rfl, rfl, rfl, rfl, rfl, rfl, rfl, trivial⟩ (ih2 _ _ (i + 1) ⟨by omega, by omega, by rw [es, ← i3, q1, q2], ?_⟩ (by omega))
                    first
                      | exact Or.inl ⟨rfl, vs.mpr ⟨by rcases ho with u | u; exact u.2; exact absurd u.1 h155, by omega, by omega⟩⟩
                      | exact Or.inr ⟨rfl, fun q => by obtain ⟨w1, w2, w3⟩ := vs.mp q; first | omega | (rcases ho with u | u; omega; exact u.2 w1)⟩
                · refine ok_iconst 116 rfl rfl (by decide) (ok_goto 117 193 rfl rfl rfl (ok_callSI (M' := M_Mo_one) (as := [_]) 119 rfl rfl ml_X12_192 (s_Mo_one) ⟨Nat.le_of_ble_eq_true rfl, Nat.le_of_ble_eq_true rfl⟩ rfl (Nat.le_of_ble_eq_true rfl) (fun σ' z1 a1 => ?_)))
                  obtain ⟨hs_, a1⟩ := a1
                  rw [hs_]; clear hs_ σ'
                  have q1 : z1 = if 0 < evn W x i then 1 else 0 := by rw [a1]; first | rw [if_pos rfl, if_neg (by omega)] | rw [if_neg (by decide), if_pos (by omega)]
                  have q1b : 0 ≤ z1 ∧ z1 ≤ 1 := by rw [a1]; split <;> omega
                  refine ok_lload 120 rfl rfl rfl (ok_lconst (w := 0) 121 rfl rfl rfl (by decide) (ok_lcmp_le 122 123 207 rfl rfl rfl rfl rfl (fun h199 => ?_) (fun h199 => ?_)))
                  · refine ok_iconst 126 rfl rfl (by decide) (ok_callSI (M' := M_Mo_one) (as := [_]) 127 rfl rfl ml_X12_192 (s_Mo_one) ⟨Nat.le_of_ble_eq_true rfl, Nat.le_of_ble_eq_true rfl⟩ rfl (Nat.le_of_ble_eq_true rfl) (fun σ' z2 a2 => ?_))
                    obtain ⟨hs_, a2⟩ := a2
                    rw [hs_]; clear hs_ σ'
                    have q2 : z2 = if 0 < odn W x i then 1 else 0 := by rw [a2]; first | rw [if_pos rfl, if_neg (by omega)] | rw [if_neg (by decide), if_pos (by omega)]
                    have q2b : 0 ≤ z2 ∧ z2 ≤ 1 := by rw [a2]; split <;> omega
                    refine ok_iadd 128 rfl rfl (by first | omega | (simp [up_if]; omega) | (simp [up_if] at *; omega)) (ok_iadd 129 rfl rfl (by first | omega | (simp [up_if]; omega) | (simp [up_if] at *; omega)) (ok_ist6 130 rfl rfl rfl (ok_inc8 131 rfl rfl rfl (by first | omega | (simp [up_if]; omega) | (simp [up_if] at *; omega)) (ok_goto 132 113 rfl rfl rfl ?_))))
                    refine ok_fg [some (vr 0), some (vi s), some (vi b), some (vi k), some (vl x), none, some (vi _), some (vi _), some (vi (i + 1)), none, none, none, none] ⟨rfl, rfl, rfl, rfl, rfl, rfl, rfl, rfl, trivial⟩ (ih2 _ _ (i + 1) ⟨by omega, by omega, by rw [es, ← i3, q1, q2], ?_⟩ (by omega))
                    first
                      | exact Or.inl ⟨rfl, vs.mpr ⟨by rcases ho with u | u; exact u.2; exact absurd u.1 h155, by omega, by omega⟩⟩
                      | exact Or.inr ⟨rfl, fun q => by obtain ⟨w1, w2, w3⟩ := vs.mp q; first | omega | (rcases ho with u | u; omega; exact u.2 w1)⟩
                  · refine ok_iconst 124 rfl rfl (by decide) (ok_goto 125 208 rfl rfl rfl (ok_callSI (M' := M_Mo_one) (as := [_]) 127 rfl rfl ml_X12_192 (s_Mo_one) ⟨Nat.le_of_ble_eq_true rfl, Nat.le_of_ble_eq_true rfl⟩ rfl (Nat.le_of_ble_eq_true rfl) (fun σ' z2 a2 => ?_)))
                    obtain ⟨hs_, a2⟩ := a2
                    rw [hs_]; clear hs_ σ'
                    have q2 : z2 = if 0 < odn W x i then 1 else 0 := by rw [a2]; first | rw [if_pos rfl, if_neg (by omega)] | rw [if_neg (by decide), if_pos (by omega)]
                    have q2b : 0 ≤ z2 ∧ z2 ≤ 1 := by rw [a2]; split <;> omega
                    refine ok_iadd 128 rfl rfl (by first | omega | (simp [up_if]; omega) | (simp [up_if] at *; omega)) (ok_iadd 129 rfl rfl (by first | omega | (simp [up_if]; omega) | (simp [up_if] at *; omega)) (ok_ist6 130 rfl rfl rfl (ok_inc8 131 rfl rfl rfl (by first | omega | (simp [up_if]; omega) | (simp [up_if] at *; omega)) (ok_goto 132 113 rfl rfl rfl ?_))))
                    refine ok_fg [some (vr 0), some (vi s), some (vi b), some (vi k), some (vl x), none, some (vi _), some (vi _), some (vi (i + 1)), none, none, none, none] ⟨rfl, rfl, rfl, rfl, rfl, rfl, rfl, rfl, trivial⟩ (ih2 _ _ (i + 1) ⟨by omega, by omega, by rw [es, ← i3, q1, q2], ?_⟩ (by omega))
                    first
                      | exact Or.inl ⟨rfl, vs.mpr ⟨by rcases ho with u | u; exact u.2; exact absurd u.1 h155, by omega, by omega⟩⟩
                      | exact Or.inr ⟨rfl, fun q => by obtain ⟨w1, w2, w3⟩ := vs.mp q; first | omega | (rcases ho with u | u; omega; exact u.2 w1)⟩
              · refine ok_iconst 107 rfl rfl (by decide) (ok_goto 108 177 rfl rfl rfl (ok_ist7 110 rfl rfl rfl (ok_iload 111 rfl rfl rfl (ok_lload 112 rfl rfl rfl (ok_lconst (w := 0) 113 rfl rfl rfl (by decide) (ok_lcmp_le 114 115 192 rfl rfl rfl rfl rfl (fun h184 => ?_) (fun h184 => ?_)))))))
                · refine ok_iconst 118 rfl rfl (by decide) (ok_callSI (M' := M_Mo_one) (as := [_]) 119 rfl rfl ml_X12_192 (s_Mo_one) ⟨Nat.le_of_ble_eq_true rfl, Nat.le_of_ble_eq_true rfl⟩ rfl (Nat.le_of_ble_eq_true rfl) (fun σ' z1 a1 => ?_))
                  obtain ⟨hs_, a1⟩ := a1
                  rw [hs_]; clear hs_ σ'
                  have q1 : z1 = if 0 < evn W x i then 1 else 0 := by rw [a1]; first | rw [if_pos rfl, if_neg (by omega)] | rw [if_neg (by decide), if_pos (by omega)]
                  have q1b : 0 ≤ z1 ∧ z1 ≤ 1 := by rw [a1]; split <;> omega
                  refine ok_lload 120 rfl rfl rfl (ok_lconst (w := 0) 121 rfl rfl rfl (by decide) (ok_lcmp_le 122 123 207 rfl rfl rfl rfl rfl (fun h199 => ?_) (fun h199 => ?_)))
                  · refine ok_iconst 126 rfl rfl (by decide) (ok_callSI (M' := M_Mo_one) (as := [_]) 127 rfl rfl ml_X12_192 (s_Mo_one) ⟨Nat.le_of_ble_eq_true rfl, Nat.le_of_ble_eq_true rfl⟩ rfl (Nat.le_of_ble_eq_true rfl) (fun σ' z2 a2 => ?_))
                    obtain ⟨hs_, a2⟩ := a2
                    rw [hs_]; clear hs_ σ'
                    have q2 : z2 = if 0 < odn W x i then 1 else 0 := by rw [a2]; first | rw [if_pos rfl, if_neg (by omega)] | rw [if_neg (by decide), if_pos (by omega)]
                    have q2b : 0 ≤ z2 ∧ z2 ≤ 1 := by rw [a2]; split <;> omega
                    refine ok_iadd 128 rfl rfl (by first | omega | (simp [up_if]; omega) | (simp [up_if] at *; omega)) (ok_iadd 129 rfl rfl (by first | omega | (simp [up_if]; omega) | (simp [up_if] at *; omega)) (ok_ist6 130 rfl rfl rfl (ok_inc8 131 rfl rfl rfl (by first | omega | (simp [up_if]; omega) | (simp [up_if] at *; omega)) (ok_goto 132 113 rfl rfl rfl ?_))))
                    refine ok_fg [some (vr 0), some (vi s), some (vi b), some (vi k), some (vl x), none, some (vi _), some (vi _), some (vi (i + 1)), none, none, none, none] ⟨rfl, rfl, rfl, rfl, rfl, rfl, rfl, rfl, trivial⟩ (ih2 _ _ (i + 1) ⟨by omega, by omega, by rw [es, ← i3, q1, q2], ?_⟩ (by omega))
                    first
                      | exact Or.inl ⟨rfl, vs.mpr ⟨by rcases ho with u | u; exact u.2; exact absurd u.1 h155, by omega, by omega⟩⟩
                      | exact Or.inr ⟨rfl, fun q => by obtain ⟨w1, w2, w3⟩ := vs.mp q; first | omega | (rcases ho with u | u; omega; exact u.2 w1)⟩
                  · refine ok_iconst 124 rfl rfl (by decide) (ok_goto 125 208 rfl rfl rfl (ok_callSI (M' := M_Mo_one) (as := [_]) 127 rfl rfl ml_X12_192 (s_Mo_one) ⟨Nat.le_of_ble_eq_true rfl, Nat.le_of_ble_eq_true rfl⟩ rfl (Nat.le_of_ble_eq_true rfl) (fun σ' z2 a2 => ?_)))
                    obtain ⟨hs_, a2⟩ := a2
                    rw [hs_]; clear hs_ σ'
                    have q2 : z2 = if 0 < odn W x i then 1 else 0 := by rw [a2]; first | rw [if_pos rfl, if_neg (by omega)] | rw [if_neg (by decide), if_pos (by omega)]
                    have q2b : 0 ≤ z2 ∧ z2 ≤ 1 := by rw [a2]; split <;> omega
                    refine ok_iadd 128 rfl rfl (by first | omega | (simp [up_if]; omega) | (simp [up_if] at *; omega)) (ok_iadd 129 rfl rfl (by first | omega | (simp [up_if]; omega) | (simp [up_if] at *; omega)) (ok_ist6 130 rfl rfl rfl (ok_inc8 131 rfl rfl rfl (by first | omega | (simp [up_if]; omega) | (simp [up_if] at *; omega)) (ok_goto 132 113 rfl rfl rfl ?_))))
                    refine ok_fg [some (vr 0), some (vi s), some (vi b), some (vi k), some (vl x), none, some (vi _), some (vi _), some (vi (i + 1)), none, none, none, none] ⟨rfl, rfl, rfl, rfl, rfl, rfl, rfl, rfl, trivial⟩ (ih2 _ _ (i + 1) ⟨by omega, by omega, by rw [es, ← i3, q1, q2], ?_⟩ (by omega))
                    first
                      | exact Or.inl ⟨rfl, vs.mpr ⟨by rcases ho with u | u; exact u.2; exact absurd u.1 h155, by omega, by omega⟩⟩
                      | exact Or.inr ⟨rfl, fun q => by obtain ⟨w1, w2, w3⟩ := vs.mp q; first | omega | (rcases ho with u | u; omega; exact u.2 w1)⟩
                · refine ok_iconst 116 rfl rfl (by decide) (ok_goto 117 193 rfl rfl rfl (ok_callSI (M' := M_Mo_one) (as := [_]) 119 rfl rfl ml_X12_192 (s_Mo_one) ⟨Nat.le_of_ble_eq_true rfl, Nat.le_of_ble_eq_true rfl⟩ rfl (Nat.le_of_ble_eq_true rfl) (fun σ' z1 a1 => ?_)))
                  obtain ⟨hs_, a1⟩ := a1
                  rw [hs_]; clear hs_ σ'
                  have q1 : z1 = if 0 < evn W x i then 1 else 0 := by rw [a1]; first | rw [if_pos rfl, if_neg (by omega)] | rw [if_neg (by decide), if_pos (by omega)]
                  have q1b : 0 ≤ z1 ∧ z1 ≤ 1 := by rw [a1]; split <;> omega
                  refine ok_lload 120 rfl rfl rfl (ok_lconst (w := 0) 121 rfl rfl rfl (by decide) (ok_lcmp_le 122 123 207 rfl rfl rfl rfl rfl (fun h199 => ?_) (fun h199 => ?_)))
                  · refine ok_iconst 126 rfl rfl (by decide) (ok_callSI (M' := M_Mo_one) (as := [_]) 127 rfl rfl ml_X12_192 (s_Mo_one) ⟨Nat.le_of_ble_eq_true rfl, Nat.le_of_ble_eq_true rfl⟩ rfl (Nat.le_of_ble_eq_true rfl) (fun σ' z2 a2 => ?_))
                    obtain ⟨hs_, a2⟩ := a2
                    rw [hs_]; clear hs_ σ'
                    have q2 : z2 = if 0 < odn W x i then 1 else 0 := by rw [a2]; first | rw [if_pos rfl, if_neg (by omega)] | rw [if_neg (by decide), if_pos (by omega)]
                    have q2b : 0 ≤ z2 ∧ z2 ≤ 1 := by rw [a2]; split <;> omega
                    refine ok_iadd 128 rfl rfl (by first | omega | (simp [up_if]; omega) | (simp [up_if] at *; omega)) (ok_iadd 129 rfl rfl (by first | omega | (simp [up_if]; omega) | (simp [up_if] at *; omega)) (ok_ist6 130 rfl rfl rfl (ok_inc8 131 rfl rfl rfl (by first | omega | (simp [up_if]; omega) | (simp [up_if] at *; omega)) (ok_goto 132 113 rfl rfl rfl ?_))))
                    refine ok_fg [some (vr 0), some (vi s), some (vi b), some (vi k), some (vl x), none, some (vi _), some (vi _), some (vi (i + 1)), none, none, none, none] ⟨rfl, rfl, rfl, rfl, rfl, rfl, rfl, rfl, trivial⟩ (ih2 _ _ (i + 1) ⟨by omega, by omega, by rw [es, ← i3, q1, q2], ?_⟩ (by omega))
                    first
                      | exact Or.inl ⟨rfl, vs.mpr ⟨by rcases ho with u | u; exact u.2; exact absurd u.1 h155, by omega, by omega⟩⟩
                      | exact Or.inr ⟨rfl, fun q => by obtain ⟨w1, w2, w3⟩ := vs.mp q; first | omega | (rcases ho with u | u; omega; exact u.2 w1)⟩
                  · refine ok_iconst 124 rfl rfl (by decide) (ok_goto 125 208 rfl rfl rfl (ok_callSI (M' := M_Mo_one) (as := [_]) 127 rfl rfl ml_X12_192 (s_Mo_one) ⟨Nat.le_of_ble_eq_true rfl, Nat.le_of_ble_eq_true rfl⟩ rfl (Nat.le_of_ble_eq_true rfl) (fun σ' z2 a2 => ?_)))
                    obtain ⟨hs_, a2⟩ := a2
                    rw [hs_]; clear hs_ σ'
                    have q2 : z2 = if 0 < odn W x i then 1 else 0 := by rw [a2]; first | rw [if_pos rfl, if_neg (by omega)] | rw [if_neg (by decide), if_pos (by omega)]
                    have q2b : 0 ≤ z2 ∧ z2 ≤ 1 := by rw [a2]; split <;> omega
                    refine ok_iadd 128 rfl rfl (by first | omega | (simp [up_if]; omega) | (simp [up_if] at *; omega)) (ok_iadd 129 rfl rfl (by first | omega | (simp [up_if]; omega) | (simp [up_if] at *; omega)) (ok_ist6 130 rfl rfl rfl (ok_inc8 131 rfl rfl rfl (by first | omega | (simp [up_if]; omega) | (simp [up_if] at *; omega)) (ok_goto 132 113 rfl rfl rfl ?_))))
                    refine ok_fg [some (vr 0), some (vi s), some (vi b), some (vi k), some (vl x), none, some (vi _), some (vi _), some (vi (i + 1)), none, none, none, none] ⟨rfl, rfl, rfl, rfl, rfl, rfl, rfl, rfl, trivial⟩ (ih2 _ _ (i + 1) ⟨by omega, by omega, by rw [es, ← i3, q1, q2], ?_⟩ (by omega))
                    first
                      | exact Or.inl ⟨rfl, vs.mpr ⟨by rcases ho with u | u; exact u.2; exact absurd u.1 h155, by omega, by omega⟩⟩
                      | exact Or.inr ⟨rfl, fun q => by obtain ⟨w1, w2, w3⟩ := vs.mp q; first | omega | (rcases ho with u | u; omega; exact u.2 w1)⟩
      refine ok_iload_n 40 rfl rfl rfl (ok_bipush 41 rfl rfl (by decide) (by decide) (ok_icmp_ge 42 246 rfl rfl rfl (fun h67 => ?_) (fun h67 => ?_)))
      · refine ok_iload_n 145 rfl rfl rfl (ok_iret 146 rfl rfl rfl ?_)
        exact ⟨_, rfl, rfl, Or.inr (Or.inr ⟨e3, by rw [show (6 : Int) = k by omega]; exact k3⟩)⟩
      · refine ok_iload_n 43 rfl rfl rfl (ok_iconst 44 rfl rfl (by decide) (ok_icmp_ge 45 85 rfl rfl rfl (fun h72 => ?_) (fun h72 => ?_)))
        · refine ok_aload_n 52 rfl rfl rfl (ok_iload_n 53 rfl rfl rfl (ok_iconst 54 rfl rfl (by decide) (ok_iconst 55 rfl rfl (by decide) (ok_callVL (M' := M_Mo_lies) (as := [_, _, _]) 56 rfl rfl ml_X12_314 (t_Mo_lies hB ⟨t1, t2⟩ e3 ⟨by omega, by omega⟩ ⟨by omega, by omega⟩) rfl rfl (Nat.le_of_ble_eq_true rfl) ⟨Nat.le_of_ble_eq_true rfl, Nat.le_of_ble_eq_true rfl⟩ rfl (Nat.le_of_ble_eq_true rfl) (fun σ' y hy => ?_)))))
          obtain ⟨hs_, hy⟩ := hy
          rw [hs_]; clear hs_ σ'
          refine ok_aload_n 57 rfl rfl rfl (ok_iload_n 58 rfl rfl rfl (ok_iload_n 59 rfl rfl rfl (ok_iconst 60 rfl rfl (by decide) (ok_isub 61 rfl rfl (by first | omega | (simp [up_if]; omega) | (simp [up_if] at *; omega)) (ok_iconst 62 rfl rfl (by decide) (ok_callVL (M' := M_Mo_lies) (as := [_, _, _]) 63 rfl rfl ml_X12_314 (t_Mo_lies hB ⟨t1, t2⟩ e3 ⟨by omega, by omega⟩ ⟨by omega, by omega⟩) rfl rfl (Nat.le_of_ble_eq_true rfl) ⟨Nat.le_of_ble_eq_true rfl, Nat.le_of_ble_eq_true rfl⟩ rfl (Nat.le_of_ble_eq_true rfl) (fun σ' y9 h9 => ?_)))))))
          obtain ⟨hs_, h9⟩ := h9
          rw [hs_]; clear hs_ σ'
          refine ok_lsub 64 rfl rfl (by first | omega | (simp [up_if]; omega) | (simp [up_if] at *; omega)) ?_
          first
            | exact tail _ (by unfold ttK; rw [if_pos (by omega), hy.1, eW]) (by omega) (by omega) (by omega)
            | exact tail _ (by unfold ttK; rw [if_neg (by omega), hy.1, h9.1, eW]) (by omega) (by omega) (by omega)
        · refine ok_aload_n 46 rfl rfl rfl (ok_iload_n 47 rfl rfl rfl (ok_iconst 48 rfl rfl (by decide) (ok_iload_n 49 rfl rfl rfl (ok_callVL (M' := M_Mo_lies) (as := [_, _, _]) 50 rfl rfl ml_X12_314 (t_Mo_lies hB ⟨t1, t2⟩ e3 ⟨by omega, by omega⟩ ⟨by omega, by omega⟩) rfl rfl (Nat.le_of_ble_eq_true rfl) ⟨Nat.le_of_ble_eq_true rfl, Nat.le_of_ble_eq_true rfl⟩ rfl (Nat.le_of_ble_eq_true rfl) (fun σ' y hy => ?_)))))
          obtain ⟨hs_, hy⟩ := hy
          rw [hs_]; clear hs_ σ'
          refine ok_goto 51 102 rfl rfl rfl ?_
          first
            | exact tail _ (by unfold ttK; rw [if_pos (by omega), hy.1, eW]) (by omega) (by omega) (by omega)
            | exact tail _ (by unfold ttK; rw [if_neg (by omega), hy.1, h9.1, eW]) (by omega) (by omega) (by omega)
    · refine ok_aload_n 14 rfl rfl rfl (ok_iload_n 15 rfl rfl rfl (ok_iconst 16 rfl rfl (by decide) (ok_iconst 17 rfl rfl (by decide) (ok_callVI (M' := M_Mo_at) (as := [_, _, _]) 18 rfl rfl ml_X12_107 (s_Mo_at hB ⟨t1, t2⟩ ⟨by omega, by omega⟩ ⟨by omega, by omega⟩) rfl rfl (Nat.le_of_ble_eq_true rfl) ⟨Nat.le_of_ble_eq_true rfl, Nat.le_of_ble_eq_true rfl⟩ rfl (Nat.le_of_ble_eq_true rfl) (fun σ' z hz => ?_)))))
      rw [hz.1, hz.2]
      clear hz z σ'
      refine ok_if_le 19 36 rfl rfl rfl (fun h29 => ?_) (fun h29 => ?_)
      · refine ok_iconst 22 rfl rfl (by decide) (ok_callSI (M' := M_Mo_one) (as := [_]) 23 rfl rfl ml_X12_192 (s_Mo_one) ⟨Nat.le_of_ble_eq_true rfl, Nat.le_of_ble_eq_true rfl⟩ rfl (Nat.le_of_ble_eq_true rfl) (fun σ' z1 a1 => ?_))
        obtain ⟨hs_, a1⟩ := a1
        rw [hs_]; clear hs_ σ'
        have q1 : z1 = if 0 < cB σ s 0 0 then 1 else 0 := by rw [a1]; first | rw [if_pos rfl, if_neg (by omega)] | rw [if_neg (by decide), if_pos (by omega)]
        have q1b : 0 ≤ z1 ∧ z1 ≤ 1 := by rw [a1]; split <;> omega
        refine ok_aload_n 24 rfl rfl rfl (ok_iload_n 25 rfl rfl rfl (ok_iconst 26 rfl rfl (by decide) (ok_iconst 27 rfl rfl (by decide) (ok_callVI (M' := M_Mo_at) (as := [_, _, _]) 28 rfl rfl ml_X12_107 (s_Mo_at hB ⟨t1, t2⟩ ⟨by omega, by omega⟩ ⟨by omega, by omega⟩) rfl rfl (Nat.le_of_ble_eq_true rfl) ⟨Nat.le_of_ble_eq_true rfl, Nat.le_of_ble_eq_true rfl⟩ rfl (Nat.le_of_ble_eq_true rfl) (fun σ' z hz => ?_)))))
        rw [hz.1, hz.2]
        clear hz z σ'
        refine ok_if_le 29 54 rfl rfl rfl (fun h47 => ?_) (fun h47 => ?_)
        · refine ok_iconst 32 rfl rfl (by decide) (ok_callSI (M' := M_Mo_one) (as := [_]) 33 rfl rfl ml_X12_192 (s_Mo_one) ⟨Nat.le_of_ble_eq_true rfl, Nat.le_of_ble_eq_true rfl⟩ rfl (Nat.le_of_ble_eq_true rfl) (fun σ' z2 a2 => ?_))
          obtain ⟨hs_, a2⟩ := a2
          rw [hs_]; clear hs_ σ'
          have q2 : z2 = if 0 < cB σ s 0 1 then 1 else 0 := by rw [a2]; first | rw [if_pos rfl, if_neg (by omega)] | rw [if_neg (by decide), if_pos (by omega)]
          have q2b : 0 ≤ z2 ∧ z2 ≤ 1 := by rw [a2]; split <;> omega
          refine ok_iadd 34 rfl rfl (by first | omega | (simp [up_if]; omega) | (simp [up_if] at *; omega)) (ok_iret 35 rfl rfl rfl ?_)
          exact ⟨_, rfl, rfl, Or.inr (Or.inl ⟨by omega, by rw [q1, q2]⟩)⟩
        · refine ok_iconst 30 rfl rfl (by decide) (ok_goto 31 55 rfl rfl rfl (ok_callSI (M' := M_Mo_one) (as := [_]) 33 rfl rfl ml_X12_192 (s_Mo_one) ⟨Nat.le_of_ble_eq_true rfl, Nat.le_of_ble_eq_true rfl⟩ rfl (Nat.le_of_ble_eq_true rfl) (fun σ' z2 a2 => ?_)))
          obtain ⟨hs_, a2⟩ := a2
          rw [hs_]; clear hs_ σ'
          have q2 : z2 = if 0 < cB σ s 0 1 then 1 else 0 := by rw [a2]; first | rw [if_pos rfl, if_neg (by omega)] | rw [if_neg (by decide), if_pos (by omega)]
          have q2b : 0 ≤ z2 ∧ z2 ≤ 1 := by rw [a2]; split <;> omega
          refine ok_iadd 34 rfl rfl (by first | omega | (simp [up_if]; omega) | (simp [up_if] at *; omega)) (ok_iret 35 rfl rfl rfl ?_)
          exact ⟨_, rfl, rfl, Or.inr (Or.inl ⟨by omega, by rw [q1, q2]⟩)⟩
      · refine ok_iconst 20 rfl rfl (by decide) (ok_goto 21 37 rfl rfl rfl (ok_callSI (M' := M_Mo_one) (as := [_]) 23 rfl rfl ml_X12_192 (s_Mo_one) ⟨Nat.le_of_ble_eq_true rfl, Nat.le_of_ble_eq_true rfl⟩ rfl (Nat.le_of_ble_eq_true rfl) (fun σ' z1 a1 => ?_)))
        obtain ⟨hs_, a1⟩ := a1
        rw [hs_]; clear hs_ σ'
        have q1 : z1 = if 0 < cB σ s 0 0 then 1 else 0 := by rw [a1]; first | rw [if_pos rfl, if_neg (by omega)] | rw [if_neg (by decide), if_pos (by omega)]
        have q1b : 0 ≤ z1 ∧ z1 ≤ 1 := by rw [a1]; split <;> omega
        refine ok_aload_n 24 rfl rfl rfl (ok_iload_n 25 rfl rfl rfl (ok_iconst 26 rfl rfl (by decide) (ok_iconst 27 rfl rfl (by decide) (ok_callVI (M' := M_Mo_at) (as := [_, _, _]) 28 rfl rfl ml_X12_107 (s_Mo_at hB ⟨t1, t2⟩ ⟨by omega, by omega⟩ ⟨by omega, by omega⟩) rfl rfl (Nat.le_of_ble_eq_true rfl) ⟨Nat.le_of_ble_eq_true rfl, Nat.le_of_ble_eq_true rfl⟩ rfl (Nat.le_of_ble_eq_true rfl) (fun σ' z hz => ?_)))))
        rw [hz.1, hz.2]
        clear hz z σ'
        refine ok_if_le 29 54 rfl rfl rfl (fun h47 => ?_) (fun h47 => ?_)
        · refine ok_iconst 32 rfl rfl (by decide) (ok_callSI (M' := M_Mo_one) (as := [_]) 33 rfl rfl ml_X12_192 (s_Mo_one) ⟨Nat.le_of_ble_eq_true rfl, Nat.le_of_ble_eq_true rfl⟩ rfl (Nat.le_of_ble_eq_true rfl) (fun σ' z2 a2 => ?_))
          obtain ⟨hs_, a2⟩ := a2
          rw [hs_]; clear hs_ σ'
          have q2 : z2 = if 0 < cB σ s 0 1 then 1 else 0 := by rw [a2]; first | rw [if_pos rfl, if_neg (by omega)] | rw [if_neg (by decide), if_pos (by omega)]
          have q2b : 0 ≤ z2 ∧ z2 ≤ 1 := by rw [a2]; split <;> omega
          refine ok_iadd 34 rfl rfl (by first | omega | (simp [up_if]; omega) | (simp [up_if] at *; omega)) (ok_iret 35 rfl rfl rfl ?_)
          exact ⟨_, rfl, rfl, Or.inr (Or.inl ⟨by omega, by rw [q1, q2]⟩)⟩
        · refine ok_iconst 30 rfl rfl (by decide) (ok_goto 31 55 rfl rfl rfl (ok_callSI (M' := M_Mo_one) (as := [_]) 33 rfl rfl ml_X12_192 (s_Mo_one) ⟨Nat.le_of_ble_eq_true rfl, Nat.le_of_ble_eq_true rfl⟩ rfl (Nat.le_of_ble_eq_true rfl) (fun σ' z2 a2 => ?_)))
          obtain ⟨hs_, a2⟩ := a2
          rw [hs_]; clear hs_ σ'
          have q2 : z2 = if 0 < cB σ s 0 1 then 1 else 0 := by rw [a2]; first | rw [if_pos rfl, if_neg (by omega)] | rw [if_neg (by decide), if_pos (by omega)]
          have q2b : 0 ≤ z2 ∧ z2 ≤ 1 := by rw [a2]; split <;> omega
          refine ok_iadd 34 rfl rfl (by first | omega | (simp [up_if]; omega) | (simp [up_if] at *; omega)) (ok_iret 35 rfl rfl rfl ?_)
          exact ⟨_, rfl, rfl, Or.inr (Or.inl ⟨by omega, by rw [q1, q2]⟩)⟩
  · refine ok_iconst 6 rfl rfl (by decide) (ok_iret 7 rfl rfl rfl ?_)
    exact ⟨_, rfl, rfl, Or.inl ⟨by omega, rfl⟩⟩

/-- the nine cells by the even and the odd choices -/
def eoI (W0 W : Int → Int → Int) (e o : Int → Int) : Prop := W0 0 0 = e 0 + o 0 + W 0 0 ∧ W0 0 1 = e 1 + o 1 + W 0 1 ∧ W0 0 2 = e 2 + o 2 + W 0 2 ∧ W0 1 0 = e 2 + o 1 + W 1 0 ∧ W0 1 1 = e 0 + o 2 + W 1 1 ∧ W0 1 2 = e 1 + o 0 + W 1 2 ∧ W0 2 0 = e 1 + o 2 + W 2 0 ∧ W0 2 1 = e 2 + o 0 + W 2 1 ∧ W0 2 2 = e 0 + o 1 + W 2 2
def fwI (n : Int) (W0 W : Int → Int → Int) (P : Int) (e o : Int → Int) : Prop := (n = 1 → P + (if 0 < W 0 0 then 1 else 0) = 1) ∧ (n = 2 → P + (if 0 < W 0 0 then 1 else 0) + (if 0 < W 0 1 then 1 else 0) = (if 0 < W0 0 0 then 1 else 0) + (if 0 < W0 0 1 then 1 else 0)) ∧ (n = 3 → eoI W0 W e o)
def adE (ch e o e' o' : Int → Int) (w : Int) : Prop := (ch 1 = (ch 0 + 1) % 3 ∧ (∀ k, 0 ≤ k → k < 3 → e' k = if k = ch 0 then e k + w else e k) ∧ ∀ k, 0 ≤ k → k < 3 → o' k = o k) ∨ (ch 1 ≠ (ch 0 + 1) % 3 ∧ (∀ k, 0 ≤ k → k < 3 → o' k = if k = ch 0 then o k + w else o k) ∧ ∀ k, 0 ≤ k → k < 3 → e' k = e k)
theorem eoI_s {W0 W W' : Int → Int → Int} {e o e' o' ch : Int → Int} {w : Int} (h : eoI W0 W e o) (hp : perm 3 ch) (h4 : ∀ i j, 0 ≤ i → i < 3 → 0 ≤ j → j < 3 → W' i j = W i j - (if j = ch i then w else 0)) (ha : adE ch e o e' o' w) : eoI W0 W' e' o' := by
  obtain ⟨g00, g01, g02, g10, g11, g12, g20, g21, g22⟩ := h
  have p0 := hp.1 0 (by decide) (by decide)
  have p1 := hp.1 1 (by decide) (by decide)
  have p2 := hp.1 2 (by decide) (by decide)
  have d01 := hp.2 0 1 (by decide) (by decide) (by decide)
  have d02 := hp.2 0 2 (by decide) (by decide) (by decide)
  have d12 := hp.2 1 2 (by decide) (by decide) (by decide)
  have yes : ∀ i j, 0 ≤ i → i < 3 → 0 ≤ j → j < 3 → ch i = j → W' i j = W i j - w := fun i j a b c d q => by rw [h4 i j a b c d, if_pos q.symm]
  have no : ∀ i j, 0 ≤ i → i < 3 → 0 ≤ j → j < 3 → ch i ≠ j → W' i j = W i j := fun i j a b c d q => by rw [h4 i j a b c d, if_neg (fun x => q x.symm), Int.sub_zero]
  have cs : (ch 0 = 0 ∧ ch 1 = 1 ∧ ch 2 = 2) ∨ (ch 0 = 0 ∧ ch 1 = 2 ∧ ch 2 = 1) ∨ (ch 0 = 1 ∧ ch 1 = 0 ∧ ch 2 = 2) ∨ (ch 0 = 1 ∧ ch 1 = 2 ∧ ch 2 = 0) ∨ (ch 0 = 2 ∧ ch 1 = 0 ∧ ch 2 = 1) ∨ (ch 0 = 2 ∧ ch 1 = 1 ∧ ch 2 = 0) := by omega
  clear p0 p1 p2 d01 d02 d12
  rcases cs with ⟨c0, c1, c2⟩ | ⟨c0, c1, c2⟩ | ⟨c0, c1, c2⟩ | ⟨c0, c1, c2⟩ | ⟨c0, c1, c2⟩ | ⟨c0, c1, c2⟩
  · have w00 := yes 0 0 (by decide) (by decide) (by decide) (by decide) (by omega)
    have w01 := no 0 1 (by decide) (by decide) (by decide) (by decide) (by omega)
    have w02 := no 0 2 (by decide) (by decide) (by decide) (by decide) (by omega)
    have w10 := no 1 0 (by decide) (by decide) (by decide) (by decide) (by omega)
    have w11 := yes 1 1 (by decide) (by decide) (by decide) (by decide) (by omega)
    have w12 := no 1 2 (by decide) (by decide) (by decide) (by decide) (by omega)
    have w20 := no 2 0 (by decide) (by decide) (by decide) (by decide) (by omega)
    have w21 := no 2 1 (by decide) (by decide) (by decide) (by decide) (by omega)
    have w22 := yes 2 2 (by decide) (by decide) (by decide) (by decide) (by omega)
    rcases ha with ⟨q, a1, a2⟩ | ⟨q, a1, a2⟩
    · have x0 : e' 0 = e 0 + w := by rw [a1 0 (by decide) (by decide), if_pos (by omega)]
      have x1 : e' 1 = e 1 := by rw [a1 1 (by decide) (by decide), if_neg (by omega)]
      have x2 : e' 2 = e 2 := by rw [a1 2 (by decide) (by decide), if_neg (by omega)]
      have y0 := a2 0 (by decide) (by decide)
      have y1 := a2 1 (by decide) (by decide)
      have y2 := a2 2 (by decide) (by decide)
      exact ⟨by omega, by omega, by omega, by omega, by omega, by omega, by omega, by omega, by omega⟩
    · exfalso; omega
  · have w00 := yes 0 0 (by decide) (by decide) (by decide) (by decide) (by omega)
    have w01 := no 0 1 (by decide) (by decide) (by decide) (by decide) (by omega)
    have w02 := no 0 2 (by decide) (by decide) (by decide) (by decide) (by omega)
    have w10 := no 1 0 (by decide) (by decide) (by decide) (by decide) (by omega)
    have w11 := no 1 1 (by decide) (by decide) (by decide) (by decide) (by omega)
    have w12 := yes 1 2 (by decide) (by decide) (by decide) (by decide) (by omega)
    have w20 := no 2 0 (by decide) (by decide) (by decide) (by decide) (by omega)
    have w21 := yes 2 1 (by decide) (by decide) (by decide) (by decide) (by omega)
    have w22 := no 2 2 (by decide) (by decide) (by decide) (by decide) (by omega)
    rcases ha with ⟨q, a1, a2⟩ | ⟨q, a1, a2⟩
    · exfalso; omega
    · have x0 : o' 0 = o 0 + w := by rw [a1 0 (by decide) (by decide), if_pos (by omega)]
      have x1 : o' 1 = o 1 := by rw [a1 1 (by decide) (by decide), if_neg (by omega)]
      have x2 : o' 2 = o 2 := by rw [a1 2 (by decide) (by decide), if_neg (by omega)]
      have y0 := a2 0 (by decide) (by decide)
      have y1 := a2 1 (by decide) (by decide)
      have y2 := a2 2 (by decide) (by decide)
      exact ⟨by omega, by omega, by omega, by omega, by omega, by omega, by omega, by omega, by omega⟩
  · have w00 := no 0 0 (by decide) (by decide) (by decide) (by decide) (by omega)
    have w01 := yes 0 1 (by decide) (by decide) (by decide) (by decide) (by omega)
    have w02 := no 0 2 (by decide) (by decide) (by decide) (by decide) (by omega)
    have w10 := yes 1 0 (by decide) (by decide) (by decide) (by decide) (by omega)
    have w11 := no 1 1 (by decide) (by decide) (by decide) (by decide) (by omega)
    have w12 := no 1 2 (by decide) (by decide) (by decide) (by decide) (by omega)
    have w20 := no 2 0 (by decide) (by decide) (by decide) (by decide) (by omega)
    have w21 := no 2 1 (by decide) (by decide) (by decide) (by decide) (by omega)
    have w22 := yes 2 2 (by decide) (by decide) (by decide) (by decide) (by omega)
    rcases ha with ⟨q, a1, a2⟩ | ⟨q, a1, a2⟩
    · exfalso; omega
    · have x0 : o' 0 = o 0 := by rw [a1 0 (by decide) (by decide), if_neg (by omega)]
      have x1 : o' 1 = o 1 + w := by rw [a1 1 (by decide) (by decide), if_pos (by omega)]
      have x2 : o' 2 = o 2 := by rw [a1 2 (by decide) (by decide), if_neg (by omega)]
      have y0 := a2 0 (by decide) (by decide)
      have y1 := a2 1 (by decide) (by decide)
      have y2 := a2 2 (by decide) (by decide)
      exact ⟨by omega, by omega, by omega, by omega, by omega, by omega, by omega, by omega, by omega⟩
  · have w00 := no 0 0 (by decide) (by decide) (by decide) (by decide) (by omega)
    have w01 := yes 0 1 (by decide) (by decide) (by decide) (by decide) (by omega)
    have w02 := no 0 2 (by decide) (by decide) (by decide) (by decide) (by omega)
    have w10 := no 1 0 (by decide) (by decide) (by decide) (by decide) (by omega)
    have w11 := no 1 1 (by decide) (by decide) (by decide) (by decide) (by omega)
    have w12 := yes 1 2 (by decide) (by decide) (by decide) (by decide) (by omega)
    have w20 := yes 2 0 (by decide) (by decide) (by decide) (by decide) (by omega)
    have w21 := no 2 1 (by decide) (by decide) (by decide) (by decide) (by omega)
    have w22 := no 2 2 (by decide) (by decide) (by decide) (by decide) (by omega)
    rcases ha with ⟨q, a1, a2⟩ | ⟨q, a1, a2⟩
    · have x0 : e' 0 = e 0 := by rw [a1 0 (by decide) (by decide), if_neg (by omega)]
      have x1 : e' 1 = e 1 + w := by rw [a1 1 (by decide) (by decide), if_pos (by omega)]
      have x2 : e' 2 = e 2 := by rw [a1 2 (by decide) (by decide), if_neg (by omega)]
      have y0 := a2 0 (by decide) (by decide)
      have y1 := a2 1 (by decide) (by decide)
      have y2 := a2 2 (by decide) (by decide)
      exact ⟨by omega, by omega, by omega, by omega, by omega, by omega, by omega, by omega, by omega⟩
    · exfalso; omega
  · have w00 := no 0 0 (by decide) (by decide) (by decide) (by decide) (by omega)
    have w01 := no 0 1 (by decide) (by decide) (by decide) (by decide) (by omega)
    have w02 := yes 0 2 (by decide) (by decide) (by decide) (by decide) (by omega)
    have w10 := yes 1 0 (by decide) (by decide) (by decide) (by decide) (by omega)
    have w11 := no 1 1 (by decide) (by decide) (by decide) (by decide) (by omega)
    have w12 := no 1 2 (by decide) (by decide) (by decide) (by decide) (by omega)
    have w20 := no 2 0 (by decide) (by decide) (by decide) (by decide) (by omega)
    have w21 := yes 2 1 (by decide) (by decide) (by decide) (by decide) (by omega)
    have w22 := no 2 2 (by decide) (by decide) (by decide) (by decide) (by omega)
    rcases ha with ⟨q, a1, a2⟩ | ⟨q, a1, a2⟩
    · have x0 : e' 0 = e 0 := by rw [a1 0 (by decide) (by decide), if_neg (by omega)]
      have x1 : e' 1 = e 1 := by rw [a1 1 (by decide) (by decide), if_neg (by omega)]
      have x2 : e' 2 = e 2 + w := by rw [a1 2 (by decide) (by decide), if_pos (by omega)]
      have y0 := a2 0 (by decide) (by decide)
      have y1 := a2 1 (by decide) (by decide)
      have y2 := a2 2 (by decide) (by decide)
      exact ⟨by omega, by omega, by omega, by omega, by omega, by omega, by omega, by omega, by omega⟩
    · exfalso; omega
  · have w00 := no 0 0 (by decide) (by decide) (by decide) (by decide) (by omega)
    have w01 := no 0 1 (by decide) (by decide) (by decide) (by decide) (by omega)
    have w02 := yes 0 2 (by decide) (by decide) (by decide) (by decide) (by omega)
    have w10 := no 1 0 (by decide) (by decide) (by decide) (by decide) (by omega)
    have w11 := yes 1 1 (by decide) (by decide) (by decide) (by decide) (by omega)
    have w12 := no 1 2 (by decide) (by decide) (by decide) (by decide) (by omega)
    have w20 := yes 2 0 (by decide) (by decide) (by decide) (by decide) (by omega)
    have w21 := no 2 1 (by decide) (by decide) (by decide) (by decide) (by omega)
    have w22 := no 2 2 (by decide) (by decide) (by decide) (by decide) (by omega)
    rcases ha with ⟨q, a1, a2⟩ | ⟨q, a1, a2⟩
    · exfalso; omega
    · have x0 : o' 0 = o 0 := by rw [a1 0 (by decide) (by decide), if_neg (by omega)]
      have x1 : o' 1 = o 1 := by rw [a1 1 (by decide) (by decide), if_neg (by omega)]
      have x2 : o' 2 = o 2 + w := by rw [a1 2 (by decide) (by decide), if_pos (by omega)]
      have y0 := a2 0 (by decide) (by decide)
      have y1 := a2 1 (by decide) (by decide)
      have y2 := a2 2 (by decide) (by decide)
      exact ⟨by omega, by omega, by omega, by omega, by omega, by omega, by omega, by omega, by omega⟩
theorem fwI_s {n m w P : Int} {W0 W W' : Int → Int → Int} {e o e' o' ch : Int → Int} (hn : 1 ≤ n ∧ n ≤ 3) (he : EvW n W m) (h : fwI n W0 W P e o) (hs : stp n 0 W W' ch w) (ha : n = 3 → adE ch e o e' o' w) : fwI n W0 W' (P + 1) e' o' := by
  obtain ⟨h1, ⟨x, x1, x2, x3⟩, h3, h4⟩ := hs
  obtain ⟨hp, hc⟩ := chS_ps ⟨hn.1, by omega⟩ h1
  refine ⟨fun q => ?_, fun q => ?_, fun q => ?_⟩
  · subst q
    have p0 := hp.1 0 (by decide) (by decide)
    have c0 : ch 0 = 0 := by omega
    have x0 : x = 0 := by omega
    have g := h.1 rfl
    have w1 := hc 0 (by decide) (by decide)
    have w2 := h4 0 0 (by decide) (by decide) (by decide) (by decide)
    rw [x0, c0] at x3
    rw [c0] at w1
    rw [if_pos c0.symm] at w2
    rw [if_pos (by omega)] at g
    rw [if_neg (by omega)]
    omega
  · subst q
    have r0 : 0 + W 0 0 + W 0 1 = m := he.2.1 0 (by decide) (by decide)
    have r1 : 0 + W 1 0 + W 1 1 = m := he.2.1 1 (by decide) (by decide)
    have k0 : 0 + W 0 0 + W 1 0 = m := he.2.2 0 (by decide) (by decide)
    have k1 : 0 + W 0 1 + W 1 1 = m := he.2.2 1 (by decide) (by decide)
    have p0 := hp.1 0 (by decide) (by decide)
    have p1 := hp.1 1 (by decide) (by decide)
    have d01 := hp.2 0 1 (by decide) (by decide) (by decide)
    have g := h.2.1 rfl
    have v0 := hc 0 (by decide) (by decide)
    have w00 := h4 0 0 (by decide) (by decide) (by decide) (by decide)
    have w01 := h4 0 1 (by decide) (by decide) (by decide) (by decide)
    rcases (by omega : (ch 0 = 0 ∧ ch 1 = 1) ∨ (ch 0 = 1 ∧ ch 1 = 0)) with ⟨c0, c1⟩ | ⟨c0, c1⟩
    · rw [if_pos c0.symm] at w00
      rw [if_neg (by omega), Int.sub_zero] at w01
      rw [c0] at v0
      have ew : w = W 0 0 := by
        rcases (by omega : x = 0 ∨ x = 1) with y | y
        · rw [y, c0] at x3; exact x3
        · rw [y, c1] at x3; omega
      rw [if_pos (show 0 < W 0 0 by omega)] at g
      rw [if_neg (show ¬ 0 < W' 0 0 by omega), w01]
      omega
    · rw [if_pos c0.symm] at w01
      rw [if_neg (by omega), Int.sub_zero] at w00
      rw [c0] at v0
      have ew : w = W 0 1 := by
        rcases (by omega : x = 0 ∨ x = 1) with y | y
        · rw [y, c0] at x3; exact x3
        · rw [y, c1] at x3; omega
      rw [if_pos (show 0 < W 0 1 by omega)] at g
      rw [if_neg (show ¬ 0 < W' 0 1 by omega), w00]
      omega
  · subst q
    exact eoI_s (h.2.2 rfl) hp h4 (ha rfl)
/-- how many are above 0 when so much goes from each even choice to each odd one -/
def cX (e o : Int → Int) (v : Int) : Int := sm (fun a => if v < e a then 1 else 0) 3 + sm (fun a => if -v < o a then 1 else 0) 3
theorem fw_end {W : Int → Int → Int} {e o : Int → Int} {p q : Int} (h : eoI W (fun _ _ => 0) e o) (h1 : ∀ k, 0 ≤ k → k < 3 → p ≤ e k ∧ q ≤ o k) (h2 : p = e 0 ∨ p = e 1 ∨ p = e 2) (h3 : q = o 0 ∨ q = o 1 ∨ q = o 2) (h0 : ∀ k, 0 ≤ k → k < 3 → 0 ≤ e k ∧ 0 ≤ o k) : bsK W 6 (min (cX e o p) (cX e o (-q))) := by
  obtain ⟨g00, g01, g02, g10, g11, g12, g20, g21, g22⟩ := h
  (try dsimp only at g00 g01 g02 g10 g11 g12 g20 g21 g22)
  have l1 : ∀ a, 0 ≤ a → a < 3 → lz W a 0 = e a + o 0 := fun a x y => by
    rcases (by omega : a = 0 ∨ a = 1 ∨ a = 2) with q | q | q <;> subst q
    · show W 0 0 = _; omega
    · show W 1 2 = _; omega
    · show W 2 1 = _; omega
  have l2 : ∀ a, 0 ≤ a → a < 3 → lz W 0 a = e 0 + o a := fun a x y => by
    rcases (by omega : a = 0 ∨ a = 1 ∨ a = 2) with q | q | q <;> subst q
    · show W 0 0 = _; omega
    · show W 2 2 = _; omega
    · show W 1 1 = _; omega
  have l3 := l1 0 (by decide) (by decide)
  have nm : ∀ t, nmT W t 3 = cX e o (e 0 - t) := fun t => by
    have f : nmT W t 3 = sm (fun a => (if e 0 - t < e a then 1 else 0) - (fun a => -(if -(e 0 - t) < o a then (1 : Int) else 0)) a) 3 := sm_cg (fun a x y => by
      (try dsimp only)
      have a1 : (if 0 < evn W t a then (1 : Int) else 0) = if e 0 - t < e a then 1 else 0 := by
        have : evn W t a = e a - (e 0 - t) := by unfold evn; rw [l1 a x (by omega), l3]; omega
        rw [this]
        by_cases c : e 0 - t < e a
        · rw [if_pos c, if_pos (by omega)]
        · rw [if_neg c, if_neg (by omega)]
      have a2 : (if 0 < odn W t a then (1 : Int) else 0) = if -(e 0 - t) < o a then 1 else 0 := by
        have : odn W t a = o a + (e 0 - t) := by unfold odn; rw [l2 a x (by omega)]; omega
        rw [this]
        by_cases c : -(e 0 - t) < o a
        · rw [if_pos c, if_pos (by omega)]
        · rw [if_neg c, if_neg (by omega)]
      rw [a1, a2]; omega)
    rw [f, sm_sub]
    unfold cX
    have n : ∀ g : Int → Int, sm (fun a => -(g a)) 3 = -(sm g 3) := fun g => by
      show 0 + -(g 0) + -(g 1) + -(g 2) = -(0 + g 0 + g 1 + g 2)
      omega
    rw [n (fun a => if -(e 0 - t) < o a then (1 : Int) else 0)]
    omega
  have vl : ∀ t, vlT W t 3 ↔ ∀ a, 0 ≤ a → a < 3 → e 0 - t ≤ e a ∧ -(e 0 - t) ≤ o a := fun t => by
    constructor
    · intro h a x y
      have := h a x y
      unfold evn odn at this
      rw [l1 a x y, l2 a x y, l3] at this
      omega
    · intro h a x y
      have := h a x y
      unfold evn odn
      rw [l1 a x y, l2 a x y, l3]
      omega
  have t1 : ∀ k, 0 ≤ k → k < 3 → e 0 - ttK W k = -(o k) := fun k a b => by unfold ttK; rw [if_pos b, l2 k a b]; omega
  have t2 : ∀ k, 3 ≤ k → k < 6 → e 0 - ttK W k = e (k - 3) := fun k a b => by unfold ttK; rw [if_neg (by omega), l1 (k - 3) (by omega) (by omega), l3]; omega
  have x1 : ∃ j, 0 ≤ j ∧ j < 3 ∧ e j = p := by
    rcases h2 with y | y | y
    · exact ⟨0, by decide, by decide, y.symm⟩
    · exact ⟨1, by decide, by decide, y.symm⟩
    · exact ⟨2, by decide, by decide, y.symm⟩
  have x2 : ∃ j, 0 ≤ j ∧ j < 3 ∧ o j = q := by
    rcases h3 with y | y | y
    · exact ⟨0, by decide, by decide, y.symm⟩
    · exact ⟨1, by decide, by decide, y.symm⟩
    · exact ⟨2, by decide, by decide, y.symm⟩
  obtain ⟨j, j1, j2, j3⟩ := x1
  obtain ⟨i, i1, i2, i3⟩ := x2
  have p0 := h0 j j1 j2
  have q0 := h0 i i1 i2
  have va : vlT W (ttK W (3 + j)) 3 ∧ nmT W (ttK W (3 + j)) 3 = cX e o p := by
    have u := t2 (3 + j) (by omega) (by omega)
    rw [show 3 + j - 3 = j by omega, j3] at u
    refine ⟨(vl _).mpr (fun a x y => ?_), by rw [nm, u]⟩
    have := h1 a x y
    have := h0 a x y
    rw [u]; omega
  have vb : vlT W (ttK W i) 3 ∧ nmT W (ttK W i) 3 = cX e o (-q) := by
    have u := t1 i i1 i2
    rw [i3] at u
    refine ⟨(vl _).mpr (fun a x y => ?_), by rw [nm, u]⟩
    have := h1 a x y
    have := h0 a x y
    rw [u]; omega
  refine Or.inr ⟨?_, fun k k1 k2 hv => ?_⟩
  · rcases (by omega : min (cX e o p) (cX e o (-q)) = cX e o p ∨ min (cX e o p) (cX e o (-q)) = cX e o (-q)) with y | y
    · exact ⟨3 + j, by omega, by omega, va.1, by rw [y, va.2]⟩
    · exact ⟨i, i1, by omega, vb.1, by rw [y, vb.2]⟩
  · have w := (vl _).mp hv
    rw [nm]
    rcases (by omega : k < 3 ∨ 3 ≤ k) with y | y
    · have u := t1 k k1 y
      rw [u] at w ⊢
      have w1 := w i i1 i2
      have w2 := h1 k k1 y
      have : o k = q := by omega
      rw [this]; omega
    · have u := t2 k y k2
      rw [u] at w ⊢
      have w1 := w j j1 j2
      have w2 := h1 (k - 3) (by omega) (by omega)
      have : e (k - 3) = p := by omega
      rw [this]; omega
end
section
/-! FEWEST PARTS and BOUND of the class, and BOUND of the reference -/
theorem t_Se_leastOf {σ : eS} {c : Nat} (hs : nth shA c = some (1, 3, [])) : MtI shA M_Se_leastOf [vr c] σ (fun σ' z => σ' = σ ∧ (∀ k, 0 ≤ k → k < 3 → z ≤ σ c k) ∧ (z = σ c 0 ∨ z = σ c 1 ∨ z = σ c 2)) := by
  refine Mt.of okM_Se_leastOf (Nat.le_of_ble_eq_true rfl) (fun hk hg => ?_)
  refine ok_aload_n 0 rfl rfl rfl (ok_iconst 1 rfl rfl (by decide) (ok_iald 2 rfl rfl hs (by first | omega | (simp [up_if]; omega) | (simp [up_if] at *; omega)) (ok_ist1 3 rfl rfl rfl (ok_aload_n 4 rfl rfl rfl (ok_ast2 5 rfl rfl rfl (ok_aload_n 6 rfl rfl rfl (ok_alen 7 rfl rfl hs rfl rfl (by decide) (ok_ist3 8 rfl rfl rfl (ok_iconst 9 rfl rfl (by decide) (ok_ist4 10 rfl rfl rfl ?_))))))))))
  refine lpO2 (fun (v i : Int) => [some (vr c), some (vi v), some (vr c), some (vi 3), some (vi i), none]) (fun _ _ => σ) (fun v i => 0 ≤ i ∧ i ≤ 3 ∧ (∀ k, 0 ≤ k → k < i → v ≤ σ c k) ∧ (v = σ c 0 ∨ v = σ c 1 ∨ v = σ c 2)) (fun _ i => (3 - i).toNat) ?_ _ 0 ⟨by omega, by omega, fun k a b => by omega, Or.inl rfl⟩
  rintro v i ⟨i1, i2, i3, i4⟩ ih
  refine ok_iload 11 rfl rfl rfl (ok_iload_n 12 rfl rfl rfl (ok_icmp_ge 13 37 rfl rfl rfl (fun h15 => ?_) (fun h15 => ?_)))
  · refine ok_iload_n 24 rfl rfl rfl (ok_iret 25 rfl rfl rfl ?_)
    exact ⟨_, rfl, rfl, fun k a b => i3 k a (by omega), i4⟩
  · refine ok_aload_n 14 rfl rfl rfl (ok_iload 15 rfl rfl rfl (ok_iald 16 rfl rfl hs (by first | omega | (simp [up_if]; omega) | (simp [up_if] at *; omega)) (ok_ist5 17 rfl rfl rfl (ok_iload_n 18 rfl rfl rfl (ok_iload 19 rfl rfl rfl (ok_mmin 20 rfl rfl ml_X7_100 ⟨Nat.le_of_ble_eq_true rfl, Nat.le_of_ble_eq_true rfl⟩ (ok_ist1 21 rfl rfl rfl (ok_inc4 22 rfl rfl rfl (by first | omega | (simp [up_if]; omega) | (simp [up_if] at *; omega)) (ok_goto 23 12 rfl rfl rfl ?_)))))))))
    refine ok_fg [some (vr c), some (vi _), some (vr c), some (vi 3), some (vi (i + 1)), none] ⟨rfl, rfl, rfl, rfl, rfl, trivial⟩ (ih _ (i + 1) ⟨by omega, by omega, fun k a b => ?_, ?_⟩ (by omega))
    · rcases (by omega : k < i ∨ k = i) with q | q
      · have := i3 k a q; omega
      · rw [q]; omega
    · rcases (by omega : i = 0 ∨ i = 1 ∨ i = 2) with q | q | q <;> subst q <;> omega
theorem t_Se_countAbove {σ : eS} {c : Nat} {b : Int} (hs : nth shA c = some (1, 3, [])) : MtI shA M_Se_countAbove [vr c, vi b] σ (fun σ' z => σ' = σ ∧ z = sm (fun k => if b < σ c k then 1 else 0) 3 ∧ 0 ≤ z ∧ z ≤ 3) := by
  refine Mt.of okM_Se_countAbove (Nat.le_of_ble_eq_true rfl) (fun hk hg => ?_)
  refine ok_iconst 0 rfl rfl (by decide) (ok_ist2 1 rfl rfl rfl (ok_aload_n 2 rfl rfl rfl (ok_ast3 3 rfl rfl rfl (ok_aload_n 4 rfl rfl rfl (ok_alen 5 rfl rfl hs rfl rfl (by decide) (ok_ist4 6 rfl rfl rfl (ok_iconst 7 rfl rfl (by decide) (ok_ist5 8 rfl rfl rfl ?_))))))))
  refine lpO2 (fun (v i : Int) => [some (vr c), some (vi b), some (vi v), some (vr c), some (vi 3), some (vi i), none]) (fun _ _ => σ) (fun v i => 0 ≤ i ∧ i ≤ 3 ∧ v = sm (fun k => if b < σ c k then 1 else 0) i.toNat ∧ 0 ≤ v ∧ v ≤ i) (fun _ i => (3 - i).toNat) ?_ 0 0 ⟨by omega, by omega, rfl, by omega, by omega⟩
  rintro v i ⟨i1, i2, v0, v1, v2⟩ ih
  have es := sm_s (fun k => if b < σ c k then (1 : Int) else 0) i1
  refine ok_iload 9 rfl rfl rfl (ok_iload 10 rfl rfl rfl (ok_icmp_ge 11 39 rfl rfl rfl (fun h15 => ?_) (fun h15 => ?_)))
  · refine ok_iload_n 22 rfl rfl rfl (ok_iret 23 rfl rfl rfl ?_)
    exact ⟨_, rfl, rfl, by rw [v0, show i = 3 by omega]; rfl, v1, by omega⟩
  · refine ok_aload_n 12 rfl rfl rfl (ok_iload 13 rfl rfl rfl (ok_iald 14 rfl rfl hs (by first | omega | (simp [up_if]; omega) | (simp [up_if] at *; omega)) (ok_ist6 15 rfl rfl rfl (ok_iload 16 rfl rfl rfl (ok_iload_n 17 rfl rfl rfl (ok_icmp_le 18 33 rfl rfl rfl (fun h27 => ?_) (fun h27 => ?_)))))))
    · refine ok_inc5 20 rfl rfl rfl (by first | omega | (simp [up_if]; omega) | (simp [up_if] at *; omega)) (ok_goto 21 11 rfl rfl rfl ?_)
      refine ok_fg [some (vr c), some (vi b), some (vi _), some (vr c), some (vi 3), some (vi (i + 1)), none] ⟨rfl, rfl, rfl, rfl, rfl, rfl, trivial⟩ (ih _ (i + 1) ⟨by omega, by omega, ?_, by omega, by omega⟩ (by omega))
      rw [es]
      first | (rw [if_pos (by omega)]; omega) | (rw [if_neg (by omega)]; omega)
    · refine ok_inc2 19 rfl rfl rfl (by first | omega | (simp [up_if]; omega) | (simp [up_if] at *; omega)) (ok_inc5 20 rfl rfl rfl (by first | omega | (simp [up_if]; omega) | (simp [up_if] at *; omega)) (ok_goto 21 11 rfl rfl rfl ?_))
      refine ok_fg [some (vr c), some (vi b), some (vi _), some (vr c), some (vi 3), some (vi (i + 1)), none] ⟨rfl, rfl, rfl, rfl, rfl, rfl, trivial⟩ (ih _ (i + 1) ⟨by omega, by omega, ?_, by omega, by omega⟩ (by omega))
      rw [es]
      first | (rw [if_pos (by omega)]; omega) | (rw [if_neg (by omega)]; omega)
theorem t_Se_addWeight {σ : eS} {w : Int} (hC : iCh σ) (h0 : σ 17 0 < 3) (hw : 0 ≤ w) (hb : ∀ k, 0 ≤ k → k < 3 → (0 ≤ σ 28 k ∧ σ 28 k + w ≤ 799999992) ∧ (0 ≤ σ 29 k ∧ σ 29 k + w ≤ 799999992)) : MtV shA M_Se_addWeight [vr 25, vi w] σ (fun σ' => fr rgAW σ σ' ∧ adE (fun i => σ 17 i) (fun k => σ 28 k) (fun k => σ 29 k) (fun k => σ' 28 k) (fun k => σ' 29 k) w ∧ ∀ k, 0 ≤ k → k < 3 → (0 ≤ σ' 28 k ∧ σ' 28 k ≤ σ 28 k + w) ∧ (0 ≤ σ' 29 k ∧ σ' 29 k ≤ σ 29 k + w)) := by
  refine Mt.of okM_Se_addWeight (Nat.le_of_ble_eq_true rfl) (fun hk hg => ?_)
  have c0 := hC 0 (by decide) (by decide)
  have c1 := hC 1 (by decide) (by decide)
  have b0 := hb (σ 17 0) c0.1 h0
  refine ok_aload_n 0 rfl rfl rfl (ok_getR 1 rfl rfl fl_X7_27 rfl rfl (ok_getR 2 rfl rfl fl_X7_106 rfl rfl (ok_iconst 3 rfl rfl (by decide) (ok_iald 4 rfl rfl rfl (by first | omega | (simp [up_if]; omega) | (simp [up_if] at *; omega)) (ok_ist2 5 rfl rfl rfl (ok_iload_n 6 rfl rfl rfl (ok_iconst 7 rfl rfl (by decide) (ok_icmp_ge 8 55 rfl rfl rfl (fun h12 => ?_) (fun h12 => ?_)))))))))
  · exfalso; omega
  · refine ok_aload_n 9 rfl rfl rfl (ok_getR 10 rfl rfl fl_X7_27 rfl rfl (ok_getR 11 rfl rfl fl_X7_106 rfl rfl (ok_iconst 12 rfl rfl (by decide) (ok_iald 13 rfl rfl rfl (by first | omega | (simp [up_if]; omega) | (simp [up_if] at *; omega)) (ok_iload_n 14 rfl rfl rfl (ok_iconst 15 rfl rfl (by decide) (ok_iadd 16 rfl rfl (by first | omega | (simp [up_if]; omega) | (simp [up_if] at *; omega)) (ok_iconst 17 rfl rfl (by decide) (ok_irem 18 rfl rfl (by first | omega | (simp [up_if]; omega) | (simp [up_if] at *; omega)) (by first | omega | (simp [up_if]; omega) | (simp [up_if] at *; omega)) (ok_icmp_ne 19 45 rfl rfl rfl (fun h29 => ?_) (fun h29 => ?_)))))))))))
    · refine ok_aload_n 29 rfl rfl rfl (ok_getR 30 rfl rfl fl_X7_24 rfl rfl (ok_iload_n 31 rfl rfl rfl (ok_dup2 32 rfl rfl ⟨rfl, rfl⟩ (ok_iald 33 rfl rfl rfl (by first | omega | (simp [up_if]; omega) | (simp [up_if] at *; omega)) (ok_iload_n 34 rfl rfl rfl (ok_iadd 35 rfl rfl (by first | omega | (simp [up_if]; omega) | (simp [up_if] at *; omega)) (ok_iast 36 rfl rfl rfl (by first | omega | (simp [up_if]; omega) | (simp [up_if] at *; omega)) (ok_vret 37 rfl rfl rfl ?_))))))))
      first
        | (refine ⟨rfl, fr_up fr.rf (by simp [rgAW]), Or.inl ⟨by (try dsimp only); omega, fun k a b => ?_, fun k a b => ?_⟩, fun k a b => ?_⟩
           · (try dsimp only); rw [up_if]; by_cases q : k = σ 17 0
             · rw [if_pos ⟨rfl, q⟩, if_pos q, q]
             · rw [if_neg (fun x => q x.2), if_neg q]
           · (try dsimp only); rw [up_if, if_neg (by omega)]
           · have := hb k a b
             rw [up_if, up_if, if_neg (show ¬ ((29 : Nat) = 28 ∧ k = σ 17 0) by omega)]
             by_cases q : k = σ 17 0
             · rw [if_pos ⟨rfl, q⟩, ← q]; omega
             · rw [if_neg (fun x => q x.2)]; omega)
        | (refine ⟨rfl, fr_up fr.rf (by simp [rgAW]), Or.inr ⟨by (try dsimp only); omega, fun k a b => ?_, fun k a b => ?_⟩, fun k a b => ?_⟩
           · (try dsimp only); rw [up_if]; by_cases q : k = σ 17 0
             · rw [if_pos ⟨rfl, q⟩, if_pos q, q]
             · rw [if_neg (fun x => q x.2), if_neg q]
           · (try dsimp only); rw [up_if, if_neg (by omega)]
           · have := hb k a b
             rw [up_if, up_if, if_neg (show ¬ ((28 : Nat) = 29 ∧ k = σ 17 0) by omega)]
             by_cases q : k = σ 17 0
             · rw [if_pos ⟨rfl, q⟩, ← q]; omega
             · rw [if_neg (fun x => q x.2)]; omega)
    · refine ok_aload_n 20 rfl rfl rfl (ok_getR 21 rfl rfl fl_X7_21 rfl rfl (ok_iload_n 22 rfl rfl rfl (ok_dup2 23 rfl rfl ⟨rfl, rfl⟩ (ok_iald 24 rfl rfl rfl (by first | omega | (simp [up_if]; omega) | (simp [up_if] at *; omega)) (ok_iload_n 25 rfl rfl rfl (ok_iadd 26 rfl rfl (by first | omega | (simp [up_if]; omega) | (simp [up_if] at *; omega)) (ok_iast 27 rfl rfl rfl (by first | omega | (simp [up_if]; omega) | (simp [up_if] at *; omega)) (ok_goto 28 55 rfl rfl rfl (ok_vret 37 rfl rfl rfl ?_)))))))))
      first
        | (refine ⟨rfl, fr_up fr.rf (by simp [rgAW]), Or.inl ⟨by (try dsimp only); omega, fun k a b => ?_, fun k a b => ?_⟩, fun k a b => ?_⟩
           · (try dsimp only); rw [up_if]; by_cases q : k = σ 17 0
             · rw [if_pos ⟨rfl, q⟩, if_pos q, q]
             · rw [if_neg (fun x => q x.2), if_neg q]
           · (try dsimp only); rw [up_if, if_neg (by omega)]
           · have := hb k a b
             rw [up_if, up_if, if_neg (show ¬ ((29 : Nat) = 28 ∧ k = σ 17 0) by omega)]
             by_cases q : k = σ 17 0
             · rw [if_pos ⟨rfl, q⟩, ← q]; omega
             · rw [if_neg (fun x => q x.2)]; omega)
        | (refine ⟨rfl, fr_up fr.rf (by simp [rgAW]), Or.inr ⟨by (try dsimp only); omega, fun k a b => ?_, fun k a b => ?_⟩, fun k a b => ?_⟩
           · (try dsimp only); rw [up_if]; by_cases q : k = σ 17 0
             · rw [if_pos ⟨rfl, q⟩, if_pos q, q]
             · rw [if_neg (fun x => q x.2), if_neg q]
           · (try dsimp only); rw [up_if, if_neg (by omega)]
           · have := hb k a b
             rw [up_if, up_if, if_neg (show ¬ ((28 : Nat) = 29 ∧ k = σ 17 0) by omega)]
             by_cases q : k = σ 17 0
             · rw [if_pos ⟨rfl, q⟩, ← q]; omega
             · rw [if_neg (fun x => q x.2)]; omega)
def cFI (n m : Int) (W0 : Int → Int → Int) (t : Nat) (σ ρ : eS) (k : Int) : Prop := (0 ≤ k ∧ k ≤ 64) ∧ fr rgSf σ ρ ∧ iCh ρ ∧ cSe σ ρ k ∧ (ρ 30 2 = n ∧ bd64 ρ 35 ∧ 0 ≤ ρ 30 3 ∧ ρ 30 3 ≤ m) ∧ EvW n (pk ρ 35) (ρ 30 3) ∧ k + np2 n (pk ρ 35) ≤ 64 ∧ (0 ≤ ρ 30 4 ∧ ρ 30 4 ≤ k) ∧ fwI n W0 (pk ρ 35) (ρ 30 4) (fun x => ρ 28 x) (fun x => ρ 29 x) ∧ ∀ x, 0 ≤ x → x < 3 → (0 ≤ ρ 28 x ∧ ρ 28 x ≤ m - ρ 30 3) ∧ (0 ≤ ρ 29 x ∧ ρ 29 x ≤ m - ρ 30 3)
theorem t_Se_countFewest {σ : eS} {t : Nat} {n m : Int} {W0 : Int → Int → Int} (ht : tA t) (hT : iT σ t) (hC : iCh σ) (hS : iSe σ) (hS2 : σ 16 3 + 64 < 2147483647) (en : σ t 1 = n) (hn : 1 ≤ n ∧ n ≤ 3) (em : σ t 3 = m) (hm : 1 ≤ m ∧ m ≤ 799999992) (eW : W0 = cT σ t) (he : EvW n W0 m) : MtI shA M_Se_countFewest [vr 25, vr t] σ (fun σ' z => fr rgSf σ σ' ∧ iCh σ' ∧ cSe σ σ' 64 ∧ fwS n W0 z) := by
  refine Mt.of okM_Se_countFewest (Nat.le_of_ble_eq_true rfl) (fun hk hg => ?_)
  have nA := tA_10 ht
  have hp : pP 30 35 := by unfold pP; omega
  have n8 : 1 ≤ n ∧ n ≤ 8 := ⟨hn.1, by omega⟩
  refine ok_aload_n 0 rfl rfl rfl (ok_getR 1 rfl rfl fl_X7_21 rfl rfl (ok_iconst 2 rfl rfl (by decide) (ok_callSV (M' := M_Ja_fill) (as := [_, _]) 3 rfl rfl ml_X7_77 (s_Ja_fill (c := 28) (N := 3) rfl (by decide)) ⟨Nat.le_of_ble_eq_true rfl, Nat.le_of_ble_eq_true rfl⟩ rfl (Nat.le_of_ble_eq_true rfl) (fun τ1 f1 => ?_))))
  refine ok_aload_n 4 rfl rfl rfl (ok_getR 5 rfl rfl fl_X7_24 rfl rfl (ok_iconst 6 rfl rfl (by decide) (ok_callSV (M' := M_Ja_fill) (as := [_, _]) 7 rfl rfl ml_X7_77 (s_Ja_fill (c := 29) (N := 3) rfl (by decide)) ⟨Nat.le_of_ble_eq_true rfl, Nat.le_of_ble_eq_true rfl⟩ rfl (Nat.le_of_ble_eq_true rfl) (fun τ2 f2 => ?_))))
  refine ok_aload_n 8 rfl rfl rfl (ok_getR 9 rfl rfl fl_X7_13 rfl rfl (ok_iconst 10 rfl rfl (by decide) (ok_aald 11 30 rfl rfl rfl (Or.inr rfl) (by omega) rfl (ok_ast2 12 rfl rfl rfl ?_))))
  have F : fr rgAW σ τ2 := (f1.1.mono (fun c k w => Or.inl w)).tr (f2.1.mono (fun c k w => Or.inr w))
  refine ok_aload_n 13 rfl rfl rfl (ok_aload_n 14 rfl rfl rfl (ok_callVV (M' := M_Pe_startTable) (as := [_]) 15 rfl rfl ml_X7_40 (t_Pe_startTable hp ht) rfl rfl (Nat.le_of_ble_eq_true rfl) ⟨Nat.le_of_ble_eq_true rfl, Nat.le_of_ble_eq_true rfl⟩ rfl (Nat.le_of_ble_eq_true rfl) (fun τ g => ?_)))
  refine ok_iconst 16 rfl rfl (by decide) (ok_ist3 17 rfl rfl rfl ?_)
  obtain ⟨g1, g2, g3, g4, g5⟩ := g
  rw [F t 1 (by simp only [rgAW]; omega), en] at g2
  rw [F t 3 (by simp only [rgAW]; omega), em] at g3
  have g6 : ∀ k, 0 ≤ k → k < 64 → τ 35 k = σ (t + 4) k := fun k a b => by rw [g5 k a b, F (t + 4) k (by simp only [rgAW]; omega)]
  have aW : ag n (pk τ 35) W0 := fun i j a b c d => by rw [eW]; exact g6 _ (by omega) (by omega)
  have z28 : ∀ x, 0 ≤ x → x < 3 → τ 28 x = 0 := fun x a b => by rw [g1 28 x (by simp only [rgP0]; omega), f2.1 28 x (by omega)]; exact f1.2 x a (by omega)
  have z29 : ∀ x, 0 ≤ x → x < 3 → τ 29 x = 0 := fun x a b => by rw [g1 29 x (by simp only [rgP0]; omega)]; exact f2.2 x a (by omega)
  have hE : EvW n (pk τ 35) m := ⟨fun i j a b c d => by rw [aW i j a b c d]; exact he.1 i j a b c d, fun i a b => by rw [← he.2.1 i a b]; exact sm_cg (fun j c d => aW i j a b c (by omega)), fun j a b => by rw [← he.2.2 j a b]; exact sm_cg (fun i c d => aW i j c (by omega) a b)⟩
  have h0 : fwI n W0 (pk τ 35) (τ 30 4) (fun x => τ 28 x) (fun x => τ 29 x) := by
    refine ⟨fun q => ?_, fun q => ?_, fun q => ?_⟩
    · subst q
      have r0 : 0 + pk τ 35 0 0 = m := hE.2.1 0 (by decide) (by decide)
      rw [g4, if_pos (by omega)]; rfl
    · subst q
      rw [g4, aW 0 0 (by decide) (by decide) (by decide) (by decide), aW 0 1 (by decide) (by decide) (by decide) (by decide)]; omega
    · subst q
      unfold eoI
      (try dsimp only)
      rw [z28 0 (by decide) (by decide), z28 1 (by decide) (by decide), z28 2 (by decide) (by decide), z29 0 (by decide) (by decide), z29 1 (by decide) (by decide), z29 2 (by decide) (by decide)]
      have k00 := aW 0 0 (by decide) (by decide) (by decide) (by decide)
      have k01 := aW 0 1 (by decide) (by decide) (by decide) (by decide)
      have k02 := aW 0 2 (by decide) (by decide) (by decide) (by decide)
      have k10 := aW 1 0 (by decide) (by decide) (by decide) (by decide)
      have k11 := aW 1 1 (by decide) (by decide) (by decide) (by decide)
      have k12 := aW 1 2 (by decide) (by decide) (by decide) (by decide)
      have k20 := aW 2 0 (by decide) (by decide) (by decide) (by decide)
      have k21 := aW 2 1 (by decide) (by decide) (by decide) (by decide)
      have k22 := aW 2 2 (by decide) (by decide) (by decide) (by decide)
      exact ⟨by omega, by omega, by omega, by omega, by omega, by omega, by omega, by omega, by omega⟩
  have hb0 : bd64 τ 35 := fun k a b => by have := hT.2.2.2 k a b; rw [g6 k a b]; omega
  have e16 : τ 16 3 = σ 16 3 := by rw [g1 16 3 (by simp only [rgP0]; omega), F 16 3 (by simp only [rgAW]; omega)]
  have e19 : ∀ k, τ 19 k = σ 19 k := fun k => by rw [g1 19 k (by simp only [rgP0]; omega), F 19 k (by simp only [rgAW]; omega)]
  have hC0 : iCh τ := iCh_cg hC (fun k => by rw [g1 17 k (by simp only [rgP0]; omega), F 17 k (by simp only [rgAW]; omega)])
  have hnp := np2_bd ⟨by omega, n8.2⟩ (pk τ 35)
  refine lpO2 (fun (k : Int) (_ : eS) => [some (vr 25), some (vr t), some (vr 30), some (vi k), none]) (fun _ ρ => ρ) (fun k ρ => cFI n m W0 t σ ρ k) (fun k _ => (64 - k).toNat) ?_ 0 τ ⟨⟨by omega, by omega⟩, (F.mono (fun c k w => by simp only [rgAW, rgSf] at w ⊢; omega)).tr (g1.mono (fun c k w => by simp only [rgP0, rgSf] at w ⊢; omega)), hC0, ⟨iSe_cg hS e16 e19, by omega, by omega⟩, ⟨g2, hb0, by omega, by omega⟩, by rw [g3]; exact hE, by omega, ⟨by omega, by omega⟩, h0, fun x a b => by rw [z28 x a b, z29 x a b, g3]; omega⟩
  clear h0 hb0 e16 e19 hC0 hnp hE z28 z29 aW g1 g2 g3 g4 g5 g6 τ F f1 f2 τ1 τ2
  rintro k ρ ⟨⟨k1, k2⟩, f, c1, ⟨s1, s2, s3⟩, ⟨c2, c3, c4, c5⟩, c6, c7, c8, c9, cE⟩ ih
  have fin : k = 64 ∨ ρ 30 3 ≤ 0 → nil0 n (pk ρ 35) := fun q => by
    by_cases y : 1 ≤ ρ 30 3
    · have := np2_pos n8 c6 y
      omega
    · rw [show ρ 30 3 = 0 by omega] at c6
      exact EvW_0 c6
  have rt : ρ t 1 = n := by rw [f t 1 (by simp only [rgSf]; omega), en]
  refine ok_iload_n 18 rfl rfl rfl (ok_bipush 19 rfl rfl (by decide) (by decide) (ok_icmp_ge 20 62 rfl rfl rfl (fun h33 => ?_) (fun h33 => ?_)))
  · refine ok_aload_n 33 rfl rfl rfl (ok_getI 34 rfl rfl fl_X7_89 (sT ht) rfl (Or.inl rfl) (ok_iconst 35 rfl rfl (by decide) (ok_icmp_ge 36 75 rfl rfl rfl (fun h67 => ?_) (fun h67 => ?_))))
    · have n3 : n = 3 := by omega
      have nl := fin (by omega)
      refine ok_aload_n 40 rfl rfl rfl (ok_getR 41 rfl rfl fl_X7_21 rfl rfl (ok_callSI (M' := M_Se_leastOf) (as := [_]) 42 rfl rfl ml_X7_92 (t_Se_leastOf (c := 28) rfl) ⟨Nat.le_of_ble_eq_true rfl, Nat.le_of_ble_eq_true rfl⟩ rfl (Nat.le_of_ble_eq_true rfl) (fun σ' z1 x1 => ?_)))
      obtain ⟨hs_, x1⟩ := x1
      rw [hs_]; clear hs_ σ'
      refine ok_ist3 43 rfl rfl rfl (ok_aload_n 44 rfl rfl rfl (ok_getR 45 rfl rfl fl_X7_24 rfl rfl (ok_callSI (M' := M_Se_leastOf) (as := [_]) 46 rfl rfl ml_X7_92 (t_Se_leastOf (c := 29) rfl) ⟨Nat.le_of_ble_eq_true rfl, Nat.le_of_ble_eq_true rfl⟩ rfl (Nat.le_of_ble_eq_true rfl) (fun σ' z2 x2 => ?_))))
      obtain ⟨hs_, x2⟩ := x2
      rw [hs_]; clear hs_ σ'
      have y1 : 0 ≤ z1 ∧ z1 ≤ 799999992 := by
        have a0 := cE 0 (by decide) (by decide)
        have a1 := cE 1 (by decide) (by decide)
        have a2 := cE 2 (by decide) (by decide)
        have := x1.2
        omega
      have y2 : 0 ≤ z2 ∧ z2 ≤ 799999992 := by
        have a0 := cE 0 (by decide) (by decide)
        have a1 := cE 1 (by decide) (by decide)
        have a2 := cE 2 (by decide) (by decide)
        have := x2.2
        omega
      refine ok_ist4 47 rfl rfl rfl (ok_aload_n 48 rfl rfl rfl (ok_getR 49 rfl rfl fl_X7_21 rfl rfl (ok_iload_n 50 rfl rfl rfl (ok_callSI (M' := M_Se_countAbove) (as := [_, _]) 51 rfl rfl ml_X7_96 (t_Se_countAbove (c := 28) rfl) ⟨Nat.le_of_ble_eq_true rfl, Nat.le_of_ble_eq_true rfl⟩ rfl (Nat.le_of_ble_eq_true rfl) (fun σ' z3 x3 => ?_)))))
      obtain ⟨hs_, x3⟩ := x3
      rw [hs_]; clear hs_ σ'
      refine ok_aload_n 52 rfl rfl rfl (ok_getR 53 rfl rfl fl_X7_24 rfl rfl (ok_iload_n 54 rfl rfl rfl (ok_ineg 55 rfl rfl (by first | omega | (simp [up_if]; omega) | (simp [up_if] at *; omega)) (ok_callSI (M' := M_Se_countAbove) (as := [_, _]) 56 rfl rfl ml_X7_96 (t_Se_countAbove (c := 29) rfl) ⟨Nat.le_of_ble_eq_true rfl, Nat.le_of_ble_eq_true rfl⟩ rfl (Nat.le_of_ble_eq_true rfl) (fun σ' z4 x4 => ?_)))))
      obtain ⟨hs_, x4⟩ := x4
      rw [hs_]; clear hs_ σ'
      refine ok_iadd 57 rfl rfl (by first | omega | (simp [up_if]; omega) | (simp [up_if] at *; omega)) (ok_aload_n 58 rfl rfl rfl (ok_getR 59 rfl rfl fl_X7_21 rfl rfl (ok_iload 60 rfl rfl rfl (ok_ineg 61 rfl rfl (by first | omega | (simp [up_if]; omega) | (simp [up_if] at *; omega)) (ok_callSI (M' := M_Se_countAbove) (as := [_, _]) 62 rfl rfl ml_X7_96 (t_Se_countAbove (c := 28) rfl) ⟨Nat.le_of_ble_eq_true rfl, Nat.le_of_ble_eq_true rfl⟩ rfl (Nat.le_of_ble_eq_true rfl) (fun σ' z5 x5 => ?_))))))
      obtain ⟨hs_, x5⟩ := x5
      rw [hs_]; clear hs_ σ'
      refine ok_aload_n 63 rfl rfl rfl (ok_getR 64 rfl rfl fl_X7_24 rfl rfl (ok_iload 65 rfl rfl rfl (ok_callSI (M' := M_Se_countAbove) (as := [_, _]) 66 rfl rfl ml_X7_96 (t_Se_countAbove (c := 29) rfl) ⟨Nat.le_of_ble_eq_true rfl, Nat.le_of_ble_eq_true rfl⟩ rfl (Nat.le_of_ble_eq_true rfl) (fun σ' z6 x6 => ?_))))
      obtain ⟨hs_, x6⟩ := x6
      rw [hs_]; clear hs_ σ'
      refine ok_iadd 67 rfl rfl (by first | omega | (simp [up_if]; omega) | (simp [up_if] at *; omega)) (ok_mmin 68 rfl rfl ml_X7_100 ⟨Nat.le_of_ble_eq_true rfl, Nat.le_of_ble_eq_true rfl⟩ (ok_iret 69 rfl rfl rfl ?_))
      refine ⟨_, rfl, f, c1, ⟨s1, s2, by omega⟩, Or.inr (Or.inr ⟨n3, ?_⟩)⟩
      have eo := c9.2.2 n3
      have eo0 : eoI W0 (fun _ _ => 0) (fun x => ρ 28 x) (fun x => ρ 29 x) := by
        have q : ∀ i j, 0 ≤ i → i < 3 → 0 ≤ j → j < 3 → pk ρ 35 i j = 0 := fun i j a b c d => by
          have h1 := nl i j a (by omega) c (by omega)
          have h2 := c6.1 i j a (by omega) c (by omega)
          omega
        unfold eoI at eo ⊢
        rw [q 0 0 (by decide) (by decide) (by decide) (by decide), q 0 1 (by decide) (by decide) (by decide) (by decide), q 0 2 (by decide) (by decide) (by decide) (by decide), q 1 0 (by decide) (by decide) (by decide) (by decide), q 1 1 (by decide) (by decide) (by decide) (by decide), q 1 2 (by decide) (by decide) (by decide) (by decide), q 2 0 (by decide) (by decide) (by decide) (by decide), q 2 1 (by decide) (by decide) (by decide) (by decide), q 2 2 (by decide) (by decide) (by decide) (by decide)] at eo
        exact eo
      have fe := fw_end (p := z1) (q := z2) eo0 (fun k a b => ⟨x1.1 k a b, x2.1 k a b⟩) x1.2 x2.2 (fun k a b => ⟨(cE k a b).1.1, (cE k a b).2.1⟩)
      have e1 : cX (fun x => ρ 28 x) (fun x => ρ 29 x) z1 = z3 + z4 := by rw [x3.1, x4.1]; rfl
      have e2 : cX (fun x => ρ 28 x) (fun x => ρ 29 x) (-z2) = z5 + z6 := by rw [x5.1, x6.1]; unfold cX; rw [Int.neg_neg]
      rw [e1, e2] at fe
      exact fe
    · refine ok_aload_n 37 rfl rfl rfl (ok_getI 38 rfl rfl fl_X7_71 rfl rfl (Or.inl rfl) (ok_iret 39 rfl rfl rfl ?_))
      have nl := fin (by omega)
      refine ⟨_, rfl, f, c1, ⟨s1, s2, by omega⟩, ?_⟩
      rcases (by omega : n = 1 ∨ n = 2) with q | q
      · refine Or.inl ⟨q, ?_⟩
        have a1 := c9.1 q
        have a2 := nl 0 0 (by omega) (by omega) (by omega) (by omega)
        rw [if_neg (by omega)] at a1
        omega
      · refine Or.inr (Or.inl ⟨q, ?_⟩)
        have a1 := c9.2.1 q
        have a2 := nl 0 0 (by omega) (by omega) (by omega) (by omega)
        have a3 := nl 0 1 (by omega) (by omega) (by omega) (by omega)
        rw [if_neg (by omega), if_neg (by omega)] at a1
        omega
  · refine ok_aload_n 21 rfl rfl rfl (ok_getI 22 rfl rfl fl_X7_60 rfl rfl (Or.inl rfl) (ok_if_le 23 62 rfl rfl rfl (fun h40 => ?_) (fun h40 => ?_)))
    · refine ok_aload_n 33 rfl rfl rfl (ok_getI 34 rfl rfl fl_X7_89 (sT ht) rfl (Or.inl rfl) (ok_iconst 35 rfl rfl (by decide) (ok_icmp_ge 36 75 rfl rfl rfl (fun h67 => ?_) (fun h67 => ?_))))
      · have n3 : n = 3 := by omega
        have nl := fin (by omega)
        refine ok_aload_n 40 rfl rfl rfl (ok_getR 41 rfl rfl fl_X7_21 rfl rfl (ok_callSI (M' := M_Se_leastOf) (as := [_]) 42 rfl rfl ml_X7_92 (t_Se_leastOf (c := 28) rfl) ⟨Nat.le_of_ble_eq_true rfl, Nat.le_of_ble_eq_true rfl⟩ rfl (Nat.le_of_ble_eq_true rfl) (fun σ' z1 x1 => ?_)))
        obtain ⟨hs_, x1⟩ := x1
        rw [hs_]; clear hs_ σ'
        refine ok_ist3 43 rfl rfl rfl (ok_aload_n 44 rfl rfl rfl (ok_getR 45 rfl rfl fl_X7_24 rfl rfl (ok_callSI (M' := M_Se_leastOf) (as := [_]) 46 rfl rfl ml_X7_92 (t_Se_leastOf (c := 29) rfl) ⟨Nat.le_of_ble_eq_true rfl, Nat.le_of_ble_eq_true rfl⟩ rfl (Nat.le_of_ble_eq_true rfl) (fun σ' z2 x2 => ?_))))
        obtain ⟨hs_, x2⟩ := x2
        rw [hs_]; clear hs_ σ'
        have y1 : 0 ≤ z1 ∧ z1 ≤ 799999992 := by
          have a0 := cE 0 (by decide) (by decide)
          have a1 := cE 1 (by decide) (by decide)
          have a2 := cE 2 (by decide) (by decide)
          have := x1.2
          omega
        have y2 : 0 ≤ z2 ∧ z2 ≤ 799999992 := by
          have a0 := cE 0 (by decide) (by decide)
          have a1 := cE 1 (by decide) (by decide)
          have a2 := cE 2 (by decide) (by decide)
          have := x2.2
          omega
        refine ok_ist4 47 rfl rfl rfl (ok_aload_n 48 rfl rfl rfl (ok_getR 49 rfl rfl fl_X7_21 rfl rfl (ok_iload_n 50 rfl rfl rfl (ok_callSI (M' := M_Se_countAbove) (as := [_, _]) 51 rfl rfl ml_X7_96 (t_Se_countAbove (c := 28) rfl) ⟨Nat.le_of_ble_eq_true rfl, Nat.le_of_ble_eq_true rfl⟩ rfl (Nat.le_of_ble_eq_true rfl) (fun σ' z3 x3 => ?_)))))
        obtain ⟨hs_, x3⟩ := x3
        rw [hs_]; clear hs_ σ'
        refine ok_aload_n 52 rfl rfl rfl (ok_getR 53 rfl rfl fl_X7_24 rfl rfl (ok_iload_n 54 rfl rfl rfl (ok_ineg 55 rfl rfl (by first | omega | (simp [up_if]; omega) | (simp [up_if] at *; omega)) (ok_callSI (M' := M_Se_countAbove) (as := [_, _]) 56 rfl rfl ml_X7_96 (t_Se_countAbove (c := 29) rfl) ⟨Nat.le_of_ble_eq_true rfl, Nat.le_of_ble_eq_true rfl⟩ rfl (Nat.le_of_ble_eq_true rfl) (fun σ' z4 x4 => ?_)))))
        obtain ⟨hs_, x4⟩ := x4
        rw [hs_]; clear hs_ σ'
        refine ok_iadd 57 rfl rfl (by first | omega | (simp [up_if]; omega) | (simp [up_if] at *; omega)) (ok_aload_n 58 rfl rfl rfl (ok_getR 59 rfl rfl fl_X7_21 rfl rfl (ok_iload 60 rfl rfl rfl (ok_ineg 61 rfl rfl (by first | omega | (simp [up_if]; omega) | (simp [up_if] at *; omega)) (ok_callSI (M' := M_Se_countAbove) (as := [_, _]) 62 rfl rfl ml_X7_96 (t_Se_countAbove (c := 28) rfl) ⟨Nat.le_of_ble_eq_true rfl, Nat.le_of_ble_eq_true rfl⟩ rfl (Nat.le_of_ble_eq_true rfl) (fun σ' z5 x5 => ?_))))))
        obtain ⟨hs_, x5⟩ := x5
        rw [hs_]; clear hs_ σ'
        refine ok_aload_n 63 rfl rfl rfl (ok_getR 64 rfl rfl fl_X7_24 rfl rfl (ok_iload 65 rfl rfl rfl (ok_callSI (M' := M_Se_countAbove) (as := [_, _]) 66 rfl rfl ml_X7_96 (t_Se_countAbove (c := 29) rfl) ⟨Nat.le_of_ble_eq_true rfl, Nat.le_of_ble_eq_true rfl⟩ rfl (Nat.le_of_ble_eq_true rfl) (fun σ' z6 x6 => ?_))))
        obtain ⟨hs_, x6⟩ := x6
        rw [hs_]; clear hs_ σ'
        refine ok_iadd 67 rfl rfl (by first | omega | (simp [up_if]; omega) | (simp [up_if] at *; omega)) (ok_mmin 68 rfl rfl ml_X7_100 ⟨Nat.le_of_ble_eq_true rfl, Nat.le_of_ble_eq_true rfl⟩ (ok_iret 69 rfl rfl rfl ?_))
        refine ⟨_, rfl, f, c1, ⟨s1, s2, by omega⟩, Or.inr (Or.inr ⟨n3, ?_⟩)⟩
        have eo := c9.2.2 n3
        have eo0 : eoI W0 (fun _ _ => 0) (fun x => ρ 28 x) (fun x => ρ 29 x) := by
          have q : ∀ i j, 0 ≤ i → i < 3 → 0 ≤ j → j < 3 → pk ρ 35 i j = 0 := fun i j a b c d => by
            have h1 := nl i j a (by omega) c (by omega)
            have h2 := c6.1 i j a (by omega) c (by omega)
            omega
          unfold eoI at eo ⊢
          rw [q 0 0 (by decide) (by decide) (by decide) (by decide), q 0 1 (by decide) (by decide) (by decide) (by decide), q 0 2 (by decide) (by decide) (by decide) (by decide), q 1 0 (by decide) (by decide) (by decide) (by decide), q 1 1 (by decide) (by decide) (by decide) (by decide), q 1 2 (by decide) (by decide) (by decide) (by decide), q 2 0 (by decide) (by decide) (by decide) (by decide), q 2 1 (by decide) (by decide) (by decide) (by decide), q 2 2 (by decide) (by decide) (by decide) (by decide)] at eo
          exact eo
        have fe := fw_end (p := z1) (q := z2) eo0 (fun k a b => ⟨x1.1 k a b, x2.1 k a b⟩) x1.2 x2.2 (fun k a b => ⟨(cE k a b).1.1, (cE k a b).2.1⟩)
        have e1 : cX (fun x => ρ 28 x) (fun x => ρ 29 x) z1 = z3 + z4 := by rw [x3.1, x4.1]; rfl
        have e2 : cX (fun x => ρ 28 x) (fun x => ρ 29 x) (-z2) = z5 + z6 := by rw [x5.1, x6.1]; unfold cX; rw [Int.neg_neg]
        rw [e1, e2] at fe
        exact fe
      · refine ok_aload_n 37 rfl rfl rfl (ok_getI 38 rfl rfl fl_X7_71 rfl rfl (Or.inl rfl) (ok_iret 39 rfl rfl rfl ?_))
        have nl := fin (by omega)
        refine ⟨_, rfl, f, c1, ⟨s1, s2, by omega⟩, ?_⟩
        rcases (by omega : n = 1 ∨ n = 2) with q | q
        · refine Or.inl ⟨q, ?_⟩
          have a1 := c9.1 q
          have a2 := nl 0 0 (by omega) (by omega) (by omega) (by omega)
          rw [if_neg (by omega)] at a1
          omega
        · refine Or.inr (Or.inl ⟨q, ?_⟩)
          have a1 := c9.2.1 q
          have a2 := nl 0 0 (by omega) (by omega) (by omega) (by omega)
          have a3 := nl 0 1 (by omega) (by omega) (by omega) (by omega)
          rw [if_neg (by omega), if_neg (by omega)] at a1
          omega
    · refine ok_aload_n 24 rfl rfl rfl (ok_iconst 25 rfl rfl (by decide) (ok_callVV (M' := M_Pe_takePart) (as := [_]) 26 rfl rfl ml_X7_63 (t_Pe_takePart (p := 30) (q := 35) (m := ρ 30 3) hp ⟨by decide, by decide⟩ (by rw [c2]; exact n8) c3 rfl ⟨by omega, by omega⟩ (by rw [c2]; exact c6) c1 s1 (by omega)) rfl rfl (Nat.le_of_ble_eq_true rfl) ⟨Nat.le_of_ble_eq_true rfl, Nat.le_of_ble_eq_true rfl⟩ rfl (Nat.le_of_ble_eq_true rfl) (fun υ u => ?_)))
      obtain ⟨u1, u2, ⟨u3, u4, u5⟩, u6, u7, u8, u9⟩ := u
      rw [c2] at u9
      obtain ⟨w1, w2, w3, w4⟩ := stp_ev n8 c6 u9
      have hpc := (chS_ps n8 u9.1).1.1 0 (by decide) (by omega)
      have v28 : ∀ x, υ 28 x = ρ 28 x := fun x => u1 28 x (by simp only [rgPe]; omega)
      have v29 : ∀ x, υ 29 x = ρ 29 x := fun x => u1 29 x (by simp only [rgPe]; omega)
      refine ok_aload_n 27 rfl rfl rfl (ok_aload_n 28 rfl rfl rfl (ok_getI 29 rfl rfl fl_X7_83 rfl rfl (Or.inl rfl) (ok_callVV (M' := M_Se_addWeight) (as := [_]) 30 rfl rfl ml_X7_86 (t_Se_addWeight u2 (by (try dsimp only at hpc); omega) (by omega) (fun x a b => by have := cE x a b; rw [v28, v29]; omega)) rfl rfl (Nat.le_of_ble_eq_true rfl) ⟨Nat.le_of_ble_eq_true rfl, Nat.le_of_ble_eq_true rfl⟩ rfl (Nat.le_of_ble_eq_true rfl) (fun ω v => ?_))))
      obtain ⟨v1, v2, v3⟩ := v
      refine ok_inc3 31 rfl rfl rfl (by first | omega | (simp [up_if]; omega) | (simp [up_if] at *; omega)) (ok_goto 32 30 rfl rfl rfl ?_)
      have o30 : ∀ x, ω 30 x = υ 30 x := fun x => v1 30 x (by simp only [rgAW]; omega)
      have o35 : pk ω 35 = pk υ 35 := by funext i j; exact v1 35 _ (by simp only [rgAW]; omega)
      have o16 : ω 16 3 = υ 16 3 := v1 16 3 (by simp only [rgAW]; omega)
      have o19 : ∀ x, ω 19 x = υ 19 x := fun x => v1 19 x (by simp only [rgAW]; omega)
      have o4 : ω 30 4 = ρ 30 4 + 1 := by rw [o30, u8, wr_id ⟨by omega, by omega⟩]
      have o3 : ω 30 3 = ρ 30 3 - υ 30 5 := by rw [o30, u7]
      refine ih (k + 1) ω ⟨⟨by omega, by omega⟩, (f.tr (u1.mono (fun c k w => by simp only [rgPe, rgSf] at w ⊢; omega))).tr (v1.mono (fun c k w => by simp only [rgAW, rgSf] at w ⊢; omega)), iCh_cg u2 (fun k => v1 17 k (by simp [rgAW])), ⟨iSe_cg u3 o16 o19, by omega, by omega⟩, ⟨by rw [o30, u1 30 2 (by simp only [rgPe]; omega), c2], fun x a b => by rw [v1 35 x (by simp only [rgAW]; omega)]; exact u6 x a b, by omega, by omega⟩, by rw [o35, o3]; exact w3, by rw [o35]; omega, ⟨by omega, by omega⟩, ?_, fun x a b => ?_⟩ (by omega)
      · rw [o35, o4]
        refine fwI_s hn c6 c9 u9 (fun _ => ?_)
        have v2' := v2
        simp only [v28, v29] at v2'
        exact v2'
      · have y1 := v3 x a b
        have y2 := cE x a b
        rw [v28, v29] at y1
        omega
theorem gpV_bd {n : Int} {W : Int → Int → Int} (hn : 0 ≤ n ∧ n ≤ 8) : 0 ≤ gpV n W ∧ gpV n W ≤ 16 := by
  have a := sm_bd (f := fun r => ind (newR n W r)) (B := 1) (by decide) (n := n.toNat) (fun k _ _ => ind_bd _)
  have b := sm_bd (f := fun j => ind (lonC n W j)) (B := 1) (by decide) (n := n.toNat) (fun k _ _ => ind_bd _)
  unfold gpV
  omega
def boS (E : Prop) (n : Int) (W : Int → Int → Int) (w z : Int) : Prop := (¬ (E ∧ (w = 0 ∨ (w = 1 ∧ n ≤ 3))) ∧ z = -1) ∨ (E ∧ w = 0 ∧ z = cnV n W - 2 * n + gpV n W + 1) ∨ (E ∧ w = 1 ∧ n ≤ 3 ∧ fwS n W z)
theorem boS_un {E E' : Prop} {n n' w z z' : Int} {W V : Int → Int → Int} (hE : E ↔ E') (e : E → n = n' ∧ ag n W V) (h : boS E n W w z) (g : boS E' n' V w z') : z = z' := by
  rcases h with ⟨a, h⟩ | ⟨a, a1, h⟩ | ⟨a, a1, a2, h⟩
  · rcases g with ⟨b, g⟩ | ⟨b, b1, g⟩ | ⟨b, b1, b2, g⟩
    · omega
    · exact absurd ⟨hE.mpr b, Or.inl b1⟩ a
    · exact absurd ⟨hE.mpr b, Or.inr ⟨b1, by rw [(e (hE.mpr b)).1]; exact b2⟩⟩ a
  · obtain ⟨e1, e2⟩ := e a
    subst e1
    rcases g with ⟨b, g⟩ | ⟨b, b1, g⟩ | ⟨b, b1, b2, g⟩
    · exact absurd ⟨hE.mp a, Or.inl a1⟩ b
    · rw [h, g, cnV_cg e2, gpV_cg e2]
    · omega
  · obtain ⟨e1, e2⟩ := e a
    subst e1
    rcases g with ⟨b, g⟩ | ⟨b, b1, g⟩ | ⟨b, b1, b2, g⟩
    · exact absurd ⟨hE.mp a, Or.inr ⟨a1, a2⟩⟩ b
    · omega
    · exact fwS_un e2 h g
theorem t_Ev_bound {σ : eS} {s w : Int} (h : IA σ) (hS : iSe σ) (hS2 : σ 16 3 + 64 < 2147483647) : MtI shA M_Ev_bound [vr 0, vi s, vi w] σ (fun σ' z => QA σ σ' ∧ boS (evA σ s) (σ (s.toNat + 2) 1) (cT σ (s.toNat + 2)) w z) := by
  refine Mt.of okM_Ev_bound (Nat.le_of_ble_eq_true rfl) (fun hk hg => ?_)
  refine ok_aload_n 0 rfl rfl rfl (ok_iload_n 1 rfl rfl rfl (ok_callVR (M' := M_Ev_evenSlot) (as := [_]) 2 rfl rfl ml_X11_163 (s_Ev_evenSlot) rfl rfl (Nat.le_of_ble_eq_true rfl) ⟨Nat.le_of_ble_eq_true rfl, Nat.le_of_ble_eq_true rfl⟩ rfl (Nat.le_of_ble_eq_true rfl) (fun σ' z hz => ?_)))
  obtain ⟨hs_, hz⟩ := hz
  rw [hs_]; clear hs_ σ'
  rcases hz with ⟨q, q0⟩ | ⟨q1, q2, q, q3⟩
  · subst q
    refine ok_ast3 3 rfl rfl rfl (ok_aload_n 4 rfl rfl rfl (ok_ifnonnullN 5 rfl rfl (ok_iconst 6 rfl rfl (by decide) (ok_iret 7 rfl rfl rfl ?_))))
    exact ⟨_, rfl, QA_rf h, Or.inl ⟨fun c => q0 c.1, rfl⟩⟩
  · subst q
    have ht := sl_tA ⟨q1, q2⟩
    have nA := tA_10 ht
    obtain ⟨hT, hM⟩ := h.2.1 _ ht
    have hb := mT_bd hT hM q3
    have m1 := hT.1
    have m2 := hT.2.1
    obtain ⟨v1, v2⟩ : evT σ (s.toNat + 2) ∧ σ (s.toNat + 2) 3 = rowT σ (s.toNat + 2) 0 := by
      rcases hM with q | q
      · exact absurd q.1 q3
      · exact q
    have hev := evT_ev hT v1
    rw [← v2] at hev
    have v3 := v1.1
    have v4 := v1.2.1
    have hE : evA σ s := ⟨q1, q2, q3⟩
    have cb := cnV_bd (W := cT σ (s.toNat + 2)) ⟨m1, m2⟩
    refine ok_ast3 3 rfl rfl rfl (ok_aload_n 4 rfl rfl rfl (ok_ifnonnull 5 12 rfl rfl rfl (ok_iload_n 8 rfl rfl rfl (ok_if_ne 9 43 rfl rfl rfl (fun h13 => ?_) (fun h13 => ?_)))))
    · refine ok_iload_n 27 rfl rfl rfl (ok_iconst 28 rfl rfl (by decide) (ok_icmp_ne 29 67 rfl rfl rfl (fun h45 => ?_) (fun h45 => ?_)))
      · refine ok_iconst 39 rfl rfl (by decide) (ok_iret 40 rfl rfl rfl ?_)
        first
          | exact ⟨_, rfl, QA_rf h, Or.inl ⟨fun c => by have := c.2; omega, rfl⟩⟩
          | (obtain ⟨f1, f2, f3, f4⟩ := f
             exact ⟨_, rfl, QA_B h (f1.mono (fun c k w => by simp only [rgSf] at w; omega)) f2 (fun _ _ => ⟨f3.1, f3.2.1, by have := f3.2.2; omega⟩), Or.inr (Or.inr ⟨hE, by omega, by omega, f4⟩)⟩)
      · refine ok_aload_n 30 rfl rfl rfl (ok_getI 31 rfl rfl fl_X11_103 (sT ht) rfl (Or.inl rfl) (ok_iconst 32 rfl rfl (by decide) (ok_icmp_gt 33 67 rfl rfl rfl (fun h53 => ?_) (fun h53 => ?_))))
        · refine ok_iconst 39 rfl rfl (by decide) (ok_iret 40 rfl rfl rfl ?_)
          first
            | exact ⟨_, rfl, QA_rf h, Or.inl ⟨fun c => by have := c.2; omega, rfl⟩⟩
            | (obtain ⟨f1, f2, f3, f4⟩ := f
               exact ⟨_, rfl, QA_B h (f1.mono (fun c k w => by simp only [rgSf] at w; omega)) f2 (fun _ _ => ⟨f3.1, f3.2.1, by have := f3.2.2; omega⟩), Or.inr (Or.inr ⟨hE, by omega, by omega, f4⟩)⟩)
        · refine ok_aload_n 34 rfl rfl rfl (ok_getR 35 rfl rfl fl_X11_55 rfl rfl (ok_aload_n 36 rfl rfl rfl (ok_callVI (M' := M_Se_countFewest) (as := [_]) 37 rfl rfl ml_X11_205 (t_Se_countFewest ht hT h.2.2.1 hS hS2 rfl ⟨by omega, by omega⟩ rfl ⟨by omega, by omega⟩ rfl hev) rfl rfl (Nat.le_of_ble_eq_true rfl) ⟨Nat.le_of_ble_eq_true rfl, Nat.le_of_ble_eq_true rfl⟩ rfl (Nat.le_of_ble_eq_true rfl) (fun τ z4 f => ?_))))
          refine ok_goto 38 68 rfl rfl rfl (ok_iret 40 rfl rfl rfl ?_)
          first
            | exact ⟨_, rfl, QA_rf h, Or.inl ⟨fun c => by have := c.2; omega, rfl⟩⟩
            | (obtain ⟨f1, f2, f3, f4⟩ := f
               exact ⟨_, rfl, QA_B h (f1.mono (fun c k w => by simp only [rgSf] at w; omega)) f2 (fun _ _ => ⟨f3.1, f3.2.1, by have := f3.2.2; omega⟩), Or.inr (Or.inr ⟨hE, by omega, by omega, f4⟩)⟩)
    · refine ok_aload_n 10 rfl rfl rfl (ok_callVI (M' := M_Ta_countAbove0) (as := []) 11 rfl rfl ml_X11_112 (t_Ta_countAbove0 ht hT) (sT ht) rfl (Nat.le_of_ble_eq_true rfl) ⟨Nat.le_of_ble_eq_true rfl, Nat.le_of_ble_eq_true rfl⟩ rfl (Nat.le_of_ble_eq_true rfl) (fun σ' z1 x1 => ?_))
      obtain ⟨hs_, x1⟩ := x1
      rw [hs_]; clear hs_ σ'
      refine ok_iconst 12 rfl rfl (by decide) (ok_aload_n 13 rfl rfl rfl (ok_getI 14 rfl rfl fl_X11_103 (sT ht) rfl (Or.inl rfl) (ok_imul 15 rfl rfl (by first | omega | (simp [up_if]; omega) | (simp [up_if] at *; omega)) (ok_isub 16 rfl rfl (by first | omega | (simp [up_if]; omega) | (simp [up_if] at *; omega)) (ok_aload_n 17 rfl rfl rfl (ok_iconst 18 rfl rfl (by decide) (ok_callVL (M' := M_Ta_joinedBy) (as := [_]) 19 rfl rfl ml_X11_119 (t_Ta_joinedBy ht hT) (sT ht) rfl (Nat.le_of_ble_eq_true rfl) ⟨Nat.le_of_ble_eq_true rfl, Nat.le_of_ble_eq_true rfl⟩ rfl (Nat.le_of_ble_eq_true rfl) (fun σ' z2 x2 => ?_))))))))
      obtain ⟨hs_, x2⟩ := x2
      rw [hs_]; clear hs_ σ'
      refine ok_aload_n 20 rfl rfl rfl (ok_getI 21 rfl rfl fl_X11_103 (sT ht) rfl (Or.inl rfl) (ok_callSI (M' := M_Jo_countGroups) (as := [_, _]) 22 rfl rfl ml_X11_123 (t_Jo_countGroups ⟨m1, m2⟩ x2) ⟨Nat.le_of_ble_eq_true rfl, Nat.le_of_ble_eq_true rfl⟩ rfl (Nat.le_of_ble_eq_true rfl) (fun σ' z3 x3 => ?_)))
      obtain ⟨hs_, x3⟩ := x3
      rw [hs_]; clear hs_ σ'
      refine ok_iadd 23 rfl rfl (by first | omega | (simp [up_if]; omega) | (simp [up_if] at *; omega)) (ok_iconst 24 rfl rfl (by decide) (ok_iadd 25 rfl rfl (by first | omega | (simp [up_if]; omega) | (simp [up_if] at *; omega)) (ok_iret 26 rfl rfl rfl ?_)))
      exact ⟨_, rfl, QA_rf h, Or.inr (Or.inl ⟨hE, by omega, by rw [x1, x3.1]⟩)⟩
theorem t_Mo_bound {σ : eS} {s w : Int} (hB : iB1 σ) : MtI shB M_Mo_bound [vr 0, vi s, vi w] σ (fun σ' z => fr (fun c _ => c = 8) σ σ' ∧ boS (evB σ s) (σ 1 s) (cB σ s) w z) := by
  refine Mt.of okM_Mo_bound (Nat.le_of_ble_eq_true rfl) (fun hk hg => ?_)
  refine ok_aload_n 0 rfl rfl rfl (ok_iload_n 1 rfl rfl rfl (ok_callVI (M' := M_Mo_isEven) (as := [_]) 2 rfl rfl ml_X12_202 (s_Mo_isEven hB) rfl rfl (Nat.le_of_ble_eq_true rfl) ⟨Nat.le_of_ble_eq_true rfl, Nat.le_of_ble_eq_true rfl⟩ rfl (Nat.le_of_ble_eq_true rfl) (fun σ' z1 a1 => ?_)))
  obtain ⟨hs_, a1⟩ := a1
  rw [hs_]; clear hs_ σ'
  refine ok_if_eq 3 33 rfl rfl rfl (fun h5 => ?_) (fun h5 => ?_)
  · refine ok_iconst 19 rfl rfl (by decide) (ok_iret 20 rfl rfl rfl ?_)
    exact ⟨_, rfl, fr.rf, Or.inl ⟨fun c => no1 a1 h5 c.1, rfl⟩⟩
  · refine ok_iload_n 4 rfl rfl rfl (ok_i2l 5 rfl rfl (ok_lconst (w := 0) 6 rfl rfl rfl (by decide) (ok_lconst (w := 1) 7 rfl rfl rfl (by decide) (ok_callSI (M' := M_Mo_isIn) (as := [_, _, _]) 8 rfl rfl ml_X12_99 (s_Mo_isIn_r) ⟨Nat.le_of_ble_eq_true rfl, Nat.le_of_ble_eq_true rfl⟩ rfl (Nat.le_of_ble_eq_true rfl) (fun σ' z2 a2 => ?_)))))
    obtain ⟨hs_, a2⟩ := a2
    rw [hs_]; clear hs_ σ'
    refine ok_if_eq 9 33 rfl rfl rfl (fun h15 => ?_) (fun h15 => ?_)
    · refine ok_iconst 19 rfl rfl (by decide) (ok_iret 20 rfl rfl rfl ?_)
      exact ⟨_, rfl, fr.rf, Or.inl ⟨fun c => no1 a2 h15 (by have := c.2; omega), rfl⟩⟩
    · obtain ⟨u1, u2, u3⟩ := (yes1 a1 h5).1
      refine ok_iload_n 10 rfl rfl rfl (ok_iconst 11 rfl rfl (by decide) (ok_icmp_ne 12 35 rfl rfl rfl (fun h20 => ?_) (fun h20 => ?_)))
      · have hE := yes1 a1 h5
        obtain ⟨ht, -⟩ := id hE
        obtain ⟨t1, t2, t3⟩ := id ht
        have tn := hB.1 s t1 t2
        have hw := yes1 a2 h15
        have cb := cnt_bd σ s ⟨by omega, by omega⟩
        have ec := cntB_cn hB ⟨t1, t2⟩
        refine ok_iload_n 21 rfl rfl rfl (ok_if_ne 22 64 rfl rfl rfl (fun h36 => ?_) (fun h36 => ?_))
        · refine ok_aload_n 40 rfl rfl rfl (ok_iload_n 41 rfl rfl rfl (ok_callVI (M' := M_Mo_fewest) (as := [_]) 42 rfl rfl ml_X12_311 (t_Mo_fewest hB ht (by omega)) rfl rfl (Nat.le_of_ble_eq_true rfl) ⟨Nat.le_of_ble_eq_true rfl, Nat.le_of_ble_eq_true rfl⟩ rfl (Nat.le_of_ble_eq_true rfl) (fun σ' z hz => ?_)))
          refine ok_iret 43 rfl rfl rfl ?_
          first | exact ⟨_, rfl, hz.1, Or.inr (Or.inl ⟨hE, by omega, by rw [ec, hz.2]⟩)⟩ | (rw [hz.1]; exact ⟨_, rfl, fr.rf, Or.inr (Or.inr ⟨hE, by omega, by omega, hz.2⟩)⟩)
        · refine ok_aload_n 23 rfl rfl rfl (ok_iload_n 24 rfl rfl rfl (ok_callVI (M' := M_Mo_aboveNought) (as := [_]) 25 rfl rfl ml_X12_205 (s_Mo_aboveNought hB ⟨t1, t2⟩) rfl rfl (Nat.le_of_ble_eq_true rfl) ⟨Nat.le_of_ble_eq_true rfl, Nat.le_of_ble_eq_true rfl⟩ rfl (Nat.le_of_ble_eq_true rfl) (fun σ' z hz => ?_)))
          rw [hz.1, hz.2]
          clear hz z σ'
          refine ok_iconst 26 rfl rfl (by decide) (ok_aload_n 27 rfl rfl rfl (ok_getR 28 rfl rfl fl_X12_7 rfl rfl (ok_iload_n 29 rfl rfl rfl (ok_iald 30 rfl rfl rfl (by first | omega | (simp [up_if]; omega) | (simp [up_if] at *; omega)) (ok_imul 31 rfl rfl (by first | omega | (simp [up_if]; omega) | (simp [up_if] at *; omega)) (ok_isub 32 rfl rfl (by first | omega | (simp [up_if]; omega) | (simp [up_if] at *; omega)) (ok_aload_n 33 rfl rfl rfl (ok_iload_n 34 rfl rfl rfl (ok_callVI (M' := M_Mo_groupsOf) (as := [_]) 35 rfl rfl ml_X12_208 (t_Mo_groupsOf hB ⟨t1, t2⟩) rfl rfl (Nat.le_of_ble_eq_true rfl) ⟨Nat.le_of_ble_eq_true rfl, Nat.le_of_ble_eq_true rfl⟩ rfl (Nat.le_of_ble_eq_true rfl) (fun σ' z hz => ?_))))))))))
          have hz1 := gpV_bd (W := cB σ s) (n := σ 1 s) ⟨by omega, by omega⟩
          rw [← hz.2] at hz1
          refine ok_iadd 36 rfl rfl (by first | omega | (simp [up_if]; omega) | (simp [up_if] at *; omega)) (ok_iconst 37 rfl rfl (by decide) (ok_iadd 38 rfl rfl (by first | omega | (simp [up_if]; omega) | (simp [up_if] at *; omega)) (ok_goto 39 69 rfl rfl rfl (ok_iret 43 rfl rfl rfl ?_))))
          first | exact ⟨_, rfl, hz.1, Or.inr (Or.inl ⟨hE, by omega, by rw [ec, hz.2]⟩)⟩ | (rw [hz.1]; exact ⟨_, rfl, fr.rf, Or.inr (Or.inr ⟨hE, by omega, by omega, hz.2⟩)⟩)
      · refine ok_aload_n 13 rfl rfl rfl (ok_getR 14 rfl rfl fl_X12_7 rfl rfl (ok_iload_n 15 rfl rfl rfl (ok_iald 16 rfl rfl rfl (by first | omega | (simp [up_if]; omega) | (simp [up_if] at *; omega)) (ok_iconst 17 rfl rfl (by decide) (ok_icmp_le 18 35 rfl rfl rfl (fun h30 => ?_) (fun h30 => ?_))))))
        · have hE := yes1 a1 h5
          obtain ⟨ht, -⟩ := id hE
          obtain ⟨t1, t2, t3⟩ := id ht
          have tn := hB.1 s t1 t2
          have hw := yes1 a2 h15
          have cb := cnt_bd σ s ⟨by omega, by omega⟩
          have ec := cntB_cn hB ⟨t1, t2⟩
          refine ok_iload_n 21 rfl rfl rfl (ok_if_ne 22 64 rfl rfl rfl (fun h36 => ?_) (fun h36 => ?_))
          · refine ok_aload_n 40 rfl rfl rfl (ok_iload_n 41 rfl rfl rfl (ok_callVI (M' := M_Mo_fewest) (as := [_]) 42 rfl rfl ml_X12_311 (t_Mo_fewest hB ht (by omega)) rfl rfl (Nat.le_of_ble_eq_true rfl) ⟨Nat.le_of_ble_eq_true rfl, Nat.le_of_ble_eq_true rfl⟩ rfl (Nat.le_of_ble_eq_true rfl) (fun σ' z hz => ?_)))
            refine ok_iret 43 rfl rfl rfl ?_
            first | exact ⟨_, rfl, hz.1, Or.inr (Or.inl ⟨hE, by omega, by rw [ec, hz.2]⟩)⟩ | (rw [hz.1]; exact ⟨_, rfl, fr.rf, Or.inr (Or.inr ⟨hE, by omega, by omega, hz.2⟩)⟩)
          · refine ok_aload_n 23 rfl rfl rfl (ok_iload_n 24 rfl rfl rfl (ok_callVI (M' := M_Mo_aboveNought) (as := [_]) 25 rfl rfl ml_X12_205 (s_Mo_aboveNought hB ⟨t1, t2⟩) rfl rfl (Nat.le_of_ble_eq_true rfl) ⟨Nat.le_of_ble_eq_true rfl, Nat.le_of_ble_eq_true rfl⟩ rfl (Nat.le_of_ble_eq_true rfl) (fun σ' z hz => ?_)))
            rw [hz.1, hz.2]
            clear hz z σ'
            refine ok_iconst 26 rfl rfl (by decide) (ok_aload_n 27 rfl rfl rfl (ok_getR 28 rfl rfl fl_X12_7 rfl rfl (ok_iload_n 29 rfl rfl rfl (ok_iald 30 rfl rfl rfl (by first | omega | (simp [up_if]; omega) | (simp [up_if] at *; omega)) (ok_imul 31 rfl rfl (by first | omega | (simp [up_if]; omega) | (simp [up_if] at *; omega)) (ok_isub 32 rfl rfl (by first | omega | (simp [up_if]; omega) | (simp [up_if] at *; omega)) (ok_aload_n 33 rfl rfl rfl (ok_iload_n 34 rfl rfl rfl (ok_callVI (M' := M_Mo_groupsOf) (as := [_]) 35 rfl rfl ml_X12_208 (t_Mo_groupsOf hB ⟨t1, t2⟩) rfl rfl (Nat.le_of_ble_eq_true rfl) ⟨Nat.le_of_ble_eq_true rfl, Nat.le_of_ble_eq_true rfl⟩ rfl (Nat.le_of_ble_eq_true rfl) (fun σ' z hz => ?_))))))))))
            have hz1 := gpV_bd (W := cB σ s) (n := σ 1 s) ⟨by omega, by omega⟩
            rw [← hz.2] at hz1
            refine ok_iadd 36 rfl rfl (by first | omega | (simp [up_if]; omega) | (simp [up_if] at *; omega)) (ok_iconst 37 rfl rfl (by decide) (ok_iadd 38 rfl rfl (by first | omega | (simp [up_if]; omega) | (simp [up_if] at *; omega)) (ok_goto 39 69 rfl rfl rfl (ok_iret 43 rfl rfl rfl ?_))))
            first | exact ⟨_, rfl, hz.1, Or.inr (Or.inl ⟨hE, by omega, by rw [ec, hz.2]⟩)⟩ | (rw [hz.1]; exact ⟨_, rfl, fr.rf, Or.inr (Or.inr ⟨hE, by omega, by omega, hz.2⟩)⟩)
        · refine ok_iconst 19 rfl rfl (by decide) (ok_iret 20 rfl rfl rfl ?_)
          exact ⟨_, rfl, fr.rf, Or.inl ⟨fun c => by have := c.2; omega, rfl⟩⟩
end
section
/-! SOUGHT: words of four rules, purely -/
def RC (n : Int) (W0 : Int → Int → Int) (rs : Nat → Int) : Nat → (Int → Int → Int) → Int → Prop
  | 0, W, P => ag n W W0 ∧ P = 0
  | j + 1, W, P => ∃ W1 P1, RC n W0 rs j W1 P1 ∧ ((nil0 n W1 ∧ ag n W W1 ∧ P = P1) ∨ (∃ ch w, stp n (rs j) W1 W ch w ∧ P = P1 + 1))
def NW (n : Int) (W0 : Int → Int → Int) (rs : Nat → Int) (z : Int) : Prop := ∃ j W, RC n W0 rs j W z ∧ nil0 n W
section K19
variable {n : Int} {W0 V0 : Int → Int → Int} {rs rs' : Nat → Int}
end K19
def rwd (w : Int) (k : Nat) : Int := if k = 0 then w / 64 % 4 else if k = 1 then w / 16 % 4 else if k = 2 then w / 4 % 4 else w % 4
def BSx (n : Int) (W0 : Int → Int → Int) (x p r : Int) : Prop := (x = 0 ∧ p = 65) ∨ ((0 ≤ r ∧ r < x) ∧ NW n W0 (rwd r) p ∧ p ≤ 64 ∧ ∀ w z, 0 ≤ w → w < x → NW n W0 (rwd w) z → p < z ∨ (p = z ∧ r ≤ w))
section K19b
variable {n x p r : Int} {W0 : Int → Int → Int}
end K19b
end
section
/-! SOUGHT, the class: what was found is kept, and right -/
def KN (σ : eS) : Prop := ∀ s : Int, 0 ≤ s → s < 4 → σ (s.toNat + 2) 6 ≠ 0 → evA σ s ∧ σ (s.toNat + 2) 1 ≤ 4 ∧ BSx (σ (s.toNat + 2) 1) (cT σ (s.toNat + 2)) 256 (σ (s.toNat + 2) 7) (σ (s.toNat + 2) 8)
end
section
section K23
variable {n all : Int} {src snk : Int → Int} {mid : Int → Int → Int}
end K23
/-- bounds of what many fractions over b come to -/
def loB' (b s : Int) : Int := s / b
def hiB' (b s : Int) : Int := if s % b = 0 then s / b else s / b + 1
/-- a way to round: cells that aren't whole may be one more, and all sums keep their bounds -/
def fitR (n b : Int) (R y : Int → Int → Int) : Prop :=
  (∀ i j, 0 ≤ i → i < n → 0 ≤ j → j < n → loB' b (R i j) ≤ y i j ∧ y i j ≤ hiB' b (R i j)) ∧
  (∀ i, 0 ≤ i → i < n → loB' b (sm (fun j => R i j) n.toNat) ≤ sm (fun j => y i j) n.toNat ∧ sm (fun j => y i j) n.toNat ≤ hiB' b (sm (fun j => R i j) n.toNat)) ∧
  (∀ j, 0 ≤ j → j < n → loB' b (sm (fun i => R i j) n.toNat) ≤ sm (fun i => y i j) n.toNat ∧ sm (fun i => y i j) n.toNat ≤ hiB' b (sm (fun i => R i j) n.toNat)) ∧
  loB' b (sm (fun i => sm (fun j => R i j) n.toNat) n.toNat) ≤ sm (fun i => sm (fun j => y i j) n.toNat) n.toNat ∧ sm (fun i => sm (fun j => y i j) n.toNat) n.toNat ≤ hiB' b (sm (fun i => sm (fun j => R i j) n.toNat) n.toNat)
/-- up to the place k (rows of n) no way that agrees before has less there -/
def frst (n b : Int) (R x : Int → Int → Int) (k : Int) : Prop := ∀ i j, 0 ≤ i → i < n → 0 ≤ j → j < n → n * i + j < k → ∀ y, fitR n b R y → (∀ i' j', 0 ≤ i' → i' < n → 0 ≤ j' → j' < n → n * i' + j' < n * i + j → y i' j' = x i' j') → x i j ≤ y i j
end
section
def hF (σ : eS) (v w : Int) : Int := σ 43 (v * 18 + w)
end
section
def rndS (n b : Int) (R : Int → Int → Int) (z : Int) : Prop := ∃ x : Int → Int → Int, fitR n b R x ∧ frst n b R x (n * n) ∧ ∀ i j, 0 ≤ i → i < n → 0 ≤ j → j < n → x i j = if jb z i j = true then 1 else 0
end
section
def KRd (σ : eS) : Prop := ∀ s : Int, 0 ≤ s → s < 4 → σ (s.toNat + 2) 4 ≠ 0 → 0 < σ (s.toNat + 2) 1 ∧ rndS (σ (s.toNat + 2) 1) (σ (s.toNat + 2) 2) (fun i j => cT σ (s.toNat + 2) i j % σ (s.toNat + 2) 2) (σ (s.toNat + 2) 5)
end
section
/-! both sides between calls -/
def IB (τ : eS) : Prop := iB1 τ ∧ iK τ ∧ (0 ≤ τ 0 6 ∧ τ 0 6 ≤ 600) ∧ (0 ≤ τ 0 42 ∧ τ 0 42 ≤ 1400)
/-- the tape stays -/
def tpB (τ τ' : eS) : Prop := τ' 0 6 = τ 0 6 ∧ τ' 0 7 = τ 0 7 ∧ τ' 0 8 = τ 0 8 ∧ ∀ k, τ' 5 k = τ 5 k
/-- the parts stay -/
def miK (τ τ' : eS) : Prop := ∀ (c : Nat) (k : Int), (c = 0 ∧ 27 ≤ k ∧ k ≤ 31) ∨ c = 12 ∨ c = 13 → τ' c k = τ c k
theorem miK_rf (τ : eS) : miK τ τ := fun _ _ _ => rfl
/-- what was shown stays -/
def swK (τ τ' : eS) : Prop := τ' 0 42 = τ 0 42 ∧ ∀ k, τ' 23 k = τ 23 k
theorem swK_rf (τ : eS) : swK τ τ := ⟨rfl, fun _ => rfl⟩
def otK (τ τ' : eS) : Prop := miK τ τ' ∧ swK τ τ'
theorem otK_rf (τ : eS) : otK τ τ := ⟨miK_rf _, swK_rf _⟩
def QB0 (τ τ' : eS) : Prop := IB τ' ∧ tpB τ τ' ∧ otK τ τ'
def QB1 (τ τ' : eS) : Prop := IB τ' ∧ tpB τ τ' ∧ tbK τ τ' ∧ swK τ τ'
def QBw (τ τ' : eS) : Prop := IB τ' ∧ tpB τ τ' ∧ tbK τ τ' ∧ miK τ τ'
def QB (τ τ' : eS) : Prop := IB τ' ∧ tpB τ τ' ∧ tbK τ τ' ∧ otK τ τ'
theorem QB.q0 {τ τ' : eS} (h : QB τ τ') : QB0 τ τ' := ⟨h.1, h.2.1, h.2.2.2⟩
theorem iK_cg {σ τ : eS} (h : iK σ) (e : ∀ c k, (c = 0 ∧ 27 ≤ k ∧ k ≤ 31) ∨ c = 12 ∨ c = 13 → τ c k = σ c k) : iK τ := by
  have e27 := e 0 27 (by omega)
  have e28 := e 0 28 (by omega)
  have e29 := e 0 29 (by omega)
  have e30 := e 0 30 (by omega)
  have e31 := e 0 31 (by omega)
  have e12 : ∀ k, τ 12 k = σ 12 k := fun k => e 12 k (by omega)
  have e13 : ∀ k, τ 13 k = σ 13 k := fun k => e 13 k (by omega)
  unfold iK wtK colK
  simp only [e27, e28, e29, e30, e31, e12, e13]
  exact h
theorem QB_rf {σ : eS} (h : IB σ) : QB σ σ := ⟨h, ⟨rfl, rfl, rfl, fun _ => rfl⟩, fun _ => ⟨rfl, rfl, rfl⟩, otK_rf _⟩
theorem QB_cg {σ τ : eS} {P : Nat → Int → Prop} (h : IB σ) (f : fr P σ τ) (e : ∀ c k, (c = 0 ∧ (k = 6 ∨ k = 7 ∨ k = 8 ∨ k = 42 ∨ (27 ≤ k ∧ k ≤ 31))) ∨ (1 ≤ c ∧ c ≤ 5) ∨ c = 12 ∨ c = 13 ∨ c = 23 → ¬ P c k) : QB σ τ := by
  have e6 := f 0 6 (e 0 6 (by omega))
  have e42 := f 0 42 (e 0 42 (by omega))
  refine ⟨⟨h.1.fr (fun c k q => f c k (e c k (by omega))), iK_cg h.2.1 (fun c k q => f c k (e c k (by omega))), ?_, ?_⟩, ⟨e6, f _ _ (e _ _ (by omega)), f _ _ (e _ _ (by omega)), fun k => f _ _ (e _ _ (by omega))⟩, fun k => ⟨f _ _ (e _ _ (by omega)), f _ _ (e _ _ (by omega)), f _ _ (e _ _ (by omega))⟩, ⟨fun c k w => f c k (e c k (by omega)), e42, fun k => f _ _ (e _ _ (by omega))⟩⟩
  · rw [e6]; exact h.2.2.1
  · rw [e42]; exact h.2.2.2
theorem QB_M {σ τ : eS} {z : Int} (h : IB σ) (q : QM σ τ z) : QB0 σ τ := by
  have e6 := q.1 0 6 (by simp [rgM])
  have e42 := q.1 0 42 (by simp [rgM])
  refine ⟨⟨q.2.1, iK_cg h.2.1 (fun c k w => q.1 c k (by simp only [rgM]; omega)), ?_, ?_⟩, ⟨e6, q.1 _ _ (by simp [rgM]), q.1 _ _ (by simp [rgM]), fun k => q.1 _ _ (by simp [rgM])⟩, ⟨fun c k w => q.1 c k (by simp only [rgM]; omega), e42, fun k => q.1 _ _ (by simp [rgM])⟩⟩
  · rw [e6]; exact h.2.2.1
  · rw [e42]; exact h.2.2.2
theorem QB_P {σ τ : eS} (h : IB σ) (q : QP σ τ) : QB1 σ τ := by
  have e6 := q.1 0 6 (by simp [rgP])
  have e42 := q.1 0 42 (by simp [rgP])
  refine ⟨⟨h.1.fr (fun c k w => q.1 c k (by simp only [rgP]; omega)), q.2 h.2.1, ?_, ?_⟩, ⟨e6, q.1 _ _ (by simp [rgP]), q.1 _ _ (by simp [rgP]), fun k => q.1 _ _ (by simp [rgP])⟩, fun k => ⟨q.1 _ _ (by simp [rgP]), q.1 _ _ (by simp [rgP]), q.1 _ _ (by simp [rgP])⟩, e42, fun k => q.1 _ _ (by simp [rgP])⟩
  · rw [e6]; exact h.2.2.1
  · rw [e42]; exact h.2.2.2
theorem QB_W {σ τ : eS} (h : IB σ) (f : fr rgW σ τ) (g : 0 ≤ τ 0 42 ∧ τ 0 42 ≤ 1216) : QBw σ τ := by
  have e6 := f 0 6 (by simp [rgW])
  refine ⟨⟨h.1.fr (fun c k w => f c k (by simp only [rgW]; omega)), iK_cg h.2.1 (fun c k w => f c k (by simp only [rgW]; omega)), ?_, by omega⟩, ⟨e6, f _ _ (by simp [rgW]), f _ _ (by simp [rgW]), fun k => f _ _ (by simp [rgW])⟩, fun k => ⟨f _ _ (by simp [rgW]), f _ _ (by simp [rgW]), f _ _ (by simp [rgW])⟩, fun c k w => f c k (by simp only [rgW]; omega)⟩
  rw [e6]; exact h.2.2.1
theorem fd_o (σ : eS) (t a b c d e : Int) (x : Nat) (k : Int) (h : ¬ (x = 0 ∧ k = 6)) (h5 : x ≠ 5) : fd σ t a b c d e x k = σ x k := by simp [fd, fo, h, h5]
theorem fd_6 (σ : eS) (t a b c d e : Int) : fd σ t a b c d e 0 6 = t + 20 := by unfold fd; rw [fo_6]; omega
theorem g_Ev_feed {σ : eS} {a b c d e : Int} (h : IA σ) : MtI shA M_Ev_feed [vr 0, vi a, vi b, vi c, vi d, vi e] σ (fun σ' z => IA σ' ∧ ((σ 10 3 + 20 ≤ 600 ∧ fdA σ (σ 10 3) a b c d e σ' ∧ z = σ 10 3 + 20) ∨ (600 < σ 10 3 + 20 ∧ σ' = σ ∧ z = -1))) :=
  (s_Ev_feed h.1).weaken (fun σ' v q => by
    obtain ⟨z, e1, q⟩ := q
    refine ⟨z, e1, ?_, q⟩
    rcases q with ⟨g1, g2, g3⟩ | ⟨g1, g2, g3⟩
    · have f := g2.1
      refine ⟨?_, iTs_cg h.2.1 (fun c k a b d => f c k (by simp only [rgG]; omega)), iCh_cg h.2.2.1 (fun k => f _ k (by simp [rgG])), iMi_cg h.2.2.2.1 (fun c k a b => f c k (by simp only [rgG]; omega)), iSh_cg h.2.2.2.2.1 (fun k => f _ k (by simp [rgG])), iSu_cg h.2.2.2.2.2 (fun k => f _ k (by simp [rgG]))⟩
      have := h.1
      unfold tL at *
      have := g2.2.1
      omega
    · subst g2
      exact h)
theorem g_Mo_feed {σ : eS} {a b c d e : Int} (h : IB σ) : MtI shB M_Mo_feed [vr 0, vi a, vi b, vi c, vi d, vi e] σ (fun σ' z => IB σ' ∧ ((σ 0 6 + 20 ≤ 600 ∧ σ' = fd σ (σ 0 6) a b c d e ∧ z = σ 0 6 + 20) ∨ (600 < σ 0 6 + 20 ∧ σ' = σ ∧ z = -1))) :=
  (s_Mo_feed h.2.2.1).weaken (fun σ' v q => by
    obtain ⟨z, e1, q⟩ := q
    refine ⟨z, e1, ?_, q⟩
    rcases q with ⟨g1, g2, g3⟩ | ⟨g1, g2, g3⟩
    · subst g2
      have h6 := h.2.2.1
      exact ⟨h.1.fr (fun c k w => fd_o _ _ _ _ _ _ _ _ _ (by omega) (by omega)), iK_cg h.2.1 (fun c k w => fd_o _ _ _ _ _ _ _ _ _ (by omega) (by omega)), by rw [fd_6]; omega, by rw [fd_o _ _ _ _ _ _ _ _ _ (by omega) (by omega)]; exact h.2.2.2⟩
    · subst g2
      exact h)
theorem g_Ev_end {σ : eS} {n : Int} (h : IA σ) : MtI shA M_Ev_end [vr 0, vi n] σ (fun σ' z => IA σ' ∧ ((0 ≤ n ∧ n ≤ σ 10 3 ∧ σ' = up σ 10 3 n ∧ z = 1) ∨ (¬ (0 ≤ n ∧ n ≤ σ 10 3) ∧ σ' = σ ∧ z = 0))) :=
  s_Ev_end.weaken (fun σ' v q => by
    obtain ⟨z, e1, q⟩ := q
    refine ⟨z, e1, ?_, q⟩
    rcases q with ⟨g1, g2, g3, g4⟩ | ⟨g1, g2, g3⟩
    · subst g3
      have f : fr (fun c k => c = 10 ∧ k = 3) σ (up σ 10 3 n) := fr_up fr.rf ⟨rfl, rfl⟩
      refine ⟨?_, iTs_cg h.2.1 (fun c k a b d => f c k (by omega)), iCh_cg h.2.2.1 (fun k => f _ k (by omega)), iMi_cg h.2.2.2.1 (fun c k a b => f c k (by omega)), iSh_cg h.2.2.2.2.1 (fun k => f _ k (by omega)), iSu_cg h.2.2.2.2.2 (fun k => f _ k (by omega))⟩
      have := h.1
      unfold tL at *
      rw [up_same]
      omega
    · subst g2
      exact h)
theorem g_Mo_end {σ : eS} {n : Int} (h : IB σ) : MtI shB M_Mo_end [vr 0, vi n] σ (fun σ' z => IB σ' ∧ ((0 ≤ n ∧ n ≤ σ 0 6 ∧ σ' = up σ 0 6 n ∧ z = 1) ∨ (¬ (0 ≤ n ∧ n ≤ σ 0 6) ∧ σ' = σ ∧ z = 0))) :=
  s_Mo_end.weaken (fun σ' v q => by
    obtain ⟨z, e1, q⟩ := q
    refine ⟨z, e1, ?_, q⟩
    rcases q with ⟨g1, g2, g3, g4⟩ | ⟨g1, g2, g3⟩
    · subst g3
      have h6 := h.2.2.1
      refine ⟨h.1.fr (fun c k w => up_ne _ _ _ _ (by omega)), iK_cg h.2.1 (fun c k w => ?_), by rw [up_same]; omega, by rw [up_nk _ _ _ _ (by decide)]; exact h.2.2.2⟩
      rw [up_if, if_neg (by omega)]
    · subst g2
      exact h)
theorem g_Ev_table {σ : eS} {s : Int} (h : IA σ) : MtI shA M_Ev_table [vr 0, vi s] σ (fun σ' z => IA σ' ∧ (σ' 10 3 = 0 ∧ TA σ s σ' z) ∧ otS σ σ') := t_Ev_table h
theorem g_Mo_table {σ : eS} {s : Int} (h : IB σ ∧ byt σ) : MtI shB M_Mo_table [vr 0, vi s] σ (fun σ' z => IB σ' ∧ (σ' 0 6 = 0 ∧ TB σ s σ' z) ∧ otK σ σ') :=
  (t_Mo_table h.1.1 h.1.2.2.1 h.2).weaken (fun σ' v q => by
    obtain ⟨z, e1, ⟨f, g1, g2⟩, g3⟩ := q
    exact ⟨z, e1, ⟨g1, iK_cg h.1.2.1 (fun c k w => f c k (by simp only [rgT]; omega)), by omega, by rw [f 0 42 (by simp [rgT])]; exact h.1.2.2.2⟩, ⟨g2, g3⟩, fun c k w => f c k (by simp only [rgT]; omega), f _ _ (by simp [rgT]), fun k => f _ _ (by simp [rgT])⟩)
theorem g_Ev_look {σ : eS} {x0 x1 : Int} (h : IA σ) : MtI shA M_Ev_look [vr 0, vi x0, vi x1] σ (fun σ' _ => QA σ σ') := (s_Ev_look h).weaken (fun σ' v q => by obtain ⟨z, e1, g1, _⟩ := q; subst g1; exact ⟨z, e1, QA_rf h⟩)
theorem g_Mo_look {σ : eS} {x0 x1 : Int} (h : IB σ) : MtI shB M_Mo_look [vr 0, vi x0, vi x1] σ (fun σ' _ => QB σ σ') := (s_Mo_look h.1).weaken (fun σ' v q => by obtain ⟨z, e1, g1⟩ := q; exact ⟨z, e1, QB_cg h g1 (fun c k w => by omega)⟩)
theorem g_Ev_cell {σ : eS} {x0 x1 x2 : Int} (h : IA σ) : MtI shA M_Ev_cell [vr 0, vi x0, vi x1, vi x2] σ (fun σ' z => QA σ σ' ∧ ((celA σ x0 x1 x2 ∧ z = cT σ (x0.toNat + 2) x1 x2) ∨ (¬ celA σ x0 x1 x2 ∧ z = -1))) := (s_Ev_cell h).weaken (fun σ' v q => by obtain ⟨z, e1, g1, g2⟩ := q; subst g1; exact ⟨z, e1, QA_rf h, g2⟩)
theorem g_Mo_cell {σ : eS} {x0 x1 x2 : Int} (h : IB σ) : MtI shB M_Mo_cell [vr 0, vi x0, vi x1, vi x2] σ (fun σ' z => QB σ σ' ∧ ((celB σ x0 x1 x2 ∧ z = cB σ x0 x1 x2) ∨ (¬ celB σ x0 x1 x2 ∧ z = -1))) := (s_Mo_cell h.1).weaken (fun σ' v q => by obtain ⟨z, e1, g1, g2⟩ := q; subst g1; exact ⟨z, e1, QB_rf h, g2⟩)
theorem g_Ev_uneven {σ : eS} {x0 : Int} (h : IA σ) : MtI shA M_Ev_uneven [vr 0, vi x0] σ (fun σ' z => QA σ σ' ∧ ((¬ tabA σ x0 ∧ z = -1) ∨ (tabA σ x0 ∧ unev (rowT σ (x0.toNat + 2)) (colT σ (x0.toNat + 2)) (σ (x0.toNat + 2) 1) z))) := (s_Ev_uneven h).weaken (fun σ' v q => by obtain ⟨z, e1, g1, g2⟩ := q; subst g1; exact ⟨z, e1, QA_rf h, g2⟩)
theorem g_Mo_uneven {σ : eS} {x0 : Int} (h : IB σ) : MtI shB M_Mo_uneven [vr 0, vi x0] σ (fun σ' z => QB σ σ' ∧ ((¬ tabB σ x0 ∧ z = -1) ∨ (tabB σ x0 ∧ unev (rowB σ x0) (colB σ x0) (σ 1 x0) z))) := (s_Mo_uneven h.1).weaken (fun σ' v q => by obtain ⟨z, e1, g1, g2⟩ := q; subst g1; exact ⟨z, e1, QB_rf h, g2⟩)
theorem g_Ev_lack {σ : eS} {x0 x1 x2 : Int} (h : IA σ) : MtI shA M_Ev_lack [vr 0, vi x0, vi x1, vi x2] σ (fun σ' z => QA σ σ' ∧ ((¬ okL (tabA σ x0) x1 x2 ∧ z = -1) ∨ (okL (tabA σ x0) x1 x2 ∧ z = lackV (σ (x0.toNat + 2) 1) (fun i j => x1 ≤ cT σ (x0.toNat + 2) i j) x2))) := (t_Ev_lack h).weaken (fun σ' v q => by obtain ⟨z, e1, g1, g2⟩ := q; subst g1; exact ⟨z, e1, QA_rf h, g2⟩)
theorem g_Mo_lack {σ : eS} {x0 x1 x2 : Int} (h : IB σ) : MtI shB M_Mo_lack [vr 0, vi x0, vi x1, vi x2] σ (fun σ' z => QB σ σ' ∧ ((¬ okL (tabB σ x0) x1 x2 ∧ z = -1) ∨ (okL (tabB σ x0) x1 x2 ∧ z = lackV (σ 1 x0) (fun i j => x1 ≤ cB σ x0 i j) x2))) := (t_Mo_lack h.1).weaken (fun σ' v q => by obtain ⟨z, e1, g1, g2⟩ := q; subst g1; exact ⟨z, e1, QB_rf h, g2⟩)
theorem g_Ev_mixing {σ : eS} {x0 : Int} (h : IA σ) : MtI shA M_Ev_mixing [vr 0, vi x0] σ (fun σ' z => QA σ σ' ∧ ((¬ tabA σ x0 ∧ z = -1) ∨ (tabA σ x0 ∧ mxG (σ (x0.toNat + 2) 1) (cT σ (x0.toNat + 2)) z))) := (t_Ev_mixing h).weaken (fun σ' v q => by obtain ⟨z, e1, g1, g2⟩ := q; subst g1; exact ⟨z, e1, QA_rf h, g2⟩)
theorem g_Mo_mixing {σ : eS} {x0 : Int} (h : IB σ) : MtI shB M_Mo_mixing [vr 0, vi x0] σ (fun σ' z => QB σ σ' ∧ ((¬ tabB σ x0 ∧ z = -1) ∨ (tabB σ x0 ∧ mxG (σ 1 x0) (cB σ x0) z))) := (t_Mo_mixing h.1).weaken (fun σ' v q => by obtain ⟨z, e1, g1, g2⟩ := q; exact ⟨z, e1, QB_cg h g1 (fun c k w => by simp only [rgX]; omega), g2⟩)
theorem g_Ev_kin {σ : eS} {x0 x1 : Int} (h : IA σ) : MtI shA M_Ev_kin [vr 0, vi x0, vi x1] σ (fun σ' z => QA σ σ' ∧ ((¬ okKn (tabA σ x0) (σ (x0.toNat + 2) 1) x1 ∧ z = -1) ∨ (okKn (tabA σ x0) (σ (x0.toNat + 2) 1) x1 ∧ kiS (σ (x0.toNat + 2) 1) (cT σ (x0.toNat + 2)) x1 z))) := (t_Ev_kin h).weaken (fun σ' v q => by obtain ⟨z, e1, g1, g2⟩ := q; subst g1; exact ⟨z, e1, QA_rf h, g2⟩)
theorem g_Mo_kin {σ : eS} {x0 x1 : Int} (h : IB σ) : MtI shB M_Mo_kin [vr 0, vi x0, vi x1] σ (fun σ' z => QB σ σ' ∧ ((¬ okKn (tabB σ x0) (σ 1 x0) x1 ∧ z = -1) ∨ (okKn (tabB σ x0) (σ 1 x0) x1 ∧ kiS (σ 1 x0) (cB σ x0) x1 z))) := (t_Mo_kin h.1).weaken (fun σ' v q => by obtain ⟨z, e1, g1, g2⟩ := q; exact ⟨z, e1, QB_cg h g1 (fun c k w => by simp only [rgX]; omega), g2⟩)
theorem g_Ev_part {σ : eS} {x0 x1 : Int} (h : IA σ) : MtI shA M_Ev_part [vr 0, vi x0, vi x1] σ (fun σ' z => QA σ σ' ∧ prS (σ 22 5) (σ 22 4) (kA σ) x0 x1 z) := (t_Ev_part h).weaken (fun σ' v q => by obtain ⟨z, e1, g1, g2⟩ := q; subst g1; exact ⟨z, e1, QA_rf h, g2⟩)
theorem g_Mo_part {σ : eS} {x0 x1 : Int} (h : IB σ) : MtI shB M_Mo_part [vr 0, vi x0, vi x1] σ (fun σ' z => QB σ σ' ∧ ((z = σ 13 (8 * x0 + x1) ∧ 0 ≤ x0 ∧ x0 < σ 0 27 ∧ 0 ≤ x1 ∧ x1 < σ 0 28) ∨ (z = -1 ∧ ¬ (0 ≤ x0 ∧ x0 < σ 0 27 ∧ 0 ≤ x1 ∧ x1 < σ 0 28)))) := (s_Mo_part h.2.1).weaken (fun σ' v q => by obtain ⟨z, e1, g1, g2⟩ := q; subst g1; exact ⟨z, e1, QB_rf h, g2⟩)
theorem g_Ev_weight {σ : eS} {x0 x1 : Int} (h : IA σ) : MtI shA M_Ev_weight [vr 0, vi x0, vi x1] σ (fun σ' z => QA σ σ' ∧ ((1 ≤ σ 22 6 → wtS (σ 22 5) (σ 22 6) (wA σ) x0 x1 z) ∧ (σ 22 5 = 0 → z = -1))) := (t_Ev_weight h).weaken (fun σ' v q => by obtain ⟨z, e1, g1, g2⟩ := q; subst g1; exact ⟨z, e1, QA_rf h, g2⟩)
theorem g_Mo_weight {σ : eS} {x0 x1 : Int} (h : IB σ) : MtI shB M_Mo_weight [vr 0, vi x0, vi x1] σ (fun σ' z => QB σ σ' ∧ wtS (σ 0 27) (σ 0 29) (wB σ) x0 x1 z) := (t_Mo_weight h.2.1).weaken (fun σ' v q => by obtain ⟨z, e1, g1, g2⟩ := q; subst g1; exact ⟨z, e1, QB_rf h, g2⟩)
theorem g_Ev_draw {σ : eS} {x0 : Int} (h : IA σ) : MtI shA M_Ev_draw [vr 0, vi x0] σ (fun σ' z => QA σ σ' ∧ drS (σ 22 5) (wA σ) x0 z) := (t_Ev_draw h).weaken (fun σ' v q => by obtain ⟨z, e1, g1, g2⟩ := q; subst g1; exact ⟨z, e1, QA_rf h, g2⟩)
theorem g_Mo_draw {σ : eS} {x0 : Int} (h : IB σ) : MtI shB M_Mo_draw [vr 0, vi x0] σ (fun σ' z => QB σ σ' ∧ drS (σ 0 27) (wB σ) x0 z) := (t_Mo_draw h.2.1).weaken (fun σ' v q => by obtain ⟨z, e1, g1, g2⟩ := q; subst g1; exact ⟨z, e1, QB_rf h, g2⟩)
theorem g_Ev_joint {σ : eS} {x0 x1 x2 x3 x4 : Int} (h : IA σ) : MtI shA M_Ev_joint [vr 0, vi x0, vi x1, vi x2, vi x3, vi x4] σ (fun σ' z => QA σ σ' ∧ ((1 ≤ σ 22 6 → jtS (σ 22 5) (σ 22 4) (σ 22 6) (wA σ) (kA σ) x0 x1 x2 x3 x4 z) ∧ (σ 22 4 = 0 → z = -1))) := (t_Ev_joint h).weaken (fun σ' v q => by obtain ⟨z, e1, g1, g2⟩ := q; subst g1; exact ⟨z, e1, QA_rf h, g2⟩)
theorem g_Mo_joint {σ : eS} {x0 x1 x2 x3 x4 : Int} (h : IB σ) : MtI shB M_Mo_joint [vr 0, vi x0, vi x1, vi x2, vi x3, vi x4] σ (fun σ' z => QB σ σ' ∧ ((σ 0 27 ≠ 0 → jtS (σ 0 27) (σ 0 28) (σ 0 29) (wB σ) (kB σ) x0 x1 x2 x3 x4 z) ∧ (σ 0 27 = 0 → z = -1))) := (t_Mo_joint h.2.1).weaken (fun σ' v q => by obtain ⟨z, e1, g1, g2⟩ := q; subst g1; exact ⟨z, e1, QB_rf h, g2⟩)
theorem g_Ev_most {σ : eS} {x0 x1 : Int} (h : IA σ) : MtI shA M_Ev_most [vr 0, vi x0, vi x1] σ (fun σ' z => QA σ σ' ∧ mtS (σ 22 5) (σ 22 4) (wA σ) (kA σ) x0 x1 z) := (t_Ev_most h).weaken (fun σ' v q => by obtain ⟨z, e1, g1, g2⟩ := q; subst g1; exact ⟨z, e1, QA_rf h, g2⟩)
theorem g_Mo_most {σ : eS} {x0 x1 : Int} (h : IB σ) : MtI shB M_Mo_most [vr 0, vi x0, vi x1] σ (fun σ' z => QB σ σ' ∧ moS (σ 0 27) (σ 0 28) (wB σ) (kB σ) x0 x1 z) := (t_Mo_most h.2.1).weaken (fun σ' v q => by obtain ⟨z, e1, g1, g2⟩ := q; subst g1; exact ⟨z, e1, QB_rf h, g2⟩)
theorem g_Ev_works {σ : eS} {x0 x1 : Int} (h : IA σ) : MtI shA M_Ev_works [vr 0, vi x0, vi x1] σ (fun σ' z => QA σ σ' ∧ wkS (σ 22 5) (σ 22 3) (wA σ) (kA σ) (σ 22 2 = 2 ∧ 0 ≤ x0 ∧ x0 < σ 22 3) x0 x1 z) := (t_Ev_works h).weaken (fun σ' v q => by obtain ⟨z, e1, g1, g2⟩ := q; subst g1; exact ⟨z, e1, QA_rf h, g2⟩)
theorem g_Mo_works {σ : eS} {x0 x1 : Int} (h : IB σ) : MtI shB M_Mo_works [vr 0, vi x0, vi x1] σ (fun σ' z => QB σ σ' ∧ wkS (σ 0 27) (σ 0 31) (wB σ) (kB σ) (σ 0 30 = 2 ∧ 0 ≤ x0 ∧ x0 < σ 0 31) x0 x1 z) := (t_Mo_works h.2.1).weaken (fun σ' v q => by obtain ⟨z, e1, g1, g2⟩ := q; subst g1; exact ⟨z, e1, QB_rf h, g2⟩)
theorem g_Ev_job {σ : eS} {x0 x1 : Int} (h : IA σ) : MtI shA M_Ev_job [vr 0, vi x0, vi x1] σ (fun σ' _ => QA σ σ') := (s_Ev_job h).weaken (fun σ' v q => by obtain ⟨z, e1, g1, _⟩ := q; subst g1; exact ⟨z, e1, QA_rf h⟩)
theorem g_Mo_job {σ : eS} {x0 x1 : Int} (h : IB σ) : MtI shB M_Mo_job [vr 0, vi x0, vi x1] σ (fun σ' _ => QB σ σ') := (s_Mo_job h.2.1).weaken (fun σ' v q => by obtain ⟨z, e1, g1⟩ := q; subst g1; exact ⟨z, e1, QB_rf h⟩)
theorem g_Ev_out {σ : eS} {x0 : Int} (h : IA σ) : MtI shA M_Ev_out [vr 0, vi x0] σ (fun σ' z => QA σ σ' ∧ ouS (σ 46 1) (fun k => σ 47 k) x0 z) := (t_Ev_out h).weaken (fun σ' v q => by obtain ⟨z, e1, g1, g2⟩ := q; subst g1; exact ⟨z, e1, QA_rf h, g2⟩)
theorem g_Mo_out {σ : eS} {x0 : Int} (h : IB σ) : MtI shB M_Mo_out [vr 0, vi x0] σ (fun σ' z => QB σ σ' ∧ ouS (σ 0 42) (fun k => σ 23 k) x0 z) := (t_Mo_out h.2.2.2).weaken (fun σ' v q => by obtain ⟨z, e1, g1, g2⟩ := q; subst g1; exact ⟨z, e1, QB_rf h, g2⟩)
theorem g_Ev_fault {σ : eS} {x0 : Int} (h : IA σ) : MtI shA M_Ev_fault [vr 0, vi x0] σ (fun σ' z => QA σ σ' ∧ z = if x0 = 0 then σ 10 4 else if x0 = 1 then σ 10 5 else -1) := (s_Ev_fault).weaken (fun σ' v q => by obtain ⟨z, e1, g1, g2⟩ := q; subst g1; exact ⟨z, e1, QA_rf h, g2⟩)
theorem g_Mo_fault {σ : eS} {x0 : Int} (h : IB σ) : MtI shB M_Mo_fault [vr 0, vi x0] σ (fun σ' z => QB σ σ' ∧ z = if x0 = 0 then σ 0 7 else if x0 = 1 then σ 0 8 else -1) := (s_Mo_fault).weaken (fun σ' v q => by obtain ⟨z, e1, g1, g2⟩ := q; subst g1; exact ⟨z, e1, QB_rf h, g2⟩)
theorem g_Ev_kept {σ : eS} {x0 : Int} (h : IA σ) : MtI shA M_Ev_kept [vr 0, vi x0] σ (fun σ' z => QA σ σ' ∧ z = if x0 = 0 then σ 22 2 else if x0 = 1 then σ 22 5 else if x0 = 2 then σ 22 6 else if x0 = 3 then σ 22 3 else if x0 = 4 then σ 10 3 else -1) := (t_Ev_kept).weaken (fun σ' v q => by obtain ⟨z, e1, g1, g2⟩ := q; subst g1; exact ⟨z, e1, QA_rf h, g2⟩)
theorem g_Mo_kept {σ : eS} {x0 : Int} (h : IB σ) : MtI shB M_Mo_kept [vr 0, vi x0] σ (fun σ' z => QB σ σ' ∧ z = if x0 = 0 then σ 0 30 else if x0 = 1 then σ 0 27 else if x0 = 2 then σ 0 29 else if x0 = 3 then (if σ 0 30 = 2 then σ 0 31 else σ 0 28) else if x0 = 4 then σ 0 6 else -1) := (t_Mo_kept).weaken (fun σ' v q => by obtain ⟨z, e1, g1, g2⟩ := q; subst g1; exact ⟨z, e1, QB_rf h, g2⟩)
theorem g_Ev_peel {σ : eS} {x0 x1 : Int} (h : IA σ ∧ iSe σ ∧ σ 16 3 + 64 < 2147483647) : MtI shA M_Ev_peel [vr 0, vi x0, vi x1] σ (fun σ' z => XpA σ x0 x1 σ' z) := t_Ev_peel h.1 h.2.1 h.2.2
theorem g_Mo_peel {σ : eS} {x0 x1 : Int} (h : IB σ) : MtI shB M_Mo_peel [vr 0, vi x0, vi x1] σ (fun σ' z => XpB σ x0 x1 σ' z) := t_Mo_peel h.1
theorem g_Ev_shop {σ : eS} {x0 x1 : Int} (h : IA σ ∧ iSe σ ∧ σ 16 3 + 64 < 2147483647) : MtI shA M_Ev_shop [vr 0, vi x0, vi x1] σ (fun σ' z => XsA σ x0 x1 σ' z) := t_Ev_shop h.1 h.2.1 h.2.2
theorem g_Mo_shop {σ : eS} {x0 x1 : Int} (h : IB σ) : MtI shB M_Mo_shop [vr 0, vi x0, vi x1] σ (fun σ' z => XsB σ x0 x1 σ' z) := t_Mo_shop h.1
theorem g_Ev_paired {σ : eS} {x0 x1 x2 : Int} (h : IA σ ∧ iSe σ ∧ σ 16 3 + 64 < 2147483647) : MtI shA M_Ev_paired [vr 0, vi x0, vi x1, vi x2] σ (fun σ' z => QA σ σ' ∧ ((¬ okPr (tabA σ x0) (σ (x0.toNat + 2) 1) x1 x2 ∧ z = -1) ∨ (okPr (tabA σ x0) (σ (x0.toNat + 2) 1) x1 x2 ∧ paS (σ (x0.toNat + 2) 1) (fun i j => x1 ≤ cT σ (x0.toNat + 2) i j) x2 z))) := t_Ev_paired h
theorem g_Mo_paired {σ : eS} {x0 x1 x2 : Int} (h : IB σ) : MtI shB M_Mo_paired [vr 0, vi x0, vi x1, vi x2] σ (fun σ' z => QB σ σ' ∧ ((¬ okPr (tabB σ x0) (σ 1 x0) x1 x2 ∧ z = -1) ∨ (okPr (tabB σ x0) (σ 1 x0) x1 x2 ∧ paS (σ 1 x0) (fun i j => x1 ≤ cB σ x0 i j) x2 z))) := (t_Mo_paired h.1).weaken (fun σ' v q => by obtain ⟨z, e1, g1, g2⟩ := q; exact ⟨z, e1, QB_cg h g1 (fun c k w => by simp only [rgS]; omega), g2⟩)
theorem g_Ev_ways {σ : eS} {x0 x1 : Int} (h : IA σ) : MtI shA M_Ev_ways [vr 0, vi x0, vi x1] σ (fun σ' z => QA σ σ' ∧ ((¬ okW (tabA σ x0) x1 ∧ z = -1) ∨ (okW (tabA σ x0) x1 ∧ z = wyV (σ (x0.toNat + 2) 1) (fun i j => x1 ≤ cT σ (x0.toNat + 2) i j)))) := t_Ev_ways h
theorem g_Mo_ways {σ : eS} {x0 x1 : Int} (h : IB σ) : MtI shB M_Mo_ways [vr 0, vi x0, vi x1] σ (fun σ' z => QB σ σ' ∧ ((¬ okW (tabB σ x0) x1 ∧ z = -1) ∨ (okW (tabB σ x0) x1 ∧ z = wyV (σ 1 x0) (fun i j => x1 ≤ cB σ x0 i j)))) := (t_Mo_ways h.1).weaken (fun σ' v q => by obtain ⟨z, e1, g1, g2⟩ := q; exact ⟨z, e1, QB_cg h g1 (fun c k w => by simp only [rgU]; omega), g2⟩)
theorem g_Ev_widest {σ : eS} {x0 : Int} (h : IA σ) : MtI shA M_Ev_widest [vr 0, vi x0] σ (fun σ' z => QA σ σ' ∧ ((¬ tabA σ x0 ∧ z = -1) ∨ (tabA σ x0 ∧ wdA (σ (x0.toNat + 2) 1) (fun i j => 0 ≤ cT σ (x0.toNat + 2) i j) (cT σ (x0.toNat + 2)) z))) := t_Ev_widest h
theorem g_Mo_widest {σ : eS} {x0 : Int} (h : IB σ) : MtI shB M_Mo_widest [vr 0, vi x0] σ (fun σ' z => QB σ σ' ∧ ((¬ tabB σ x0 ∧ z = -1) ∨ (tabB σ x0 ∧ wdA (σ 1 x0) (fun i j => 0 ≤ wk (wo σ x0 (σ 1 x0) (σ 1 x0 * σ 1 x0)) i j) (wk (wo σ x0 (σ 1 x0) (σ 1 x0 * σ 1 x0))) z))) := (t_Mo_widest h.1).weaken (fun σ' v q => by obtain ⟨z, e1, g1, g2⟩ := q; exact ⟨z, e1, QB_cg h g1 (fun c k w => by simp only [rgS]; omega), g2⟩)
theorem g_Ev_best {σ : eS} {x0 x1 : Int} (h : IA σ) : MtL shA M_Ev_best [vr 0, vi x0, vi x1] σ (fun σ' z => QA σ σ' ∧ ((¬ okBs (tabA σ x0) (σ (x0.toNat + 2) 1) x1 ∧ z = -1) ∨ (okBs (tabA σ x0) (σ (x0.toNat + 2) 1) x1 ∧ bsA (σ (x0.toNat + 2) 1) (fun i j => 0 ≤ cT σ (x0.toNat + 2) i j) (cT σ (x0.toNat + 2)) x1 z))) := t_Ev_best h
theorem g_Mo_best {σ : eS} {x0 x1 : Int} (h : IB σ) : MtL shB M_Mo_best [vr 0, vi x0, vi x1] σ (fun σ' z => QB σ σ' ∧ ((¬ okBs (tabB σ x0) (σ 1 x0) x1 ∧ z = -1) ∨ (okBs (tabB σ x0) (σ 1 x0) x1 ∧ bsA (σ 1 x0) (fun i j => 0 ≤ wk (wo σ x0 (σ 1 x0) (σ 1 x0 * σ 1 x0)) i j) (wk (wo σ x0 (σ 1 x0) (σ 1 x0 * σ 1 x0))) x1 z))) := (t_Mo_best h.1).weaken (fun σ' v q => by obtain ⟨z, e1, g1, g2⟩ := q; exact ⟨z, e1, QB_cg h g1 (fun c k w => by simp only [rgS]; omega), g2⟩)
theorem g_Ev_permanent {σ : eS} {x0 : Int} (h : IA σ) : MtL shA M_Ev_permanent [vr 0, vi x0] σ (fun σ' z => QA σ σ' ∧ ((¬ tabA σ x0 ∧ z = -1) ∨ (tabA σ x0 ∧ pmA (σ (x0.toNat + 2) 1) (cT σ (x0.toNat + 2)) z))) := t_Ev_permanent h
theorem g_Mo_permanent {σ : eS} {x0 : Int} (h : IB σ) : MtL shB M_Mo_permanent [vr 0, vi x0] σ (fun σ' z => QB σ σ' ∧ ((¬ tabB σ x0 ∧ z = -1) ∨ (tabB σ x0 ∧ pmA (σ 1 x0) (cB σ x0) z))) := (t_Mo_permanent h.1).weaken (fun σ' v q => by obtain ⟨z, e1, g1, g2⟩ := q; exact ⟨z, e1, QB_cg h g1 (fun c k w => by simp only [rgU]; omega), g2⟩)
theorem g_Ev_sought {σ : eS} {x0 x1 : Int} (h : IA σ) : MtI shA M_Ev_sought [vr 0, vi x0, vi x1] σ (fun σ' _ => QAk σ σ') := (s_Ev_sought h).weaken (fun σ' v q => by exact q)
theorem g_Mo_sought {σ : eS} {x0 x1 : Int} (h : IB σ) : MtI shB M_Mo_sought [vr 0, vi x0, vi x1] σ (fun σ' _ => QB σ σ') := (s_Mo_sought h.1).weaken (fun σ' v q => by obtain ⟨z, e1, g1⟩ := q; exact ⟨z, e1, QB_cg h g1 (fun c k w => by simp only [rgS]; omega)⟩)
theorem g_Ev_rounded {σ : eS} {x0 x1 x2 : Int} (h : IA σ) : MtI shA M_Ev_rounded [vr 0, vi x0, vi x1, vi x2] σ (fun σ' _ => QAr σ σ') := (s_Ev_rounded h).weaken (fun σ' v q => by exact q)
theorem g_Mo_rounded {σ : eS} {x0 x1 x2 : Int} (h : IB σ) : MtI shB M_Mo_rounded [vr 0, vi x0, vi x1, vi x2] σ (fun σ' _ => QB σ σ') := (s_Mo_rounded h.1).weaken (fun σ' v q => by obtain ⟨z, e1, g1⟩ := q; exact ⟨z, e1, QB_cg h g1 (fun c k w => by simp only [rgN]; omega)⟩)
theorem g_Ev_show {σ : eS} (h : IA σ) : MtI shA M_Ev_show [vr 0] σ (fun σ' z => QAw σ σ' ∧ z = σ' 46 1 ∧ bfl (fun k => σ' 47 k) (σ' 46 1) (shL (wA σ) (kA σ) (σ 22 4) (σ 22 5).toNat)) := t_Ev_show h
theorem g_Mo_show {σ : eS} (h : IB σ) : MtI shB M_Mo_show [vr 0] σ (fun σ' z => QBw σ σ' ∧ z = σ' 0 42 ∧ bfl (fun k => σ' 23 k) (σ' 0 42) (shL (wB σ) (kB σ) (σ 0 28) (σ 0 27).toNat)) := (t_Mo_show h.2.1).weaken (fun σ' v q => by obtain ⟨z, e1, g1, g2, g3⟩ := q; exact ⟨z, e1, QB_W h g1 g2, g3⟩)
theorem g_Ev_mix {σ : eS} {x0 x1 x2 x3 x4 x5 x6 : Int} (h : IA σ) : MtI shA M_Ev_mix [vr 0, vi x0, vi x1, vi x2, vi x3, vi x4, vi x5, vi x6] σ (fun σ' z => QA0 σ σ' ∧ XmA σ x0 x1 x2 x3 x4 x5 x6 σ' z) := t_Ev_mix h
theorem g_Mo_mix {σ : eS} {x0 x1 x2 x3 x4 x5 x6 : Int} (h : IB σ) : MtI shB M_Mo_mix [vr 0, vi x0, vi x1, vi x2, vi x3, vi x4, vi x5, vi x6] σ (fun σ' z => QB0 σ σ' ∧ XmB σ x0 x1 x2 x3 x4 x5 x6 σ' z) := (t_Mo_mix h.1).weaken (fun σ' v q => by obtain ⟨z, e1, g1, g2⟩ := q; exact ⟨z, e1, QB_M h g1, g2⟩)
theorem g_Ev_times {σ : eS} {x0 x1 x2 : Int} (h : IA σ) : MtI shA M_Ev_times [vr 0, vi x0, vi x1, vi x2] σ (fun σ' z => QA0 σ σ' ∧ XtA σ x0 x1 x2 σ' z) := t_Ev_times h
theorem g_Mo_times {σ : eS} {x0 x1 x2 : Int} (h : IB σ) : MtI shB M_Mo_times [vr 0, vi x0, vi x1, vi x2] σ (fun σ' z => QB0 σ σ' ∧ XtB σ x0 x1 x2 σ' z) := (t_Mo_times h.1).weaken (fun σ' v q => by obtain ⟨z, e1, g1, g2⟩ := q; exact ⟨z, e1, QB_M h g1, g2⟩)
theorem g_Ev_turn {σ : eS} {x0 x1 x2 x3 : Int} (h : IA σ) : MtI shA M_Ev_turn [vr 0, vi x0, vi x1, vi x2, vi x3] σ (fun σ' z => QA0 σ σ' ∧ XuA σ x0 x1 x2 x3 σ' z) := t_Ev_turn h
theorem g_Mo_turn {σ : eS} {x0 x1 x2 x3 : Int} (h : IB σ) : MtI shB M_Mo_turn [vr 0, vi x0, vi x1, vi x2, vi x3] σ (fun σ' z => QB0 σ σ' ∧ XuB σ x0 x1 x2 x3 σ' z) := (t_Mo_turn h.1).weaken (fun σ' v q => by obtain ⟨z, e1, g1, g2⟩ := q; exact ⟨z, e1, QB_M h g1, g2⟩)
end
section
/-! both sides side by side: the tapes -/
def TP (σ τ : eS) : Prop := σ 10 3 = τ 0 6 ∧ aB (σ 11) (τ 5) (τ 0 6) ∧ byt τ ∧ σ 10 4 = τ 0 7 ∧ σ 10 5 = τ 0 8
theorem TP_keep {σ τ σ' τ' : eS} (h : TP σ τ) (a : tpS σ σ') (b : tpB τ τ') : TP σ' τ' := by
  obtain ⟨a1, a2⟩ := a
  obtain ⟨b1, b2, b3, b4⟩ := b
  obtain ⟨h1, h2, h3, h4, h5⟩ := h
  refine ⟨by rw [a1, b1, h1], fun i x y => ?_, fun k x y => ?_, by rw [a1, b2, h4], by rw [a1, b3, h5]⟩
  · rw [a2, b4]; exact h2 i x (by omega)
  · rw [b4]; exact h3 k x (by omega)
theorem TP_feed {σ τ σ' τ' : eS} {zA zB a b c d e : Int} (h : TP σ τ) (qA : (σ 10 3 + 20 ≤ 600 ∧ fdA σ (σ 10 3) a b c d e σ' ∧ zA = σ 10 3 + 20) ∨ (600 < σ 10 3 + 20 ∧ σ' = σ ∧ zA = -1)) (qB : (τ 0 6 + 20 ≤ 600 ∧ τ' = fd τ (τ 0 6) a b c d e ∧ zB = τ 0 6 + 20) ∨ (600 < τ 0 6 + 20 ∧ τ' = τ ∧ zB = -1)) : TP σ' τ' ∧ zA = zB := by
  obtain ⟨h1, h2, h3, h4, h5⟩ := id h
  rcases qA with ⟨a1, a2, a3⟩ | ⟨a1, a2, a3⟩ <;> rcases qB with ⟨b1, b2, b3⟩ | ⟨b1, b2, b3⟩
  · rw [h1] at a2
    subst b2
    refine ⟨⟨by rw [a2.2.1, fd_6], ?_, fun k x y => ?_, ?_, ?_⟩, by omega⟩
    · rw [fd_6]; exact fd_al h2 a2
    · rw [fd_6] at y; exact fd_nn h3 k x y
    · rw [a2.1 10 4 (by simp [rgG]), fd_o _ _ _ _ _ _ _ _ _ (by omega) (by omega)]; exact h4
    · rw [a2.1 10 5 (by simp [rgG]), fd_o _ _ _ _ _ _ _ _ _ (by omega) (by omega)]; exact h5
  · omega
  · omega
  · subst a2; subst b2; exact ⟨h, by omega⟩
theorem TP_end {σ τ σ' τ' : eS} {zA zB n : Int} (h : TP σ τ) (qA : (0 ≤ n ∧ n ≤ σ 10 3 ∧ σ' = up σ 10 3 n ∧ zA = 1) ∨ (¬ (0 ≤ n ∧ n ≤ σ 10 3) ∧ σ' = σ ∧ zA = 0)) (qB : (0 ≤ n ∧ n ≤ τ 0 6 ∧ τ' = up τ 0 6 n ∧ zB = 1) ∨ (¬ (0 ≤ n ∧ n ≤ τ 0 6) ∧ τ' = τ ∧ zB = 0)) : TP σ' τ' ∧ zA = zB := by
  obtain ⟨h1, h2, h3, h4, h5⟩ := id h
  rcases qA with ⟨a1, a2, a3, a4⟩ | ⟨a1, a2, a3⟩ <;> rcases qB with ⟨b1, b2, b3, b4⟩ | ⟨b1, b2, b3⟩
  · subst a3; subst b3
    refine ⟨⟨by rw [up_same, up_same], fun i x y => ?_, fun k x y => ?_, ?_, ?_⟩, by omega⟩
    · rw [up_same] at y
      rw [up_ne _ _ _ _ (by decide), up_ne _ _ _ _ (by decide)]
      exact h2 i x (by omega)
    · rw [up_same] at y
      rw [up_ne _ _ _ _ (by decide)]
      exact h3 k x (by omega)
    · rw [up_nk _ _ _ _ (by decide), up_nk _ _ _ _ (by decide)]; exact h4
    · rw [up_nk _ _ _ _ (by decide), up_nk _ _ _ _ (by decide)]; exact h5
  · omega
  · omega
  · subst a2; subst b2; exact ⟨h, by omega⟩
theorem aO_of {σ τ : eS} (h : TP σ τ) : aO (RAr σ) (RB τ) := by
  unfold RAr RB
  rw [h.1]
  exact PR_al h.2.1 _ _ _ _
theorem TP_table {σ τ σ' τ' : eS} {zA zB s : Int} (h : TP σ τ) (qA : σ' 10 3 = 0 ∧ TA σ s σ' zA) (qB : τ' 0 6 = 0 ∧ TB τ s τ' zB) : TP σ' τ' ∧ zA = zB := by
  have al := aO_of h
  obtain ⟨h1, h2, h3, h4, h5⟩ := id h
  obtain ⟨a6, qA⟩ := qA
  obtain ⟨b6, qB⟩ := qB
  have key : zA = zB ∧ σ' 10 4 = τ' 0 7 ∧ σ' 10 5 = τ' 0 8 := by
    rcases qA with ⟨a0, a1, a2, a3, -⟩ | ⟨a0, aS, a1, -⟩ <;> rcases qB with ⟨b0, b1, b2, b3, -⟩ | ⟨b0, b1, -⟩
    · omega
    · omega
    · omega
    · rw [h1] at a1
      exact tbO_un al aS a1 b1
  exact ⟨⟨by omega, fun i x y => by omega, fun k x y => by omega, key.2.1, key.2.2⟩, key.1⟩
end
