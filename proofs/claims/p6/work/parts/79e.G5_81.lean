section
/-! both sides side by side: the parts kept -/
def MM (σ τ : eS) : Prop := (σ 22 2 = τ 0 30 ∧ σ 22 4 = τ 0 28 ∧ σ 22 5 = τ 0 27 ∧ σ 22 6 = τ 0 29) ∧ (σ 22 3 = if τ 0 30 = 2 then τ 0 31 else τ 0 28) ∧ (τ 0 27 = 0 → τ 0 28 = 0) ∧ ∀ q, 0 ≤ q → q < τ 0 27 → wA σ q = wB τ q ∧ ∀ i, 0 ≤ i → i < τ 0 28 → kA σ q i = kB τ q i
theorem MM_keep {σ τ σ' τ' : eS} (h : MM σ τ) (a : miS σ σ') (b : miK τ τ') : MM σ' τ' := by
  have a2 : ∀ k, σ' 22 k = σ 22 k := fun k => a _ _ (by decide) (by decide)
  have b27 := b 0 27 (by omega)
  have b28 := b 0 28 (by omega)
  have b29 := b 0 29 (by omega)
  have b30 := b 0 30 (by omega)
  have b31 := b 0 31 (by omega)
  have aw : wA σ' = wA σ := by funext q; exact a _ _ (by decide) (by decide)
  have ak : kA σ' = kA σ := by funext q i; exact a _ _ (by decide) (by decide)
  have bw : wB τ' = wB τ := by funext q; exact b _ _ (by omega)
  have bk : kB τ' = kB τ := by funext q i; exact b _ _ (by omega)
  unfold MM
  rw [a2, a2, a2, a2, a2, b27, b28, b29, b30, b31, aw, ak, bw, bk]
  exact h
section G5
variable {σ τ σ' τ' : eS} {zA zB : Int}
theorem ev_al (hI : iB1 τ) (hA : IA σ) (h : TT σ τ) (s : Int) : evA σ s ↔ evB τ s := by
  constructor
  · rintro ⟨s1, s2, q⟩
    have e := h s s1 s2
    rcases (hA.2.1 _ (sl_tA ⟨s1, s2⟩)).2 with w | ⟨w, -⟩
    · exact absurd w.1 q
    · have n1 := w.1
      rw [e.1] at n1
      refine ⟨⟨s1, s2, n1⟩, ?_, fun k a b => ?_, fun k a b => ?_⟩
      · rw [← row_al e ⟨by omega, n1⟩]; exact w.2.1
      · rw [← row_al e ⟨a, b⟩, ← row_al e ⟨by omega, n1⟩]; exact w.2.2.1 k a (by rw [e.1]; exact b)
      · rw [← col_al e ⟨a, b⟩, ← row_al e ⟨by omega, n1⟩]; exact w.2.2.2 k a (by rw [e.1]; exact b)
  · rintro ⟨⟨s1, s2, n1⟩, w1, w2, w3⟩
    have e := h s s1 s2
    refine ⟨s1, s2, fun q => ?_⟩
    rcases (hA.2.1 _ (sl_tA ⟨s1, s2⟩)).2 with w | ⟨w, v⟩
    · refine w.2 ⟨by rw [e.1]; exact n1, ?_, fun k a b => ?_, fun k a b => ?_⟩
      · rw [row_al e ⟨by omega, n1⟩]; exact w1
      · rw [e.1] at b; rw [row_al e ⟨a, b⟩, row_al e ⟨by omega, n1⟩]; exact w2 k a b
      · rw [e.1] at b; rw [col_al e ⟨a, b⟩, row_al e ⟨by omega, n1⟩]; exact w3 k a b
    · have := w.2.1
      omega
theorem MM_mx {kind n rows m r : Int} {W V : Int → Int → Int} (hr : 1 ≤ rows ∧ rows ≤ 8) (hm : 1 ≤ m) (ag0 : ag rows W V) (hA : mpA σ σ' kind n rows m r zA W) (hB : mpB τ τ' kind rows m r zB V) (hk : iK τ) (hn : n = if kind = 2 then τ' 0 31 else rows) : MM σ' τ' ∧ zA = zB := by
  obtain ⟨-, -, -, -, ⟨a1, a2, a3, a4, a5⟩, a6⟩ := hA
  obtain ⟨⟨-, bk⟩, ⟨b1, b2, b3, b4⟩, b5⟩ := hB
  obtain ⟨e, p⟩ := PE_un hr ag0 a6 b5
  have ik := bk hk
  have z1 : τ' 0 27 = 0 → τ' 0 28 = 0 := fun q => by
    have s := ik.2.2.2.2.2.2.1.2
    rw [q] at s
    have s : (0 : Int) = τ' 0 29 := s
    omega
  refine ⟨⟨⟨by rw [a1, b1], by rw [a3, b2], by rw [a4, b3, e], by rw [a5, b4]⟩, by rw [a2, b1, b2, hn], z1, fun q x y => ?_⟩, e⟩
  have := p q x (by omega)
  exact ⟨this.1, fun i u v => this.2 i u (by omega)⟩
theorem MM_peel {s r : Int} (hI : IB τ) (hA : IA σ) (h : TT σ τ) (m : MM σ τ) (qA : XpA σ s r σ' zA) (qB : XpB τ s r τ' zB) : MM σ' τ' ∧ zA = zB := by
  have ev := ev_al hI.1 hA h s
  rcases qA with ⟨a1, a2, a3⟩ | ⟨a1, a2⟩ <;> rcases qB with ⟨b1, b2, b3⟩ | ⟨b1, b2⟩
  · rw [a2, b2, a3, b3]; exact ⟨m, rfl⟩
  · exact absurd ⟨ev.mpr b1.1, b1.2⟩ a1
  · exact absurd ⟨ev.mp a1.1, a1.2⟩ b1
  · obtain ⟨⟨s1, s2, n1⟩, w1, -⟩ := b1.1
    have e := h s s1 s2
    have tn := (hI.1.1 s s1 s2).2.1
    have em : σ (s.toNat + 2) 3 = rowB τ s 0 := by
      rcases (hA.2.1 _ (sl_tA ⟨s1, s2⟩)).2 with w | ⟨-, w⟩
      · exact absurd w.1 a1.1.2.2
      · rw [w, row_al e ⟨by omega, n1⟩]
    rw [e.1, em] at a2
    exact MM_mx ⟨by omega, tn⟩ (by omega) (fun i j a b c d => e.2.2.2 i j a b c d) a2 b2 hI.2.1 (by rw [if_neg (by decide)])
theorem tg_cg {n v : Int} {c c' : Int → Int → Int} {row row' col col' : Int → Int} (hc : ag n c c') (hr : ∀ k, 0 ≤ k → k < n → row k = row' k ∧ col k = col' k) {a b : Int} (ha : 0 ≤ a ∧ a < 2 * n) (hb : 0 ≤ b ∧ b < 2 * n) : tg n v c row col n 0 a b = tg n v c' row' col' n 0 a b := by
  unfold tg
  by_cases q1 : a < n
  · rw [if_pos q1, if_pos q1]
    by_cases q2 : b < n
    · rw [if_pos q2, if_pos q2, hc a b ha.1 q1 hb.1 q2]
    · rw [if_neg q2, if_neg q2, (hr a ha.1 q1).1]
  · rw [if_neg q1, if_neg q1]
    by_cases q2 : b < n
    · rw [if_pos q2, if_pos q2, (hr b hb.1 q2).2]
    · rw [if_neg q2, if_neg q2, hc (b - n) (a - n) (by omega) (by omega) (by omega) (by omega)]
theorem any_al {n : Int} {c c' : Int → Int → Int} (h : ag n c c') : anyP n c ↔ anyP n c' := by
  constructor
  · rintro ⟨i, j, a, b, d⟩; exact ⟨i, j, a, b, by rw [← h i j a.1 a.2 b.1 b.2]; exact d⟩
  · rintro ⟨i, j, a, b, d⟩; exact ⟨i, j, a, b, by rw [h i j a.1 a.2 b.1 b.2]; exact d⟩
theorem MM_shop {s r : Int} (hI : IB τ) (hA : IA σ) (h : TT σ τ) (m : MM σ τ) (qA : XsA σ s r σ' zA) (qB : XsB τ s r τ' zB) : MM σ' τ' ∧ zA = zB := by
  have ta := tab_al hI.1 h s
  have ok : okS (tabA σ s) (anyP (σ (s.toNat + 2) 1) (cT σ (s.toNat + 2))) (σ (s.toNat + 2) 1) r ↔ okS (tabB τ s) (anyP (τ 1 s) (cB τ s)) (τ 1 s) r := by
    unfold okS
    rw [ta]
    constructor
    · rintro ⟨t, w⟩
      have e := h s t.1 t.2.1
      rw [e.1, any_al (fun i j a b c d => e.2.2.2 i j a b c d)] at w
      exact ⟨t, w⟩
    · rintro ⟨t, w⟩
      have e := h s t.1 t.2.1
      rw [e.1, any_al (fun i j a b c d => e.2.2.2 i j a b c d)]
      exact ⟨t, w⟩
  rcases qA with ⟨a1, a2, a3⟩ | ⟨a1, L, a2, a3⟩ <;> rcases qB with ⟨b1, b2, b3⟩ | ⟨b1, L', b2, b3, b4⟩
  · rw [a2, b2, a3, b3]; exact ⟨m, rfl⟩
  · exact absurd (ok.mpr b1) a1
  · exact absurd (ok.mp a1) b1
  · obtain ⟨s1, s2, n1⟩ := b1.1
    have e := h s s1 s2
    have n4 := b1.2.1
    have hT := (hA.2.1 _ (sl_tA ⟨s1, s2⟩)).1
    have L1 := gr_pos hT a2 a1.2.2.1
    unfold shW at a3
    rw [e.1] at a2 a3
    have rc : ∀ k, 0 ≤ k → k < τ 1 s → rowT σ (s.toNat + 2) k = rowB τ s k ∧ colT σ (s.toNat + 2) k = colB τ s k := fun k a b => ⟨row_al e ⟨a, b⟩, col_al e ⟨a, b⟩⟩
    have eL : L = L' := grS_un (by omega) (fun k a b => ⟨(rowT_bd hT (i := k) ⟨a, by omega⟩).1, (colT_bd hT (i := k) ⟨a, by omega⟩).1⟩) rc a2 b2
    subst eL
    unfold shB' at b3
    exact MM_mx ⟨by omega, by omega⟩ L1 (fun i j a b c d => tg_cg (fun i j a b c d => e.2.2.2 i j a b c d) rc ⟨a, b⟩ ⟨c, d⟩) a3 b3 hI.2.1 (by rw [if_pos rfl, b4])
/-! the answers -/
theorem part_al {k r : Int} (m : MM σ τ) (qA : prS (σ 22 5) (σ 22 4) (kA σ) k r zA) (qB : (zB = τ 13 (8 * k + r) ∧ 0 ≤ k ∧ k < τ 0 27 ∧ 0 ≤ r ∧ r < τ 0 28) ∨ (zB = -1 ∧ ¬ (0 ≤ k ∧ k < τ 0 27 ∧ 0 ≤ r ∧ r < τ 0 28))) : zA = zB := by
  obtain ⟨⟨m1, m2, m3, m4⟩, -, -, m5⟩ := m
  unfold prS at qA
  rw [m2, m3] at qA
  rcases qB with ⟨b1, b2⟩ | ⟨b1, b2⟩
  · rw [if_pos b2, (m5 k b2.1 b2.2.1).2 r b2.2.2.1 b2.2.2.2] at qA
    rw [qA, b1]
    rfl
  · rw [if_neg b2] at qA
    rw [qA, b1]
theorem whole1 (hK : iK τ) (h : τ 0 27 ≠ 0) : 1 ≤ τ 0 29 := by
  obtain ⟨h1, -⟩ := id hK
  have := wt_le hK (k := 0) (by omega) (by omega)
  omega
theorem weight_al {k w : Int} (hK : iK τ) (m : MM σ τ) (qA : (1 ≤ σ 22 6 → wtS (σ 22 5) (σ 22 6) (wA σ) k w zA) ∧ (σ 22 5 = 0 → zA = -1)) (qB : wtS (τ 0 27) (τ 0 29) (wB τ) k w zB) : zA = zB := by
  obtain ⟨⟨m1, m2, m3, m4⟩, -, -, m5⟩ := m
  rw [m3, m4] at qA
  have b0 := hK.1
  unfold wtS at qA qB
  by_cases q : τ 0 27 = 0
  · rw [if_neg (by omega)] at qB
    rw [qA.2 q, qB]
  · have a := qA.1 (whole1 hK q)
    by_cases y : (0 ≤ k ∧ k < τ 0 27) ∧ 0 ≤ w ∧ w ≤ 2
    · rw [if_pos y, (m5 k y.1.1 y.1.2).1] at a
      rw [if_pos y] at qB
      rw [a, qB]
    · rw [if_neg y] at a qB
      rw [a, qB]
theorem draw_al {r : Int} (hK : iK τ) (m : MM σ τ) (qA : drS (σ 22 5) (wA σ) r zA) (qB : drS (τ 0 27) (wB τ) r zB) : zA = zB := by
  obtain ⟨⟨m1, m2, m3, m4⟩, -, -, m5⟩ := m
  rw [m3] at qA
  exact drS_un (fun q a b => by rw [(m5 q a b).1]; exact wB_nn hK q a b) (fun q a b => (m5 q a b).1) qA qB
theorem joint_al {i j k l w : Int} (hK : iK τ) (m : MM σ τ) (qA : (1 ≤ σ 22 6 → jtS (σ 22 5) (σ 22 4) (σ 22 6) (wA σ) (kA σ) i j k l w zA) ∧ (σ 22 4 = 0 → zA = -1)) (qB : (τ 0 27 ≠ 0 → jtS (τ 0 27) (τ 0 28) (τ 0 29) (wB τ) (kB τ) i j k l w zB) ∧ (τ 0 27 = 0 → zB = -1)) : zA = zB := by
  obtain ⟨⟨m1, m2, m3, m4⟩, -, m0, m5⟩ := m
  rw [m2, m3, m4] at qA
  by_cases q : τ 0 27 = 0
  · rw [qA.2 (m0 q), qB.2 q]
  · have a := qA.1 (whole1 hK q)
    have b := qB.1 q
    unfold jtS at a b
    by_cases y : okJ4 (τ 0 28) i j k l w
    · rw [if_pos y, twS_cg (fun q x y => m5 q x y) y.1 y.2.2.1] at a
      rw [if_pos y] at b
      rw [a, b]
    · rw [if_neg y] at a b
      rw [a, b]
theorem pc_b : ∀ s : Fin 256, pc (s.val : Int) = sm (fun c => if bt (s.val : Int) c = true then 1 else 0) 8 := by decide +kernel
theorem pc_sm {s : Int} (h : 0 ≤ s ∧ s < 256) : pc s = sm (fun c => if bt s c = true then 1 else 0) 8 := fin1 (P := fun s => pc s = sm (fun c => if bt s c = true then 1 else 0) 8) pc_b h.1 h.2
theorem tw_pos {N r c : Int} {wt : Int → Int} {col : Int → Int → Int} (hw : ∀ q, 0 ≤ q → q < N → 1 ≤ wt q) : 0 < twS N wt col r c r c ↔ ∃ p, 0 ≤ p ∧ p < N ∧ col p r = c := by
  unfold twS
  constructor
  · intro h
    obtain ⟨p, a, b, d⟩ := sm_ex (f := fun p => if col p r = c ∧ col p r = c then wt p else 0) (n := N.toNat) (by omega)
    refine ⟨p, a, by omega, ?_⟩
    by_cases q : col p r = c
    · exact q
    · exact absurd (if_neg (fun y => q y.1)) d
  · rintro ⟨p, a, b, d⟩
    have x := sm_le (f := fun p => if col p r = c ∧ col p r = c then wt p else 0) (n := N.toNat) (fun q u v => by (try dsimp only); have := hw q u (by omega); split <;> omega) p a (by omega)
    try dsimp only at x
    rw [if_pos ⟨d, d⟩] at x
    have := hw p a b
    omega
theorem cu_al {N n r s : Int} {wt : Int → Int} {col col' : Int → Int → Int} (hn : 0 ≤ n ∧ n ≤ 8) (hr : 0 ≤ r ∧ r < n) (hw : ∀ q, 0 ≤ q → q < N → 1 ≤ wt q) (hc : ∀ q, 0 ≤ q → q < N → col q r = col' q r ∧ 0 ≤ col' q r ∧ col' q r < n) (h : seS N col r s) : pc s = cuS (fun c => twS N wt col' r c r c) n := by
  rw [pc_sm h.1]
  have bb : ∀ c : Int, 0 ≤ c → c < 8 → (bt s c = true ↔ ∃ p, 0 ≤ p ∧ p < N ∧ col' p r = c) := fun c a b => by
    rw [h.2 c a b]
    constructor
    · rintro ⟨p, x, y, z⟩; exact ⟨p, x, y, by rw [← (hc p x y).1]; exact z⟩
    · rintro ⟨p, x, y, z⟩; exact ⟨p, x, y, by rw [(hc p x y).1]; exact z⟩
  have e8 : (8 : Nat) = n.toNat + (8 - n.toNat) := by omega
  have x := sm_add (fun c => if bt s c = true then (1 : Int) else 0) n.toNat (8 - n.toNat)
  rw [← e8] at x
  have z := sm_bd (f := fun k => if bt s (((n.toNat : Nat) : Int) + k) = true then (1 : Int) else 0) (B := 0) (by decide) (n := 8 - n.toNat) (fun k a b => by
    try dsimp only
    rw [if_neg]
    · omega
    · intro q
      obtain ⟨p, u, v, w⟩ := (bb _ (by omega) (by omega)).mp q
      have := (hc p u v).2.2
      omega)
  have y : sm (fun c => if bt s c = true then (1 : Int) else 0) n.toNat = cuS (fun c => twS N wt col' r c r c) n := by
    unfold cuS
    refine sm_cg (fun c a b => ?_)
    have t := (bb c a (by omega)).trans (tw_pos (c := c) hw).symm
    by_cases q : bt s c = true
    · rw [if_pos q, if_pos (t.mp q)]
    · rw [if_neg q, if_neg (fun w => q (t.mpr w))]
  omega
theorem most_al {r w : Int} (hK : iK τ) (m : MM σ τ) (qA : mtS (σ 22 5) (σ 22 4) (wA σ) (kA σ) r w zA) (qB : moS (τ 0 27) (τ 0 28) (wB τ) (kB τ) r w zB) : zA = zB := by
  obtain ⟨⟨m1, m2, m3, m4⟩, -, m0, m5⟩ := m
  rw [m2, m3] at qA
  obtain ⟨-, -, k3, k4, -, -, kw, kc, -⟩ := hK
  rcases qA with ⟨a1, a2⟩ | ⟨a1, a2⟩ <;> rcases qB with ⟨b1, b2⟩ | ⟨b1, b2⟩
  · rw [a1, b1]
  · exact absurd b1 a2
  · exfalso
    have : τ 0 27 ≠ 0 := fun q => by have := m0 q; omega
    exact b2 ⟨⟨this, a1.1⟩, a1.2⟩
  · have tw : ∀ c, twS (τ 0 27) (wA σ) (kA σ) r c r c = twS (τ 0 27) (wB τ) (kB τ) r c r c := fun c => twS_cg (fun q x y => m5 q x y) a1.1 a1.1
    rcases a2 with ⟨w2, s, a3, a4⟩ | ⟨w2, b, a3, a4⟩ <;> rcases b2 with ⟨v2, b3⟩ | ⟨v2, b', b3, b4⟩
    · rw [a4, b3]
      exact cu_al ⟨k3, k4⟩ a1.1 (fun q x y => kw.1 q x y) (fun q x y => ⟨(m5 q x y).2 r a1.1.1 a1.1.2, kc q r x y a1.1.1 a1.1.2⟩) a3
    · exact absurd w2 v2
    · exact absurd v2 w2
    · have e := mxS_un (fun j _ _ => tw j) a3 b3
      subst e
      rw [a4, b4, tw]
theorem works_al {j t : Int} (hK : iK τ) (m : MM σ τ) (qA : wkS (σ 22 5) (σ 22 3) (wA σ) (kA σ) (σ 22 2 = 2 ∧ 0 ≤ j ∧ j < σ 22 3) j t zA) (qB : wkS (τ 0 27) (τ 0 31) (wB τ) (kB τ) (τ 0 30 = 2 ∧ 0 ≤ j ∧ j < τ 0 31) j t zB) : zA = zB := by
  have m' := m
  obtain ⟨⟨m1, m2, m3, m4⟩, mn, m0, m5⟩ := m
  rw [m1, m3] at qA
  rcases qA with ⟨a1, a2⟩ | ⟨⟨a0, a1⟩, p, a2, a3⟩ <;> rcases qB with ⟨b1, b2⟩ | ⟨⟨b0, b1⟩, p', b2, b3⟩
  · rw [a1, b1]
  · exfalso
    rw [b0, if_pos rfl] at mn
    exact a2 ⟨b0, by omega⟩
  · exfalso
    rw [a0, if_pos rfl] at mn
    exact b2 ⟨a0, by omega⟩
  · rw [b0, if_pos rfl] at mn
    have k2 := hK.two b0
    have e := draw_al hK m' (zA := p) (zB := p') (by rw [m3]; exact a2) b2
    subst e
    rcases a3 with ⟨a3, a4⟩ | ⟨a3, a4⟩ <;> rcases b3 with ⟨b3, b4⟩ | ⟨b3, b4⟩
    · rw [a4, b4]
    · omega
    · omega
    · have pl : p < τ 0 27 := by
        rcases b2 with ⟨q, -⟩ | ⟨q, -⟩ <;> omega
      rw [a4, b4, (m5 p a3 pl).2 j (by omega) (by omega), mn]
end G5
theorem paired_al {σ τ : eS} {x0 x1 x2 zA zB : Int} (hI : iB1 τ) (h : TT σ τ) (qA : (¬ okPr (tabA σ x0) (σ (x0.toNat + 2) 1) x1 x2 ∧ zA = -1) ∨ (okPr (tabA σ x0) (σ (x0.toNat + 2) 1) x1 x2 ∧ paS (σ (x0.toNat + 2) 1) (fun i j => x1 ≤ cT σ (x0.toNat + 2) i j) x2 zA)) (qB : (¬ okPr (tabB τ x0) (τ 1 x0) x1 x2 ∧ zB = -1) ∨ (okPr (tabB τ x0) (τ 1 x0) x1 x2 ∧ paS (τ 1 x0) (fun i j => x1 ≤ cB τ x0 i j) x2 zB)) : zA = zB := by
  have ta := tab_al hI h x0
  have ok : okPr (tabA σ x0) (σ (x0.toNat + 2) 1) x1 x2 ↔ okPr (tabB τ x0) (τ 1 x0) x1 x2 := by
    unfold okPr
    rw [ta]
    constructor
    · rintro ⟨t, w⟩
      rw [(h x0 t.1 t.2.1).1] at w
      exact ⟨t, w⟩
    · rintro ⟨t, w⟩
      rw [(h x0 t.1 t.2.1).1]
      exact ⟨t, w⟩
  rcases qA with ⟨a1, a2⟩ | ⟨a1, a2⟩ <;> rcases qB with ⟨b1, b2⟩ | ⟨b1, b2⟩
  · rw [a2, b2]
  · exact absurd (ok.mpr b1) a1
  · exact absurd (ok.mp a1) b1
  · have e := h x0 b1.1.1 b1.1.2.1
    have tn := tb_n hI b1.1
    rw [e.1] at a2
    exact paS_un ⟨by omega, tn.2⟩ b1.2.2 (fun i j a b c d => by rw [e.2.2.2 i j a b c d]) a2 b2
/-! what was shown -/
def SS (σ τ : eS) : Prop := ∃ l, bfl (fun k => σ 47 k) (σ 46 1) l ∧ bfl (fun k => τ 23 k) (τ 0 42) l
theorem SS_keep {σ τ σ' τ' : eS} (h : SS σ τ) (a : swS σ σ') (b : swK τ τ') : SS σ' τ' := by
  obtain ⟨l, h1, h2⟩ := h
  have e1 : (fun k => σ' 47 k) = (fun k => σ 47 k) := by funext k; exact a _ _ (by decide) (by decide)
  have e2 : (fun k => τ' 23 k) = (fun k => τ 23 k) := by funext k; exact b.2 k
  refine ⟨l, ?_, ?_⟩
  · rw [e1, a 46 1 (by decide) (by decide)]; exact h1
  · rw [e2, b.1]; exact h2
theorem SS_show {σ τ σ' τ' : eS} {zA zB : Int} (m : MM σ τ) (qA : zA = σ' 46 1 ∧ bfl (fun k => σ' 47 k) (σ' 46 1) (shL (wA σ) (kA σ) (σ 22 4) (σ 22 5).toNat)) (qB : zB = τ' 0 42 ∧ bfl (fun k => τ' 23 k) (τ' 0 42) (shL (wB τ) (kB τ) (τ 0 28) (τ 0 27).toNat)) : SS σ' τ' ∧ zA = zB := by
  obtain ⟨⟨m1, m2, m3, m4⟩, -, -, m5⟩ := m
  obtain ⟨a1, a2⟩ := qA
  obtain ⟨b1, b2⟩ := qB
  rw [m2, m3, shL_cg (fun q x y => m5 q x (by omega))] at a2
  refine ⟨⟨_, a2, b2⟩, ?_⟩
  rw [a1, b1, a2.1, b2.1]
theorem out_al {σ τ : eS} {i zA zB : Int} (h : SS σ τ) (qA : ouS (σ 46 1) (fun k => σ 47 k) i zA) (qB : ouS (τ 0 42) (fun k => τ 23 k) i zB) : zA = zB := by
  obtain ⟨l, ⟨h1, h2⟩, g1, g2⟩ := h
  rcases qA with ⟨a1, a2⟩ | ⟨a1, a2⟩ <;> rcases qB with ⟨b1, b2⟩ | ⟨b1, b2⟩
  · rw [a1, b1]
  · exfalso; omega
  · exfalso; omega
  · have x := h2 i.toNat (by omega)
    have y := g2 i.toNat (by omega)
    rw [x] at y
    have z := Option.some.inj y
    rw [Int.toNat_of_nonneg a1.1] at z
    rw [a2, b2]
    exact z
theorem mixing_al {σ τ : eS} {x0 zA zB : Int} (hI : iB1 τ) (h : TT σ τ) (qA : ((¬ tabA σ x0 ∧ zA = -1) ∨ (tabA σ x0 ∧ mxG (σ (x0.toNat + 2) 1) (cT σ (x0.toNat + 2)) zA))) (qB : ((¬ tabB τ x0 ∧ zB = -1) ∨ (tabB τ x0 ∧ mxG (τ 1 x0) (cB τ x0) zB))) : zA = zB := by
  have ta := tab_al hI h x0
  rcases qA with ⟨a1, a2⟩ | ⟨a1, a2⟩ <;> rcases qB with ⟨b1, b2⟩ | ⟨b1, b2⟩
  · rw [a2, b2]
  · exact absurd (ta.mpr b1) a1
  · exact absurd (ta.mp a1) b1
  · have e := h x0 b1.1 b1.2.1
    rw [e.1] at a2
    exact mxG_un (fun i j a b c d => e.2.2.2 i j a b c d) a2 b2
theorem kin_al {σ τ : eS} {x0 x1 zA zB : Int} (hI : iB1 τ) (h : TT σ τ) (qA : ((¬ okKn (tabA σ x0) (σ (x0.toNat + 2) 1) x1 ∧ zA = -1) ∨ (okKn (tabA σ x0) (σ (x0.toNat + 2) 1) x1 ∧ kiS (σ (x0.toNat + 2) 1) (cT σ (x0.toNat + 2)) x1 zA))) (qB : ((¬ okKn (tabB τ x0) (τ 1 x0) x1 ∧ zB = -1) ∨ (okKn (tabB τ x0) (τ 1 x0) x1 ∧ kiS (τ 1 x0) (cB τ x0) x1 zB))) : zA = zB := by
  have ta := tab_al hI h x0
  have ok : okKn (tabA σ x0) (σ (x0.toNat + 2) 1) x1 ↔ okKn (tabB τ x0) (τ 1 x0) x1 := by
    unfold okKn
    rw [ta]
    constructor
    · rintro ⟨t, w⟩
      rw [(h x0 t.1 t.2.1).1] at w
      exact ⟨t, w⟩
    · rintro ⟨t, w⟩
      rw [(h x0 t.1 t.2.1).1]
      exact ⟨t, w⟩
  rcases qA with ⟨a1, a2⟩ | ⟨a1, a2⟩ <;> rcases qB with ⟨b1, b2⟩ | ⟨b1, b2⟩
  · rw [a2, b2]
  · exact absurd (ok.mpr b1) a1
  · exact absurd (ok.mp a1) b1
  · have e := h x0 b1.1.1 b1.1.2.1
    have tn := tb_n hI b1.1
    rw [e.1] at a2
    exact kiS_un tn.2 (fun i j a b c d => e.2.2.2 i j a b c d) b1.2 a2 b2
end
section
/-! LOOK alike -/
theorem look_al {σ τ : eS} {zA zB x0 x1 : Int} (hI : iB1 τ) (hA : IA σ) (h : TT σ τ) (qA : loA σ x0 x1 zA) (qB : loB τ x0 x1 zB) : zA = zB := by
  rcases qA with ⟨a1, a2⟩ | ⟨a1, a2⟩ <;> rcases qB with ⟨b1, b2⟩ | ⟨b1, b2⟩
  · omega
  · exact absurd b1 a1
  · exact absurd a1 b1
  · have e := h x0 a1.1 a1.2
    have eag : ag (τ 1 x0) (cT σ (x0.toNat + 2)) (cB τ x0) := fun i j a b c d => e.2.2.2 i j a b c d
    have k0 : zA = σ (x0.toNat + 2) 1 → zB = τ 1 x0 → zA = zB := fun a b => by rw [a, b, e.1]
    have k1 : zA = (if σ (x0.toNat + 2) 1 = 0 then 0 else σ (x0.toNat + 2) 2) → zB = τ 2 x0 → zA = zB := fun a b => by
      rw [a, b]
      by_cases q : τ 1 x0 = 0
      · rw [if_pos (by rw [e.1]; exact q), e.2.2.1 q]
      · rw [if_neg (by rw [e.1]; exact q), e.2.1 q]
    have k2 : zA = σ (x0.toNat + 2) 3 → ((evB τ x0 ∧ zB = rowB τ x0 0) ∨ (¬ evB τ x0 ∧ zB = -1)) → zA = zB := fun a b => by
      have ev := ev_al hI hA h x0
      rw [a]
      rcases b with ⟨b, c⟩ | ⟨b, c⟩
      · have va := ev.mpr b
        rw [c]
        rcases (hA.2.1 _ (sl_tA ⟨a1.1, a1.2⟩)).2 with w | ⟨-, w⟩
        · exact absurd w.1 va.2.2
        · rw [w, row_al e ⟨by omega, b.1.2.2⟩]
      · rw [c]
        refine Classical.byContradiction (fun q => b (ev.mp ⟨a1.1, a1.2, q⟩))
    have k3 : zA = cnV (σ (x0.toNat + 2) 1) (cT σ (x0.toNat + 2)) → zB = cnV (τ 1 x0) (cB τ x0) → zA = zB := fun a b => by rw [a, b, e.1]; exact cnV_cg eag
    have k4 : gcD (σ (x0.toNat + 2) 1) (cT σ (x0.toNat + 2)) (fun _ _ => True) zA → gcD (τ 1 x0) (cB τ x0) (fun _ _ => True) zB → zA = zB := fun a b => by rw [e.1] at a; exact gcD_un eag a b
    have k5 : zA = gpV (σ (x0.toNat + 2) 1) (cT σ (x0.toNat + 2)) → zB = gpV (τ 1 x0) (cB τ x0) → zA = zB := fun a b => by rw [a, b, e.1]; exact gpV_cg eag
    rcases a2 with ⟨w, a2⟩ | ⟨w, a2⟩ | ⟨w, a2⟩ | ⟨w, a2⟩ | ⟨w, a2⟩ | ⟨w, a2⟩ | ⟨w, a2⟩
    · rcases b2 with ⟨v, b2⟩ | ⟨v, b2⟩ | ⟨v, b2⟩ | ⟨v, b2⟩ | ⟨v, b2⟩ | ⟨v, b2⟩ | ⟨v, b2⟩ <;> first | exact k0 a2 b2 | (clear k0 k1 k2 k3 k4 k5 b2; omega)
    · rcases b2 with ⟨v, b2⟩ | ⟨v, b2⟩ | ⟨v, b2⟩ | ⟨v, b2⟩ | ⟨v, b2⟩ | ⟨v, b2⟩ | ⟨v, b2⟩ <;> first | exact k1 a2 b2 | (clear k0 k1 k2 k3 k4 k5 b2; omega)
    · rcases b2 with ⟨v, b2⟩ | ⟨v, b2⟩ | ⟨v, b2⟩ | ⟨v, b2⟩ | ⟨v, b2⟩ | ⟨v, b2⟩ | ⟨v, b2⟩ <;> first | exact k2 a2 b2 | (clear k0 k1 k2 k3 k4 k5 b2; omega)
    · rcases b2 with ⟨v, b2⟩ | ⟨v, b2⟩ | ⟨v, b2⟩ | ⟨v, b2⟩ | ⟨v, b2⟩ | ⟨v, b2⟩ | ⟨v, b2⟩ <;> first | exact k3 a2 b2 | (clear k0 k1 k2 k3 k4 k5 b2; omega)
    · rcases b2 with ⟨v, b2⟩ | ⟨v, b2⟩ | ⟨v, b2⟩ | ⟨v, b2⟩ | ⟨v, b2⟩ | ⟨v, b2⟩ | ⟨v, b2⟩ <;> first | exact k4 a2 b2 | (clear k0 k1 k2 k3 k4 k5 b2; omega)
    · rcases b2 with ⟨v, b2⟩ | ⟨v, b2⟩ | ⟨v, b2⟩ | ⟨v, b2⟩ | ⟨v, b2⟩ | ⟨v, b2⟩ | ⟨v, b2⟩ <;> first | exact k5 a2 b2 | (clear k0 k1 k2 k3 k4 k5 b2; omega)
    · rcases b2 with ⟨v, b2⟩ | ⟨v, b2⟩ | ⟨v, b2⟩ | ⟨v, b2⟩ | ⟨v, b2⟩ | ⟨v, b2⟩ | ⟨v, b2⟩ <;> first | (rw [a2, b2]; done) | (clear k0 k1 k2 k3 k4 k5 b2; omega)
theorem x_Ev_look {σ : eS} {x0 x1 : Int} (h : IA σ) : MtI shA M_Ev_look [vr 0, vi x0, vi x1] σ (fun σ' z => QA σ σ' ∧ loA σ x0 x1 z) := (t_Ev_look h).weaken (fun σ' v q => by obtain ⟨z, e1, g1, g2⟩ := q; subst g1; exact ⟨z, e1, QA_rf h, g2⟩)
theorem x_Mo_look {σ : eS} {x0 x1 : Int} (h : IB σ) : MtI shB M_Mo_look [vr 0, vi x0, vi x1] σ (fun σ' z => QB σ σ' ∧ loB σ x0 x1 z) := (t_Mo_look h.1).weaken (fun σ' v q => by obtain ⟨z, e1, g1, g2⟩ := q; exact ⟨z, e1, QB_cg h g1 (fun c k w => by omega), g2⟩)
end
section
/-! the relation of both sides, call by call -/
/-- few searches were made up to the place i of the script -/
def sr (i : Int) (σ : eS) : Prop := iSe σ ∧ σ 16 3 ≤ 2500 * i
def JJ (i : Int) (σ τ : eS) : Prop := IA σ ∧ IB τ ∧ TP σ τ ∧ TT σ τ ∧ (MM σ τ ∧ SS σ τ) ∧ sr i σ
theorem JJ.iby {i : Int} {σ τ : eS} (h : JJ i σ τ) : IB τ ∧ byt τ := ⟨h.2.1, h.2.2.1.2.2.1⟩
theorem JJ.pe {i : Int} {σ τ : eS} (h : JJ i σ τ) (hi : i ≤ 4096) : IA σ ∧ iSe σ ∧ σ 16 3 + 64 < 2147483647 := ⟨h.1, h.2.2.2.2.2.1, by have := h.2.2.2.2.2.2; omega⟩
theorem sr_s {i : Int} {σ σ' : eS} (hi : i ≤ 4096) (h : sr i σ) (k : mkS 20000 σ σ') : sr (i + 8) σ' := by
  obtain ⟨a, b⟩ := h
  obtain ⟨c, d, e⟩ := k a (by omega)
  exact ⟨c, by omega⟩
/-- the parts and the searches, where a call leaves them -/
theorem ot_s {i : Int} {σ τ σ' τ' : eS} (hi : i ≤ 4096) (h : JJ i σ τ) (a : otS σ σ') (b : otK τ τ') : (MM σ' τ' ∧ SS σ' τ') ∧ sr (i + 8) σ' := ⟨⟨MM_keep h.2.2.2.2.1.1 a.1 b.1, SS_keep h.2.2.2.2.1.2 a.2.1 b.2⟩, sr_s hi h.2.2.2.2.2 a.2.2⟩
theorem JJ.mn {i : Int} {σ τ : eS} (h : JJ i σ τ) : JJ (i + 8) σ τ := ⟨h.1, h.2.1, h.2.2.1, h.2.2.2.1, h.2.2.2.2.1, h.2.2.2.2.2.1, by have := h.2.2.2.2.2.2; omega⟩
section J9
variable {i : Int} {σ τ σ' τ' : eS} {zA zB : Int}
theorem j_keep (hi : i ≤ 4096) (h : JJ i σ τ) (a : QA σ σ') (b : QB τ τ') : JJ (i + 8) σ' τ' :=
  have o := ot_s hi h a.2.2.2 b.2.2.2
  ⟨a.1, b.1, TP_keep h.2.2.1 a.2.1 b.2.1, TT_keep h.2.2.2.1 a.2.2.1 b.2.2.1, o.1, o.2⟩
theorem j_keepK (hi : i ≤ 4096) (h : JJ i σ τ) (a : QAk σ σ') (b : QB τ τ') : JJ (i + 8) σ' τ' :=
  have o := ot_s hi h a.2.2.2 b.2.2.2
  ⟨a.1, b.1, TP_keep h.2.2.1 a.2.1 b.2.1, TT_keepW h.2.2.2.1 a.2.2.1.v b.2.2.1, o.1, o.2⟩
theorem j_keepR (hi : i ≤ 4096) (h : JJ i σ τ) (a : QAr σ σ') (b : QB τ τ') : JJ (i + 8) σ' τ' :=
  have o := ot_s hi h a.2.2.2 b.2.2.2
  ⟨a.1, b.1, TP_keep h.2.2.1 a.2.1 b.2.1, TT_keepW h.2.2.2.1 a.2.2.1.v b.2.2.1, o.1, o.2⟩
theorem j_show (hi : i ≤ 4096) (h : JJ i σ τ) (qA : QAw σ σ' ∧ zA = σ' 46 1 ∧ bfl (fun k => σ' 47 k) (σ' 46 1) (shL (wA σ) (kA σ) (σ 22 4) (σ 22 5).toNat)) (qB : QBw τ τ' ∧ zB = τ' 0 42 ∧ bfl (fun k => τ' 23 k) (τ' 0 42) (shL (wB τ) (kB τ) (τ 0 28) (τ 0 27).toNat)) : JJ (i + 8) σ' τ' ∧ zA = zB :=
  have t := SS_show h.2.2.2.2.1.1 qA.2 qB.2
  have a := qA.1
  have b := qB.1
  ⟨⟨a.1, b.1, TP_keep h.2.2.1 a.2.1 b.2.1, TT_keep h.2.2.2.1 a.2.2.1 b.2.2.1, ⟨MM_keep h.2.2.2.2.1.1 a.2.2.2.1 b.2.2.2, t.1⟩, sr_s hi h.2.2.2.2.2 a.2.2.2.2⟩, t.2⟩
theorem j_out {x0 : Int} (hi : i ≤ 4096) (h : JJ i σ τ) (qA : QA σ σ' ∧ ouS (σ 46 1) (fun k => σ 47 k) x0 zA) (qB : QB τ τ' ∧ ouS (τ 0 42) (fun k => τ 23 k) x0 zB) : JJ (i + 8) σ' τ' ∧ zA = zB := ⟨j_keep hi h qA.1 qB.1, out_al h.2.2.2.2.1.2 qA.2 qB.2⟩
theorem j_feed {a b c d e : Int} (hi : i ≤ 4096) (h : JJ i σ τ) (qA : IA σ' ∧ ((σ 10 3 + 20 ≤ 600 ∧ fdA σ (σ 10 3) a b c d e σ' ∧ zA = σ 10 3 + 20) ∨ (600 < σ 10 3 + 20 ∧ σ' = σ ∧ zA = -1))) (qB : IB τ' ∧ ((τ 0 6 + 20 ≤ 600 ∧ τ' = fd τ (τ 0 6) a b c d e ∧ zB = τ 0 6 + 20) ∨ (600 < τ 0 6 + 20 ∧ τ' = τ ∧ zB = -1))) : JJ (i + 8) σ' τ' ∧ zA = zB := by
  have t := TP_feed h.2.2.1 qA.2 qB.2
  have o : otS σ σ' ∧ otK τ τ' := by
    constructor
    · rcases qA.2 with ⟨-, q, -⟩ | ⟨-, q, -⟩
      · exact otS_fr q.1 (fun c k w => by simp only [rgG]; omega)
      · rw [q]; exact otS_rf _
    · rcases qB.2 with ⟨-, q, -⟩ | ⟨-, q, -⟩
      · rw [q]; exact ⟨fun c k w => fd_o _ _ _ _ _ _ _ _ _ (by omega) (by omega), fd_o _ _ _ _ _ _ _ _ _ (by omega) (by omega), fun k => fd_o _ _ _ _ _ _ _ _ _ (by omega) (by omega)⟩
      · rw [q]; exact otK_rf _
  refine ⟨⟨qA.1, qB.1, t.1, TT_keep h.2.2.2.1 ?_ ?_, (ot_s hi h o.1 o.2).1, (ot_s hi h o.1 o.2).2⟩, t.2⟩
  · rcases qA.2 with ⟨-, q, -⟩ | ⟨-, q, -⟩
    · exact fun c k x y z => q.1 c k (by simp only [rgG]; omega)
    · rw [q]; exact tbS_rf _
  · rcases qB.2 with ⟨-, q, -⟩ | ⟨-, q, -⟩
    · rw [q]; exact fun k => ⟨fd_o _ _ _ _ _ _ _ _ _ (by omega) (by omega), fd_o _ _ _ _ _ _ _ _ _ (by omega) (by omega), fd_o _ _ _ _ _ _ _ _ _ (by omega) (by omega)⟩
    · rw [q]; exact tbK_rf _
theorem j_end {n : Int} (hi : i ≤ 4096) (h : JJ i σ τ) (qA : IA σ' ∧ ((0 ≤ n ∧ n ≤ σ 10 3 ∧ σ' = up σ 10 3 n ∧ zA = 1) ∨ (¬ (0 ≤ n ∧ n ≤ σ 10 3) ∧ σ' = σ ∧ zA = 0))) (qB : IB τ' ∧ ((0 ≤ n ∧ n ≤ τ 0 6 ∧ τ' = up τ 0 6 n ∧ zB = 1) ∨ (¬ (0 ≤ n ∧ n ≤ τ 0 6) ∧ τ' = τ ∧ zB = 0))) : JJ (i + 8) σ' τ' ∧ zA = zB := by
  have t := TP_end h.2.2.1 qA.2 qB.2
  have o : otS σ σ' ∧ otK τ τ' := by
    constructor
    · rcases qA.2 with ⟨-, -, q, -⟩ | ⟨-, q, -⟩
      · rw [q]; exact otS_fr (P := fun c k => c = 10 ∧ k = 3) (fr_up fr.rf ⟨rfl, rfl⟩) (fun c k w => by omega)
      · rw [q]; exact otS_rf _
    · rcases qB.2 with ⟨-, -, q, -⟩ | ⟨-, q, -⟩
      · rw [q]; exact ⟨fun c k w => by rw [up_if, if_neg (by omega)], up_nk _ _ _ _ (by decide), fun k => up_ne _ _ _ _ (by decide)⟩
      · rw [q]; exact otK_rf _
  refine ⟨⟨qA.1, qB.1, t.1, TT_keep h.2.2.2.1 ?_ ?_, (ot_s hi h o.1 o.2).1, (ot_s hi h o.1 o.2).2⟩, t.2⟩
  · rcases qA.2 with ⟨-, -, q, -⟩ | ⟨-, q, -⟩
    · rw [q]; exact fun c k x y z => up_ne _ _ _ _ (by omega)
    · rw [q]; exact tbS_rf _
  · rcases qB.2 with ⟨-, -, q, -⟩ | ⟨-, q, -⟩
    · rw [q]; exact fun k => ⟨up_ne _ _ _ _ (by decide), up_ne _ _ _ _ (by decide), up_ne _ _ _ _ (by decide)⟩
    · rw [q]; exact tbK_rf _
theorem j_table {s : Int} (hi : i ≤ 4096) (h : JJ i σ τ) (qA : IA σ' ∧ (σ' 10 3 = 0 ∧ TA σ s σ' zA) ∧ otS σ σ') (qB : IB τ' ∧ (τ' 0 6 = 0 ∧ TB τ s τ' zB) ∧ otK τ τ') : JJ (i + 8) σ' τ' ∧ zA = zB :=
  have t := TP_table h.2.2.1 qA.2.1 qB.2.1
  have o := ot_s hi h qA.2.2 qB.2.2
  ⟨⟨qA.1, qB.1, t.1, TT_table h.2.1.1 qA.1 h.2.2.1 h.2.2.2.1 qA.2.1 qB.2.1, o.1, o.2⟩, t.2⟩
theorem j_fault {w : Int} (hi : i ≤ 4096) (h : JJ i σ τ) (qA : QA σ σ' ∧ zA = if w = 0 then σ 10 4 else if w = 1 then σ 10 5 else -1) (qB : QB τ τ' ∧ zB = if w = 0 then τ 0 7 else if w = 1 then τ 0 8 else -1) : JJ (i + 8) σ' τ' ∧ zA = zB :=
  ⟨j_keep hi h qA.1 qB.1, by rw [qA.2, qB.2, h.2.2.1.2.2.2.1, h.2.2.1.2.2.2.2]⟩
theorem j_mix {x0 x1 x2 x3 x4 x5 x6 : Int} (hi : i ≤ 4096) (h : JJ i σ τ) (qA : QA0 σ σ' ∧ XmA σ x0 x1 x2 x3 x4 x5 x6 σ' zA) (qB : QB0 τ τ' ∧ XmB τ x0 x1 x2 x3 x4 x5 x6 τ' zB) : JJ (i + 8) σ' τ' ∧ zA = zB := 
  have t := TT_mix h.2.1.1 h.2.2.2.1 qA.2 qB.2
  have o := ot_s hi h qA.1.2.2 qB.1.2.2
  ⟨⟨qA.1.1, qB.1.1, TP_keep h.2.2.1 qA.1.2.1 qB.1.2.1, t.1, o.1, o.2⟩, t.2⟩
theorem j_times {x0 x1 x2 : Int} (hi : i ≤ 4096) (h : JJ i σ τ) (qA : QA0 σ σ' ∧ XtA σ x0 x1 x2 σ' zA) (qB : QB0 τ τ' ∧ XtB τ x0 x1 x2 τ' zB) : JJ (i + 8) σ' τ' ∧ zA = zB := 
  have t := TT_times h.2.1.1 h.2.2.2.1 qA.2 qB.2
  have o := ot_s hi h qA.1.2.2 qB.1.2.2
  ⟨⟨qA.1.1, qB.1.1, TP_keep h.2.2.1 qA.1.2.1 qB.1.2.1, t.1, o.1, o.2⟩, t.2⟩
theorem j_turn {x0 x1 x2 x3 : Int} (hi : i ≤ 4096) (h : JJ i σ τ) (qA : QA0 σ σ' ∧ XuA σ x0 x1 x2 x3 σ' zA) (qB : QB0 τ τ' ∧ XuB τ x0 x1 x2 x3 τ' zB) : JJ (i + 8) σ' τ' ∧ zA = zB := 
  have t := TT_turn h.2.1.1 h.2.2.2.1 qA.2 qB.2
  have o := ot_s hi h qA.1.2.2 qB.1.2.2
  ⟨⟨qA.1.1, qB.1.1, TP_keep h.2.2.1 qA.1.2.1 qB.1.2.1, t.1, o.1, o.2⟩, t.2⟩
theorem j_cell {x0 x1 x2 : Int} (hi : i ≤ 4096) (h : JJ i σ τ) (qA : QA σ σ' ∧ ((celA σ x0 x1 x2 ∧ zA = cT σ (x0.toNat + 2) x1 x2) ∨ (¬ celA σ x0 x1 x2 ∧ zA = -1))) (qB : QB τ τ' ∧ ((celB τ x0 x1 x2 ∧ zB = cB τ x0 x1 x2) ∨ (¬ celB τ x0 x1 x2 ∧ zB = -1))) : JJ (i + 8) σ' τ' ∧ zA = zB := ⟨j_keep hi h qA.1 qB.1, cell_al h.2.1.1 h.2.2.2.1 qA.2 qB.2⟩
theorem j_uneven {x0 : Int} (hi : i ≤ 4096) (h : JJ i σ τ) (qA : QA σ σ' ∧ ((¬ tabA σ x0 ∧ zA = -1) ∨ (tabA σ x0 ∧ unev (rowT σ (x0.toNat + 2)) (colT σ (x0.toNat + 2)) (σ (x0.toNat + 2) 1) zA))) (qB : QB τ τ' ∧ ((¬ tabB τ x0 ∧ zB = -1) ∨ (tabB τ x0 ∧ unev (rowB τ x0) (colB τ x0) (τ 1 x0) zB))) : JJ (i + 8) σ' τ' ∧ zA = zB := ⟨j_keep hi h qA.1 qB.1, uneven_al h.2.1.1 h.2.2.2.1 qA.2 qB.2⟩
theorem j_lack {x0 x1 x2 : Int} (hi : i ≤ 4096) (h : JJ i σ τ) (qA : QA σ σ' ∧ ((¬ okL (tabA σ x0) x1 x2 ∧ zA = -1) ∨ (okL (tabA σ x0) x1 x2 ∧ zA = lackV (σ (x0.toNat + 2) 1) (fun i j => x1 ≤ cT σ (x0.toNat + 2) i j) x2))) (qB : QB τ τ' ∧ ((¬ okL (tabB τ x0) x1 x2 ∧ zB = -1) ∨ (okL (tabB τ x0) x1 x2 ∧ zB = lackV (τ 1 x0) (fun i j => x1 ≤ cB τ x0 i j) x2))) : JJ (i + 8) σ' τ' ∧ zA = zB := ⟨j_keep hi h qA.1 qB.1, lack_al h.2.1.1 h.2.2.2.1 qA.2 qB.2⟩
theorem j_permanent {x0 : Int} (hi : i ≤ 4096) (h : JJ i σ τ) (qA : QA σ σ' ∧ ((¬ tabA σ x0 ∧ zA = -1) ∨ (tabA σ x0 ∧ pmA (σ (x0.toNat + 2) 1) (cT σ (x0.toNat + 2)) zA))) (qB : QB τ τ' ∧ ((¬ tabB τ x0 ∧ zB = -1) ∨ (tabB τ x0 ∧ pmA (τ 1 x0) (cB τ x0) zB))) : JJ (i + 8) σ' τ' ∧ zA = zB := ⟨j_keep hi h qA.1 qB.1, perm_al h.2.1.1 h.2.2.2.1 qA.2 qB.2⟩
theorem j_ways {x0 x1 : Int} (hi : i ≤ 4096) (h : JJ i σ τ) (qA : QA σ σ' ∧ ((¬ okW (tabA σ x0) x1 ∧ zA = -1) ∨ (okW (tabA σ x0) x1 ∧ zA = wyV (σ (x0.toNat + 2) 1) (fun i j => x1 ≤ cT σ (x0.toNat + 2) i j)))) (qB : QB τ τ' ∧ ((¬ okW (tabB τ x0) x1 ∧ zB = -1) ∨ (okW (tabB τ x0) x1 ∧ zB = wyV (τ 1 x0) (fun i j => x1 ≤ cB τ x0 i j)))) : JJ (i + 8) σ' τ' ∧ zA = zB := ⟨j_keep hi h qA.1 qB.1, ways_al h.2.1.1 h.2.2.2.1 qA.2 qB.2⟩
theorem j_widest {x0 : Int} (hi : i ≤ 4096) (h : JJ i σ τ) (qA : QA σ σ' ∧ ((¬ tabA σ x0 ∧ zA = -1) ∨ (tabA σ x0 ∧ wdA (σ (x0.toNat + 2) 1) (fun i j => 0 ≤ cT σ (x0.toNat + 2) i j) (cT σ (x0.toNat + 2)) zA))) (qB : QB τ τ' ∧ ((¬ tabB τ x0 ∧ zB = -1) ∨ (tabB τ x0 ∧ wdA (τ 1 x0) (fun i j => 0 ≤ wk (wo τ x0 (τ 1 x0) (τ 1 x0 * τ 1 x0)) i j) (wk (wo τ x0 (τ 1 x0) (τ 1 x0 * τ 1 x0))) zB))) : JJ (i + 8) σ' τ' ∧ zA = zB := ⟨j_keep hi h qA.1 qB.1, widest_al h.2.1.1 h.2.2.2.1 qA.2 qB.2⟩
theorem j_best {x0 x1 : Int} (hi : i ≤ 4096) (h : JJ i σ τ) (qA : QA σ σ' ∧ ((¬ okBs (tabA σ x0) (σ (x0.toNat + 2) 1) x1 ∧ zA = -1) ∨ (okBs (tabA σ x0) (σ (x0.toNat + 2) 1) x1 ∧ bsA (σ (x0.toNat + 2) 1) (fun i j => 0 ≤ cT σ (x0.toNat + 2) i j) (cT σ (x0.toNat + 2)) x1 zA))) (qB : QB τ τ' ∧ ((¬ okBs (tabB τ x0) (τ 1 x0) x1 ∧ zB = -1) ∨ (okBs (tabB τ x0) (τ 1 x0) x1 ∧ bsA (τ 1 x0) (fun i j => 0 ≤ wk (wo τ x0 (τ 1 x0) (τ 1 x0 * τ 1 x0)) i j) (wk (wo τ x0 (τ 1 x0) (τ 1 x0 * τ 1 x0))) x1 zB))) : JJ (i + 8) σ' τ' ∧ zA = zB := ⟨j_keep hi h qA.1 qB.1, best_al h.2.1.1 h.2.2.2.1 qA.2 qB.2⟩
theorem j_weight {x0 x1 : Int} (hi : i ≤ 4096) (h : JJ i σ τ) (qA : QA σ σ' ∧ ((1 ≤ σ 22 6 → wtS (σ 22 5) (σ 22 6) (wA σ) x0 x1 zA) ∧ (σ 22 5 = 0 → zA = -1))) (qB : QB τ τ' ∧ wtS (τ 0 27) (τ 0 29) (wB τ) x0 x1 zB) : JJ (i + 8) σ' τ' ∧ zA = zB := ⟨j_keep hi h qA.1 qB.1, weight_al h.2.1.2.1 h.2.2.2.2.1.1 qA.2 qB.2⟩
theorem j_draw {x0 : Int} (hi : i ≤ 4096) (h : JJ i σ τ) (qA : QA σ σ' ∧ drS (σ 22 5) (wA σ) x0 zA) (qB : QB τ τ' ∧ drS (τ 0 27) (wB τ) x0 zB) : JJ (i + 8) σ' τ' ∧ zA = zB := ⟨j_keep hi h qA.1 qB.1, draw_al h.2.1.2.1 h.2.2.2.2.1.1 qA.2 qB.2⟩
theorem j_joint {x0 x1 x2 x3 x4 : Int} (hi : i ≤ 4096) (h : JJ i σ τ) (qA : QA σ σ' ∧ ((1 ≤ σ 22 6 → jtS (σ 22 5) (σ 22 4) (σ 22 6) (wA σ) (kA σ) x0 x1 x2 x3 x4 zA) ∧ (σ 22 4 = 0 → zA = -1))) (qB : QB τ τ' ∧ ((τ 0 27 ≠ 0 → jtS (τ 0 27) (τ 0 28) (τ 0 29) (wB τ) (kB τ) x0 x1 x2 x3 x4 zB) ∧ (τ 0 27 = 0 → zB = -1))) : JJ (i + 8) σ' τ' ∧ zA = zB := ⟨j_keep hi h qA.1 qB.1, joint_al h.2.1.2.1 h.2.2.2.2.1.1 qA.2 qB.2⟩
theorem j_most {x0 x1 : Int} (hi : i ≤ 4096) (h : JJ i σ τ) (qA : QA σ σ' ∧ mtS (σ 22 5) (σ 22 4) (wA σ) (kA σ) x0 x1 zA) (qB : QB τ τ' ∧ moS (τ 0 27) (τ 0 28) (wB τ) (kB τ) x0 x1 zB) : JJ (i + 8) σ' τ' ∧ zA = zB := ⟨j_keep hi h qA.1 qB.1, most_al h.2.1.2.1 h.2.2.2.2.1.1 qA.2 qB.2⟩
theorem j_works {x0 x1 : Int} (hi : i ≤ 4096) (h : JJ i σ τ) (qA : QA σ σ' ∧ wkS (σ 22 5) (σ 22 3) (wA σ) (kA σ) (σ 22 2 = 2 ∧ 0 ≤ x0 ∧ x0 < σ 22 3) x0 x1 zA) (qB : QB τ τ' ∧ wkS (τ 0 27) (τ 0 31) (wB τ) (kB τ) (τ 0 30 = 2 ∧ 0 ≤ x0 ∧ x0 < τ 0 31) x0 x1 zB) : JJ (i + 8) σ' τ' ∧ zA = zB := ⟨j_keep hi h qA.1 qB.1, works_al h.2.1.2.1 h.2.2.2.2.1.1 qA.2 qB.2⟩
theorem j_kept {x0 : Int} (hi : i ≤ 4096) (h : JJ i σ τ) (qA : QA σ σ' ∧ zA = if x0 = 0 then σ 22 2 else if x0 = 1 then σ 22 5 else if x0 = 2 then σ 22 6 else if x0 = 3 then σ 22 3 else if x0 = 4 then σ 10 3 else -1) (qB : QB τ τ' ∧ zB = if x0 = 0 then τ 0 30 else if x0 = 1 then τ 0 27 else if x0 = 2 then τ 0 29 else if x0 = 3 then (if τ 0 30 = 2 then τ 0 31 else τ 0 28) else if x0 = 4 then τ 0 6 else -1) : JJ (i + 8) σ' τ' ∧ zA = zB := by
  obtain ⟨⟨m1, m2, m3, m4⟩, mn, -, -⟩ := h.2.2.2.2.1.1
  have t6 := h.2.2.1.1
  refine ⟨j_keep hi h qA.1 qB.1, ?_⟩
  rw [qA.2, qB.2, m1, m3, m4, mn, t6]
theorem j_part {x0 x1 : Int} (hi : i ≤ 4096) (h : JJ i σ τ) (qA : QA σ σ' ∧ prS (σ 22 5) (σ 22 4) (kA σ) x0 x1 zA) (qB : QB τ τ' ∧ ((zB = τ 13 (8 * x0 + x1) ∧ 0 ≤ x0 ∧ x0 < τ 0 27 ∧ 0 ≤ x1 ∧ x1 < τ 0 28) ∨ (zB = -1 ∧ ¬ (0 ≤ x0 ∧ x0 < τ 0 27 ∧ 0 ≤ x1 ∧ x1 < τ 0 28)))) : JJ (i + 8) σ' τ' ∧ zA = zB := ⟨j_keep hi h qA.1 qB.1, part_al h.2.2.2.2.1.1 qA.2 qB.2⟩
theorem mx_JJ {kind n rows m r z : Int} {W : Int → Int → Int} (hi : i ≤ 4096) (h : JJ i σ τ) (q : mpA σ σ' kind n rows m r z W) : IA σ' ∧ tpS σ σ' ∧ tbS σ σ' ∧ swS σ σ' ∧ sr (i + 8) σ' := by
  obtain ⟨f, c, ⟨s1, s2, s3⟩, m, -, -⟩ := q
  obtain ⟨hA, -, -, -, -, hs1, hs2⟩ := h
  have e3 := f 10 3 (by simp [rgPl])
  refine ⟨⟨?_, iTs_cg hA.2.1 (fun c k a b d => f c k (by simp only [rgPl]; omega)), c, m, iSh_cg hA.2.2.2.2.1 (fun k => f _ k (by simp [rgPl])), iSu_cg hA.2.2.2.2.2 (fun k => f _ k (by simp [rgPl]))⟩, ⟨fun k => f _ k (by simp [rgPl]), fun k => f _ k (by simp [rgPl])⟩, fun c k a b d => f c k (by simp only [rgPl]; omega), fun c k a b => f c k (by simp only [rgPl]; omega), s1, by omega⟩
  unfold tL
  rw [e3]
  exact hA.1
theorem j_peel {x0 x1 : Int} (hi : i ≤ 4096) (h : JJ i σ τ) (qA : XpA σ x0 x1 σ' zA) (qB : XpB τ x0 x1 τ' zB) : JJ (i + 8) σ' τ' ∧ zA = zB := by
  obtain ⟨m, e⟩ := MM_peel h.2.1 h.1 h.2.2.2.1 h.2.2.2.2.1.1 qA qB
  have A : IA σ' ∧ tpS σ σ' ∧ tbS σ σ' ∧ swS σ σ' ∧ sr (i + 8) σ' := by
    rcases qA with ⟨-, q, -⟩ | ⟨-, q⟩
    · rw [q]; exact ⟨h.1, (QA_rf h.1).2.1, (QA_rf h.1).2.2.1, (otS_rf _).2.1, sr_s hi h.2.2.2.2.2 (otS_rf _).2.2⟩
    · exact mx_JJ hi h q
  have B : QB1 τ τ' := by
    rcases qB with ⟨-, q, -⟩ | ⟨-, q⟩
    · rw [q]; exact ⟨h.2.1, (QB_rf h.2.1).2.1, (QB_rf h.2.1).2.2.1, swK_rf _⟩
    · exact QB_P h.2.1 q.1
  exact ⟨⟨A.1, B.1, TP_keep h.2.2.1 A.2.1 B.2.1, TT_keep h.2.2.2.1 A.2.2.1 B.2.2.1, ⟨m, SS_keep h.2.2.2.2.1.2 A.2.2.2.1 B.2.2.2⟩, A.2.2.2.2⟩, e⟩
theorem j_shop {x0 x1 : Int} (hi : i ≤ 4096) (h : JJ i σ τ) (qA : XsA σ x0 x1 σ' zA) (qB : XsB τ x0 x1 τ' zB) : JJ (i + 8) σ' τ' ∧ zA = zB := by
  obtain ⟨m, e⟩ := MM_shop h.2.1 h.1 h.2.2.2.1 h.2.2.2.2.1.1 qA qB
  have A : IA σ' ∧ tpS σ σ' ∧ tbS σ σ' ∧ swS σ σ' ∧ sr (i + 8) σ' := by
    rcases qA with ⟨-, q, -⟩ | ⟨-, L, -, q⟩
    · rw [q]; exact ⟨h.1, (QA_rf h.1).2.1, (QA_rf h.1).2.2.1, (otS_rf _).2.1, sr_s hi h.2.2.2.2.2 (otS_rf _).2.2⟩
    · exact mx_JJ hi h q
  have B : QB1 τ τ' := by
    rcases qB with ⟨-, q, -⟩ | ⟨-, L, -, q, -⟩
    · rw [q]; exact ⟨h.2.1, (QB_rf h.2.1).2.1, (QB_rf h.2.1).2.2.1, swK_rf _⟩
    · exact QB_P h.2.1 q.1
  exact ⟨⟨A.1, B.1, TP_keep h.2.2.1 A.2.1 B.2.1, TT_keep h.2.2.2.1 A.2.2.1 B.2.2.1, ⟨m, SS_keep h.2.2.2.2.1.2 A.2.2.2.1 B.2.2.2⟩, A.2.2.2.2⟩, e⟩
theorem j_paired {x0 x1 x2 : Int} (hi : i ≤ 4096) (h : JJ i σ τ) (qA : QA σ σ' ∧ ((¬ okPr (tabA σ x0) (σ (x0.toNat + 2) 1) x1 x2 ∧ zA = -1) ∨ (okPr (tabA σ x0) (σ (x0.toNat + 2) 1) x1 x2 ∧ paS (σ (x0.toNat + 2) 1) (fun i j => x1 ≤ cT σ (x0.toNat + 2) i j) x2 zA))) (qB : QB τ τ' ∧ ((¬ okPr (tabB τ x0) (τ 1 x0) x1 x2 ∧ zB = -1) ∨ (okPr (tabB τ x0) (τ 1 x0) x1 x2 ∧ paS (τ 1 x0) (fun i j => x1 ≤ cB τ x0 i j) x2 zB))) : JJ (i + 8) σ' τ' ∧ zA = zB := ⟨j_keep hi h qA.1 qB.1, paired_al h.2.1.1 h.2.2.2.1 qA.2 qB.2⟩
theorem j_mixing {x0 : Int} (hi : i ≤ 4096) (h : JJ i σ τ) (qA : QA σ σ' ∧ ((¬ tabA σ x0 ∧ zA = -1) ∨ (tabA σ x0 ∧ mxG (σ (x0.toNat + 2) 1) (cT σ (x0.toNat + 2)) zA))) (qB : QB τ τ' ∧ ((¬ tabB τ x0 ∧ zB = -1) ∨ (tabB τ x0 ∧ mxG (τ 1 x0) (cB τ x0) zB))) : JJ (i + 8) σ' τ' ∧ zA = zB := ⟨j_keep hi h qA.1 qB.1, mixing_al h.2.1.1 h.2.2.2.1 qA.2 qB.2⟩
theorem j_kin {x0 x1 : Int} (hi : i ≤ 4096) (h : JJ i σ τ) (qA : QA σ σ' ∧ ((¬ okKn (tabA σ x0) (σ (x0.toNat + 2) 1) x1 ∧ zA = -1) ∨ (okKn (tabA σ x0) (σ (x0.toNat + 2) 1) x1 ∧ kiS (σ (x0.toNat + 2) 1) (cT σ (x0.toNat + 2)) x1 zA))) (qB : QB τ τ' ∧ ((¬ okKn (tabB τ x0) (τ 1 x0) x1 ∧ zB = -1) ∨ (okKn (tabB τ x0) (τ 1 x0) x1 ∧ kiS (τ 1 x0) (cB τ x0) x1 zB))) : JJ (i + 8) σ' τ' ∧ zA = zB := ⟨j_keep hi h qA.1 qB.1, kin_al h.2.1.1 h.2.2.2.1 qA.2 qB.2⟩
end J9
end
section
/-! calls whose answers are said in full only in their own rows -/
section J10
variable {i : Int} {σ τ σ' τ' : eS} {zA zB : Int}
theorem j_look {x0 x1 : Int} (hi : i ≤ 4096) (h : JJ i σ τ) (qA : QA σ σ' ∧ loA σ x0 x1 zA) (qB : QB τ τ' ∧ loB τ x0 x1 zB) : JJ (i + 8) σ' τ' ∧ zA = zB := ⟨j_keep hi h qA.1 qB.1, look_al h.2.1.1 h.1 h.2.2.2.1 qA.2 qB.2⟩
end J10
end
section
/-! the relation of the row of sought: what was found and kept is right -/
section G11
variable {σ σ' : eS}
end G11
def JK (i : Int) (σ τ : eS) : Prop := JJ i σ τ ∧ KN σ
theorem JK.mn {i : Int} {σ τ : eS} (h : JK i σ τ) : JK (i + 8) σ τ := ⟨h.1.mn, h.2⟩
theorem JK.so {i : Int} {σ τ : eS} (h : JK i σ τ) (hi : i ≤ 4096) : (IA σ ∧ iSe σ ∧ σ 16 3 + 20000 < 2147483647) ∧ KN σ := ⟨⟨h.1.1, h.1.2.2.2.2.2.1, by have := h.1.2.2.2.2.2.2; omega⟩, h.2⟩
end
section
/-! the relation of the row of rounded: what was rounded and kept is right -/
section G12
variable {σ σ' : eS}
end G12
def JR (i : Int) (σ τ : eS) : Prop := JJ i σ τ ∧ KRd σ
theorem JR.mn {i : Int} {σ τ : eS} (h : JR i σ τ) : JR (i + 8) σ τ := ⟨h.1.mn, h.2⟩
end
section
/-! THE CLAIM OUT OF ONE WALK OF THE LAW'S BODY. Your part is whole_start (and what it stands on); all else here is the same for every law, but numbers. -/
def R_law : String := "EvenTablesLaw"
def lw_P (b : Addr) (xs : List Int32) (args : Array Value) (s : State) : Prop := args = #[.ref b] ∧ s.IntsAt b xs ∧ xs.length ≤ 4096 ∧ (Jvm.Cond.and given_1 narrow_1).before args s = true
def lw_Q (_ : Array Value) (s : State) (o : Outcome) (t : State) : Prop := o = .returned (some (.int 1)) ∧ Framed s o t [] 600000 7302250
def lw_Z (below : List Frame) (a : Array Value) (s : State) : State → Prop := fun t => ∃ o, t.status = .running ∧ Ended t below o ∧ lw_Q a s o t
/-- the law's own end, with 1 on the stack, nothing written that was there before, its room as the claim has it -/
theorem lw_ret {p : Program} {l : Launch} {e : Env} {s : State} {m : MethodId} {below : List Frame} {meth : Method} {c : Code} {b : Nat} (hx : p.tables.exec = Jvm.exec) (hb : c.code = code) (hr : meth.sig.returnType = ret) (hlocks : meth.locks = false) {pc : Nat} {H : Heap} {ls : Array Slot} (hdg : decode code pc = .ok (.ireturn, 1)) : W p l e room_1 s m #[Value.ref b] below meth c H [] 600000 7302250 (lw_Z below #[Value.ref b] s) (F0 m pc ls [.int 1]) := by
  intro T hT X
  obtain ⟨fs, hret, hrun, hended, hW, hframe⟩ := X.leave (v := some (.int 1)) (hlocks := hlocks) (fun h => by rw [hr] at h; cases h)
  have hmeth' : T.vm.method? m = some meth := X.method'
  refine ⟨T.setFrames fs, ?_, .returned (some (.int 1)), hrun, hended, rfl, ⟨_, rfl⟩, hW, hframe⟩
  jvm_step X.here [X.here.top, hx, hb, hdg, hmeth', hr, ret, narrow_b1]
  (try refine ⟨rfl, ?_⟩); (try refine ⟨rfl, ?_⟩)
  first | (intro acts; rw [hret _ acts rfl rfl rfl]) | rw [hret _ _ rfl rfl rfl]
  exact Steps.refl _
/-- what holds at the law's entry: the machine, the code, the tables' words (any of lw_tbl by 'hts w (by decide +kernel)'), the script of L ints xs at the cell b, what the Statement gives of the start (any of its parts by flat_of_before) -/
def lw_At (p : Program) (s : State) (m : MethodId) (meth : Method) (c : Code) (b L : Nat) (xs : Nat → Int32) : Prop :=
  p.tables.exec = Jvm.exec ∧ c.code = code ∧ meth.sig.returnType = ret ∧ c.maxLocals = 4 ∧ s.vm.findClass R_law = some m.cls ∧ (∀ w ∈ lw_tbl, w.before #[Value.ref b] s = true) ∧ va_X b L xs s s.heap ∧ b < s.heap.size ∧ meth.locks = false ∧ (Jvm.Cond.and given_1 narrow_1).before #[Value.ref b] s = true
/-! THE LAW'S WALK: two worlds side by side; its locals are the script (vr 0), the class (vr 1), the reference (vr 2), its int -/
def lA (b : Nat) (ad bd : Nat → Nat) : Nat → Nat := fun k => if k = 0 then b else if k = 1 then ad 0 else bd 0
def LC (p : Program) (s : State) (m : MethodId) (meth : Method) (c : Code) (b L : Nat) (xs : Nat → Int32) (D : va_G) (dA : Nat → ClassId) (ad : Nat → Nat) (dB : Nat → ClassId) (bd : Nat → Nat) : Prop :=
  lw_At p s m meth c b L xs ∧ va_K D eCl [] s ∧ eKA shA dA s ∧ eKA shB dB s ∧ eInj shA ad ∧ eInj shB bd ∧ (∀ i j, i < shA.length → j < shB.length → ad i ≠ bd j) ∧ (∀ i, i < shA.length → s.heap.size ≤ ad i) ∧ (∀ j, j < shB.length → s.heap.size ≤ bd j)
def LH (s : State) (D : va_G) (dA : Nat → ClassId) (ad : Nat → Nat) (dB : Nat → ClassId) (bd : Nat → Nat) (σ τ : eS) (H : Heap) (locs : List Loc) : Prop :=
  va_P D eCl (eW shA dA ad σ) H ∧ va_P D eCl (eW shB dB bd τ) H ∧ eGd shA σ ∧ eGd shB τ ∧ va_S (fun q : Nat => s.heap.size ≤ q) s.heap H locs
def LOk (b L : Nat) (xs : Nat → Int32) (cells slots pc : Nat) (ls : List (Option eV)) (st : List eV) (σ τ : eS) : Prop :=
  ∀ (l : Launch) (p : Program) (e : Env) (s : State) (m : MethodId) (below : List Frame) (meth : Method) (c : Code) (D : va_G) (dA : Nat → ClassId) (ad : Nat → Nat) (dB : Nat → ClassId) (bd : Nat → Nat) (H : Heap) (locs : List Loc) (la : Array Slot),
    LC p s m meth c b L xs D dA ad dB bd → LH s D dA ad dB bd σ τ H locs → eLs la 4 (lA b ad bd) ls → eKs st →
    W p l e room_1 s m #[Value.ref b] below meth c H locs cells slots (lw_Z below #[Value.ref b] s) (F0 m pc la (st.map (eR (lA b ad bd))))
def tOk (T : List (Nat × Instr × Nat)) : Prop := ∀ e ∈ T, decode code e.1 = .ok (e.2.1, e.2.2 - e.1)
theorem tOk_of {T : List (Nat × Instr × Nat)} (p : Nat) (h : dkT code T (code.data.toList.drop p) p = true) : tOk T := dkT_all T p h
theorem tOk.d {T : List (Nat × Instr × Nat)} (h : tOk T) (i : Nat) {pc n n' : Nat} {ins : Instr} (hd : nth T i = some (pc, ins, n')) (hn : pc + n = n') : decode code pc = .ok (ins, n) := by
  have h1 := h _ (nth_mem hd)
  rw [h1, ← hn]
  show Except.ok (ins, pc + n - pc) = _
  rw [Nat.add_sub_cancel_left]
section E8
variable {b L : Nat} {xs : Nat → Int32} {cells slots pc pc' tgt : Nat} {ls : List (Option eV)} {st st' : List eV} {σ τ : eS}
theorem LOk.go {l : Launch} {p : Program} {e : Env} {s : State} {m : MethodId} {below : List Frame} {meth : Method} {c : Code} {D : va_G} {dA : Nat → ClassId} {ad : Nat → Nat} {dB : Nat → ClassId} {bd : Nat → Nat} {H : Heap} {locs : List Loc} {la : Array Slot} {n : Nat} {rest : List Value}
    (k : LOk b L xs cells slots pc' ls st' σ τ) (C : LC p s m meth c b L xs D dA ad dB bd) (hH : LH s D dA ad dB bd σ τ H locs) (hL : eLs la 4 (lA b ad bd) ls) (hS : eKs st') (hn : n = pc') (hr : st'.map (eR (lA b ad bd)) = rest) :
    W p l e room_1 s m #[Value.ref b] below meth c H locs cells slots (lw_Z below #[Value.ref b] s) (F0 m n la rest) := by
  subst hn; subst hr
  exact k l p e s m below meth c D dA ad dB bd H locs la C hH hL hS
theorem lo_ald {k : Fin 4} {z : Nat} (hd : decode code pc = .ok (.aload_n k, 1)) (hl : nth ls k.val = some (some (vr z))) (hn : pc + 1 = pc') (K : LOk b L xs cells slots pc' ls (vr z :: st) σ τ) : LOk b L xs cells slots pc ls st σ τ := by
  intro l p e s m below meth c D dA ad dB bd H locs la C hH hL hS
  have h := hL.2.2.2 _ _ (nth_get hl)
  exact lv_aload_n C.1.1 C.1.2.1 hd rfl h.1 (LOk.go K C hH hL ⟨h.2, hS⟩ hn rfl)
theorem lo_ild {k : Fin 4} {z : Int} (hd : decode code pc = .ok (.iload_n k, 1)) (hl : nth ls k.val = some (some (vi z))) (hn : pc + 1 = pc') (K : LOk b L xs cells slots pc' ls (vi z :: st) σ τ) : LOk b L xs cells slots pc ls st σ τ := by
  intro l p e s m below meth c D dA ad dB bd H locs la C hH hL hS
  have h := hL.2.2.2 _ _ (nth_get hl)
  exact lv_iload_n C.1.1 C.1.2.1 hd rfl h.1 (LOk.go K C hH hL ⟨h.2, hS⟩ hn rfl)
theorem lo_ic {z : Int} (hd : decode code pc = .ok (.iconst z, 1)) (hn : pc + 1 = pc') (hr : rg z) (K : LOk b L xs cells slots pc' ls (vi z :: st) σ τ) : LOk b L xs cells slots pc ls st σ τ := by
  intro l p e s m below meth c D dA ad dB bd H locs la C hH hL hS
  exact lv_iconst C.1.1 C.1.2.1 hd rfl (LOk.go K C hH hL ⟨hr, hS⟩ hn rfl)
theorem lo_bp {z : Int} (hd : decode code pc = .ok (.bipush z, 2)) (hn : pc + 2 = pc') (hr : rg z) (hv : (Int8.ofInt z).toInt32 = Int32.ofInt z) (K : LOk b L xs cells slots pc' ls (vi z :: st) σ τ) : LOk b L xs cells slots pc ls st σ τ := by
  intro l p e s m below meth c D dA ad dB bd H locs la C hH hL hS
  exact lv_bipush C.1.1 C.1.2.1 hd hv (LOk.go K C hH hL ⟨hr, hS⟩ hn rfl)
theorem lo_add {u v : Int} (hd : decode code pc = .ok (.iadd, 1)) (hn : pc + 1 = pc') (hr : rg (u + v)) (K : LOk b L xs cells slots pc' ls (vi (u + v) :: st) σ τ) : LOk b L xs cells slots pc ls (vi v :: vi u :: st) σ τ := by
  intro l p e s m below meth c D dA ad dB bd H locs la C hH hL hS
  exact lv_iadd C.1.1 C.1.2.1 hd (LOk.go K C hH hL ⟨hr, hS.2.2⟩ hn (by show Value.int (Int32.ofInt (u + v)) :: _ = _; rw [Int32.ofInt_add]))
theorem lo_sub {u v : Int} (hd : decode code pc = .ok (.isub, 1)) (hn : pc + 1 = pc') (hr : rg (u - v)) (K : LOk b L xs cells slots pc' ls (vi (u - v) :: st) σ τ) : LOk b L xs cells slots pc ls (vi v :: vi u :: st) σ τ := by
  intro l p e s m below meth c D dA ad dB bd H locs la C hH hL hS
  exact lv_isub C.1.1 C.1.2.1 hd (LOk.go K C hH hL ⟨hr, hS.2.2⟩ hn (by show Value.int (Int32.ofInt (u - v)) :: _ = _; rw [Int32.ofInt_sub]))
theorem lo_and {u v : Int} (hd : decode code pc = .ok (.iand, 1)) (hn : pc + 1 = pc') (K : LOk b L xs cells slots pc' ls (vi (iand u v) :: st) σ τ) : LOk b L xs cells slots pc ls (vi v :: vi u :: st) σ τ := by
  intro l p e s m below meth c D dA ad dB bd H locs la C hH hL hS
  exact lv_iand C.1.1 C.1.2.1 hd (LOk.go K C hH hL ⟨rg_to _, hS.2.2⟩ hn (by show Value.int (Int32.ofInt (iand u v)) :: _ = _; unfold iand; rw [Int32.ofInt_toInt]))
theorem lo_pop {v : eV} (hd : decode code pc = .ok (.pop, 1)) (hn : pc + 1 = pc') (hc : eCat v = 1) (K : LOk b L xs cells slots pc' ls st σ τ) : LOk b L xs cells slots pc ls (v :: st) σ τ := by
  intro l p e s m below meth c D dA ad dB bd H locs la C hH hL hS
  exact lv_pop C.1.1 C.1.2.1 hd (by rw [eR_cat]; exact hc) (LOk.go K C hH hL hS.2 hn rfl)
theorem lo_pop2 {z : Int} (hd : decode code pc = .ok (.pop2, 1)) (hn : pc + 1 = pc') (K : LOk b L xs cells slots pc' ls st σ τ) : LOk b L xs cells slots pc ls (vl z :: st) σ τ := by
  intro l p e s m below meth c D dA ad dB bd H locs la C hH hL hS
  exact lv_pop2_2 C.1.1 C.1.2.1 hd rfl (LOk.go K C hH hL hS.2 hn rfl)
theorem lo_goto {off : Int} (hd : decode code pc = .ok (.goto off, 3)) (ht : (pc : Int) + off = (tgt : Int)) (K : LOk b L xs cells slots tgt ls st σ τ) : LOk b L xs cells slots pc ls st σ τ := by
  intro l p e s m below meth c D dA ad dB bd H locs la C hH hL hS
  exact lv_goto C.1.1 C.1.2.1 hd ht (LOk.go K C hH hL hS rfl rfl)
theorem lo_gt {off u v : Int} (hd : decode code pc = .ok (.if_icmp .gt off, 3)) (hn : pc + 3 = pc') (ht : (pc : Int) + off = (tgt : Int)) (kt : v < u → LOk b L xs cells slots tgt ls st σ τ) (kf : u ≤ v → LOk b L xs cells slots pc' ls st σ τ) : LOk b L xs cells slots pc ls (vi v :: vi u :: st) σ τ := by
  intro l p e s m below meth c D dA ad dB bd H locs la C hH hL hS
  obtain ⟨hv, hu, hs⟩ := hS
  have e4 := rg_lt hv hu
  refine lv_icmp_gt C.1.1 C.1.2.1 hd ht (fun q => ?_) (fun q => ?_)
  · exact LOk.go (kt (e4.mp q)) C hH hL hs rfl rfl
  · exact LOk.go (kf (Int.not_lt.mp (fun z => q (e4.mpr z)))) C hH hL hs hn rfl
theorem lo_eq {off u v : Int} (hd : decode code pc = .ok (.if_icmp .eq off, 3)) (hn : pc + 3 = pc') (ht : (pc : Int) + off = (tgt : Int)) (kt : u = v → LOk b L xs cells slots tgt ls st σ τ) (kf : ¬ u = v → LOk b L xs cells slots pc' ls st σ τ) : LOk b L xs cells slots pc ls (vi v :: vi u :: st) σ τ := by
  intro l p e s m below meth c D dA ad dB bd H locs la C hH hL hS
  obtain ⟨hv, hu, hs⟩ := hS
  have e4 := rg_eq hu hv
  refine lv_icmp_eq C.1.1 C.1.2.1 hd ht (fun q => ?_) (fun q => ?_)
  · exact LOk.go (kt (e4.mp q)) C hH hL hs rfl rfl
  · exact LOk.go (kf (fun z => q (e4.mpr z))) C hH hL hs hn rfl
theorem lo_tin {dflt lo hi off z : Int} {offs : Array Int} {len : Nat} (hd : decode code pc = .ok (.tableswitch dflt lo hi offs, len)) (h1 : lo ≤ z) (h2 : z ≤ hi) (ho : offs[(z - lo).toNat]? = some off) (ht : (pc : Int) + off = (tgt : Int)) (K : LOk b L xs cells slots tgt ls st σ τ) : LOk b L xs cells slots pc ls (vi z :: st) σ τ := by
  intro l p e s m below meth c D dA ad dB bd H locs la C hH hL hS
  have e := rg_in (z := z) hS.1
  exact lv_tableIn C.1.1 C.1.2.1 hd (by rw [e]; omega) (by rw [e]; omega) (by rw [e]; exact ho) ht (LOk.go K C hH hL hS.2 rfl rfl)
theorem lo_tout {dflt lo hi z : Int} {offs : Array Int} {len : Nat} (hd : decode code pc = .ok (.tableswitch dflt lo hi offs, len)) (h1 : z < lo ∨ hi < z) (ht : (pc : Int) + dflt = (tgt : Int)) (K : LOk b L xs cells slots tgt ls st σ τ) : LOk b L xs cells slots pc ls (vi z :: st) σ τ := by
  intro l p e s m below meth c D dA ad dB bd H locs la C hH hL hS
  have e := rg_in (z := z) hS.1
  exact lv_tableOut C.1.1 C.1.2.1 hd (by rw [e]; exact h1) ht (LOk.go K C hH hL hS.2 rfl rfl)
theorem lo_inc {x0 x1 x2 : Option eV} {n z : Int} (hd : decode code pc = .ok (.iinc 3 n, 3)) (hn : pc + 3 = pc') (hp : eNl x2 = true) (hr : rg (z + n)) (K : LOk b L xs cells slots pc' [x0, x1, x2, some (vi (z + n))] st σ τ) : LOk b L xs cells slots pc [x0, x1, x2, some (vi z)] st σ τ := by
  intro l p e s m below meth c D dA ad dB bd H locs la C hH hL hS
  have hm := eAl_mem (lA b ad bd) [x0, x1, x2, some (vi z)] 0 3 (vi z) rfl
  rw [Nat.zero_add] at hm
  obtain ⟨q, hq⟩ := List.getElem?_of_mem hm
  have K' : LOk b L xs cells slots pc' (eSet 3 (vi (z + n)) [x0, x1, x2, some (vi z)]) st σ τ := by
    show LOk b L xs cells slots pc' [x0, x1, eClr x2, some (vi (z + n))] st σ τ
    rw [eClr_id hp]
    exact K
  exact lv_iinc (v := Int32.ofInt (z + n)) C.1.1 C.1.2.1 hd hL.has hq (by rw [Int32.ofInt_add]) (by decide) rfl (fun la' h' => LOk.go K' C hH (hL.st1 (j := 3) (v := vi (z + n)) (by decide) hr h') hS hn rfl)
/-- the script -/
theorem lo_sld {j : Int} (hd : decode code pc = .ok (.iaload, 1)) (hn : pc + 1 = pc') (hj : 0 ≤ j ∧ j < (L : Int)) (hL' : L ≤ 4096) (K : LOk b L xs cells slots pc' ls (vi (xs j.toNat).toInt :: st) σ τ) : LOk b L xs cells slots pc ls (vi j :: vr 0 :: st) σ τ := by
  intro l p e s m below meth c D dA ad dB bd H locs la C hH hL hS
  obtain ⟨e1, e2⟩ := ix_nat (j := j) (n := L) hS.1 hj.1 hj.2
  refine va_sld C.1.1 C.1.2.1 C.1.2.2.2.2.2.2.1 C.1.2.2.2.2.2.2.2.1 (Nat.not_le.mpr C.1.2.2.2.2.2.2.2.1) hH.2.2.2.2 e2 hd ?_
  refine LOk.go K C hH hL ⟨rg_to _, hS.2.2⟩ hn ?_
  show Value.int (Int32.ofInt (xs j.toNat).toInt) :: _ = _
  rw [Int32.ofInt_toInt, e1]
theorem lo_slen (hd : decode code pc = .ok (.arraylength, 1)) (hn : pc + 1 = pc') (hL' : L ≤ 4096) (K : LOk b L xs cells slots pc' ls (vi (L : Int) :: st) σ τ) : LOk b L xs cells slots pc ls (vr 0 :: st) σ τ := by
  intro l p e s m below meth c D dA ad dB bd H locs la C hH hL hS
  refine va_slen C.1.1 C.1.2.1 C.1.2.2.2.2.2.2.1 C.1.2.2.2.2.2.2.2.1 (Nat.not_le.mpr C.1.2.2.2.2.2.2.2.1) hH.2.2.2.2 hd ?_
  exact LOk.go K C hH hL ⟨(⟨by omega, by omega⟩ : rg (L : Int)), hS.2⟩ hn rfl
/-- its end -/
theorem lo_end (hd : decode code pc = .ok (.ireturn, 1)) (hc : cells ≤ 600000) (hs : slots ≤ 7302250) : LOk b L xs cells slots pc ls [vi 1] σ τ := by
  intro l p e s m below meth c D dA ad dB bd H locs la C hH hL hS
  refine va_forget (fun q hq => hH.2.2.2.2.2.2 q hq) ?_
  refine W.widen (k := 600000) (n := 7302250) hc hs ?_
  exact lw_ret C.1.1 C.1.2.1 C.1.2.2.1 C.1.2.2.2.2.2.2.2.2.1 hd
/-- a call of a method of one of the two objects -/
theorem og_run {sh : eSh} {dA : Nat → ClassId} {ad : Nat → Nat} {D : va_G} {M' : eM} {zs : List Int} {Q' : eS → Option eV → Prop} {x ci : Nat} {ts : List Nat} {l : Launch} {p : Program} {e : Env} {s : State} {m : MethodId} {below : List Frame} {meth : Method} {c : Code} {H : Heap} {locs : List Loc} {la : Array Slot} {rest : List Value} {Z : State → Prop}
    (C0 : lw_At p s m meth c b L xs) (hK : va_K D eCl [] s) (hKA : eKA sh dA s) (hi : eInj sh ad) (hlow : ∀ i, i < sh.length → s.heap.size ≤ ad i) (hP : va_P D eCl (eW sh dA ad σ) H) (hG : eGd sh σ) (hS : va_S (fun q : Nat => s.heap.size ≤ q) s.heap H locs)
    (hd : decode code pc = .ok (.invokevirtual x, 3)) (hl : eLkV RL x (eNm M') zs.length) (hM : Mt sh M' (vr 0 :: zs.map vi) σ Q') (hs : nth sh 0 = some (0, ci, ts)) (hc : (eCl.getD ci ("", fun _ => ("", "", "", false), 0)).1 = eOwn M') (hci : ci < eCl.length)
    (hr : (eRm M').frames + 1 ≤ room_1.frames ∧ 8 + (eNL M' + 11) + (eRm M').locals ≤ room_1.locals) (hks : ∀ z ∈ zs, rg z) (hla : la.size = 4) (hw : (rest.map fun v => v.category).sum ≤ 8) (hcs : cells ≤ 600000) (hss : slots ≤ 7302250)
    (K : ∀ (σ' : eS) (v : Option eV) (H' : Heap) (locs' : List Loc), Q' σ' v → (∀ x, v = some x → eK x) → eGd sh σ' → va_P D eCl (eW sh dA ad σ') H' → va_S (fun q : Nat => s.heap.size ≤ q) s.heap H' locs' → (∀ q, q < H.size → ¬ eA sh ad q → H'[q]? = H[q]?) →
      W p l e room_1 s m #[Value.ref b] below meth c H' locs' cells slots Z (F0 m (pc + 3) la ((v.map (eR ad)).toList ++ rest))) :
    W p l e room_1 s m #[Value.ref b] below meth c H locs cells slots Z (F0 m pc la ((zs.map (fun z => Value.int (Int32.ofInt z))).reverse ++ Value.ref (ad 0) :: rest)) := by
  obtain ⟨w1, w2, w3, w4, w5, w6, w7⟩ := hl
  have hts : ∀ w ∈ eTbl, w.before #[Value.ref b] s = true := fun w hw => C0.2.2.2.2.2.1 w (eTbl_in hw)
  have hcls : (eNm M').cls = eOwn M' := hM.1.2.2.2.1
  have k1 : eKs (vr 0 :: zs.map vi) := eKs_of fun v hv => by
    rcases List.mem_cons.mp hv with rfl | hv
    · trivial
    · obtain ⟨z, hz, rfl⟩ := List.mem_map.mp hv
      exact hks z hz
  have hMet := hM.2 l D dA ad hi k1 hG
  have hmp : (zs.map vi).map (eR ad) = zs.map (fun z => Value.int (Int32.ofInt z)) := by rw [List.map_map]; rfl
  rw [← hmp]
  have hq1 : eCl[ci]? = some (eCl.getD ci ("", fun _ => ("", "", "", false), 0)) := by
    rw [List.getD_eq_getElem?_getD, List.getElem?_eq_getElem hci]
    rfl
  have hg : GoodIn eTbl (wsV RL x (eOwn M') (eNm M') (eWs M')) := eGoodIn fun w hw => by
    simp only [wsV, List.mem_append, List.mem_cons, List.not_mem_nil, or_false] at hw
    rcases hw with (rfl | rfl | rfl | rfl) | hw
    · exact w1
    · exact w3
    · rw [← hcls]; exact w4
    · rw [← hcls]; exact w2
    · rcases List.mem_cons.mp hw with rfl | hw
      · exact hM.1.2.1
      · exact hw
  have hrecv : ∃ cell : Cell, H[ad 0]? = some cell ∧ cell.vm.isStatics = false ∧ s.vm.findClass (eOwn M') = some cell.cls := by
    have hw1 := eW_at (dA := dA) (ad := ad) (σ := σ) (nth_get hs)
    have := va_recv (q0 := 0) hK hP hq1 hw1
    rwa [hc] at this
  have hrun := va_runV (R := room_1) (locs := locs) (cells := cells) (slots := slots) (C := eOwn M') (As := (zs.map vi).map (eR ad)) (rest := rest) (b := ad 0) (g := F0 m pc la (((zs.map vi).map (eR ad)).reverse ++ Value.ref (ad 0) :: rest)) (below := below) (meth := meth) (e := e) ⟨C0.1, C0.2.1, C0.2.2.2.1, C0.2.2.2.2.1, hts⟩ hMet (cwV (R := room_1) zs.length hts hg rfl hM.1.2.2.2.2.1 hM.1.2.2.2.2.2 ⟨hcls, w5, w6, w7⟩ hr) ⟨ePc_blind, hrecv, fun U hU hW => ⟨rfl, by rw [hU]; exact hP, va_K.moved hW.alike hK, eKA.moved hW.alike hKA⟩⟩ rfl (by rw [List.length_map, List.length_map]) hla rfl (lv_room hw) hd ⟨hcs, hss⟩
  intro T hT X
  obtain ⟨v, st₀, t, T', Lc, h0, X', hL', e1, e2, ⟨⟨v', σ', hv, hq, hk, hgd, hP'⟩, hF⟩, hgo⟩ := hrun T hT X
  cases hv
  have hS' : va_S (fun q : Nat => s.heap.size ≤ q) s.heap T'.heap (locs ++ Lc) := by
    refine ⟨?_, fun q h1 h2 => ?_, fun q hq' => ?_⟩
    · rw [e1]
      exact Nat.le_trans hS.1 (by rw [← h0]; exact hF.1)
    · have hn : ¬ eA sh ad q := fun ⟨i, hi1, hi2⟩ => h2 (by rw [hi2]; exact hlow i hi1)
      rw [e1, hF.2 q (by rw [h0]; exact Nat.lt_of_lt_of_le h1 hS.1) hn, h0]
      exact hS.2.1 q h1 h2
    · rcases List.mem_append.mp hq' with h | h
      · exact hS.2.2 q h
      · obtain ⟨i, hi1, hi2⟩ := hL' q h
        show s.heap.size ≤ q.base
        rw [hi2]; exact hlow i hi1
  have h := K σ' v' T'.heap (locs ++ Lc) hq hk hgd (by rw [e1]; exact hP') hS' (fun q h1 h2 => by rw [e1, hF.2 q (by rw [h0]; exact h1) h2, h0])
  obtain ⟨t2, a1, b1⟩ := h T' rfl X'
  exact ⟨t2, hgo t2 a1, b1⟩
theorem LH.setA {s : State} {D : va_G} {dA : Nat → ClassId} {ad : Nat → Nat} {dB : Nat → ClassId} {bd : Nat → Nat} {H H' : Heap} {locs locs' : List Loc} {σ' : eS} {p : Program} {m : MethodId} {meth : Method} {c : Code} (C : LC p s m meth c b L xs D dA ad dB bd) (h : LH s D dA ad dB bd σ τ H locs) (g : eGd shA σ') (hP : va_P D eCl (eW shA dA ad σ') H') (hS : va_S (fun q : Nat => s.heap.size ≤ q) s.heap H' locs') (hf : ∀ q, q < H.size → ¬ eA shA ad q → H'[q]? = H[q]?) : LH s D dA ad dB bd σ' τ H' locs' := by
  refine ⟨hP, h.2.1.kept (fun k q hq => ?_), g, h.2.2.2.1, hS⟩
  have hlt := (h.2.1 k q hq).lt
  obtain ⟨r, h1, h2⟩ := eW_inv hq
  refine hf q.1 hlt (fun ⟨i, hi1, hi2⟩ => ?_)
  rw [h2] at hi2
  exact C.2.2.2.2.2.2.1 i k hi1 (List.getElem?_eq_some_iff.mp h1).1 hi2.symm
theorem LH.setB {s : State} {D : va_G} {dA : Nat → ClassId} {ad : Nat → Nat} {dB : Nat → ClassId} {bd : Nat → Nat} {H H' : Heap} {locs locs' : List Loc} {τ' : eS} {p : Program} {m : MethodId} {meth : Method} {c : Code} (C : LC p s m meth c b L xs D dA ad dB bd) (h : LH s D dA ad dB bd σ τ H locs) (g : eGd shB τ') (hP : va_P D eCl (eW shB dB bd τ') H') (hS : va_S (fun q : Nat => s.heap.size ≤ q) s.heap H' locs') (hf : ∀ q, q < H.size → ¬ eA shB bd q → H'[q]? = H[q]?) : LH s D dA ad dB bd σ τ' H' locs' := by
  refine ⟨h.1.kept (fun k q hq => ?_), hP, h.2.2.1, g, hS⟩
  have hlt := (h.1 k q hq).lt
  obtain ⟨r, h1, h2⟩ := eW_inv hq
  refine hf q.1 hlt (fun ⟨i, hi1, hi2⟩ => ?_)
  rw [h2] at hi2
  exact C.2.2.2.2.2.2.1 k i (List.getElem?_eq_some_iff.mp h1).1 hi1 hi2
theorem zs_map (f : Nat → Nat) (zs : List Int) (st : List eV) (r : Nat) : ((zs.map vi).reverse ++ vr r :: st).map (eR f) = (zs.map (fun z => Value.int (Int32.ofInt z))).reverse ++ Value.ref (f r) :: st.map (eR f) := by
  rw [List.map_append, List.map_reverse, List.map_cons, List.map_map]
  rfl
theorem zs_ks {zs : List Int} {st : List eV} {r : Nat} (h : eKs ((zs.map vi).reverse ++ vr r :: st)) : (∀ z ∈ zs, rg z) ∧ eKs st := by
  have h1 := eKs_at h
  exact ⟨fun z hz => h1 (vi z) (List.mem_append_left _ (List.mem_reverse.mpr (List.mem_map.mpr ⟨z, hz, rfl⟩))), eKs_of fun v hv => h1 v (List.mem_append_right _ (List.mem_cons_of_mem _ hv))⟩
theorem lo_cA {x : Nat} {M' : eM} (zs : List Int) {Q' : eS → Option eV → Prop} {st0 : List eV} (hd : decode code pc = .ok (.invokevirtual x, 3)) (hn : pc + 3 = pc') (hl : eLkV RL x (eNm M') zs.length) (hM : Mt shA M' (vr 0 :: zs.map vi) σ Q') (hc : (eCl.getD 9 ("", fun _ => ("", "", "", false), 0)).1 = eOwn M')
    (hr : (eRm M').frames + 1 ≤ room_1.frames ∧ 8 + (eNL M' + 11) + (eRm M').locals ≤ room_1.locals) (hst : st0 = (zs.map vi).reverse ++ vr 1 :: st) (hw : (st.map eCat).sum ≤ 8) (hcs : cells ≤ 600000) (hss : slots ≤ 7302250) (hq : ∀ σ' v, Q' σ' v → (∃ z, v = some (vi z)) ∨ (∃ z, v = some (vl z)))
    (K : ∀ σ' v, Q' σ' v → LOk b L xs cells slots pc' ls (v.toList ++ st) σ' τ) : LOk b L xs cells slots pc ls st0 σ τ := by
  intro l p e s m below meth c D dA ad dB bd H locs la C hH hL hS
  subst hst
  rw [zs_map]
  obtain ⟨k1, k2⟩ := zs_ks hS
  refine og_run (sh := shA) (dA := dA) (ad := ad) C.1 C.2.1 C.2.2.1 C.2.2.2.2.1 C.2.2.2.2.2.2.2.1 hH.1 hH.2.2.1 hH.2.2.2.2 hd hl hM (ci := 9) rfl hc (Nat.le_of_ble_eq_true rfl) hr k1 hL.1 (by rw [cat_sum]; exact hw) hcs hss (fun σ' v H' locs' q1 q2 q3 q4 q5 q6 => ?_)
  have e : (v.map (eR ad)).toList ++ st.map (eR (lA b ad bd)) = (v.toList ++ st).map (eR (lA b ad bd)) := by
    rcases hq σ' v q1 with ⟨z, rfl⟩ | ⟨z, rfl⟩ <;> rfl
  rw [e]
  exact LOk.go (K σ' v q1) C (LH.setA C hH q3 q4 q5 q6) hL (by cases v with | none => exact k2 | some y => exact ⟨q2 y rfl, k2⟩) hn rfl
theorem lo_cB {x : Nat} {M' : eM} (zs : List Int) {Q' : eS → Option eV → Prop} {st0 : List eV} (hd : decode code pc = .ok (.invokevirtual x, 3)) (hn : pc + 3 = pc') (hl : eLkV RL x (eNm M') zs.length) (hM : Mt shB M' (vr 0 :: zs.map vi) τ Q') (hc : (eCl.getD 10 ("", fun _ => ("", "", "", false), 0)).1 = eOwn M')
    (hr : (eRm M').frames + 1 ≤ room_1.frames ∧ 8 + (eNL M' + 11) + (eRm M').locals ≤ room_1.locals) (hst : st0 = (zs.map vi).reverse ++ vr 2 :: st) (hw : (st.map eCat).sum ≤ 8) (hcs : cells ≤ 600000) (hss : slots ≤ 7302250) (hq : ∀ σ' v, Q' σ' v → (∃ z, v = some (vi z)) ∨ (∃ z, v = some (vl z)))
    (K : ∀ τ' v, Q' τ' v → LOk b L xs cells slots pc' ls (v.toList ++ st) σ τ') : LOk b L xs cells slots pc ls st0 σ τ := by
  intro l p e s m below meth c D dA ad dB bd H locs la C hH hL hS
  subst hst
  rw [zs_map]
  obtain ⟨k1, k2⟩ := zs_ks hS
  refine og_run (sh := shB) (dA := dB) (ad := bd) C.1 C.2.1 C.2.2.2.1 C.2.2.2.2.2.1 C.2.2.2.2.2.2.2.2 hH.2.1 hH.2.2.2.1 hH.2.2.2.2 hd hl hM (ci := 10) rfl hc (Nat.le_of_ble_eq_true rfl) hr k1 hL.1 (by rw [cat_sum]; exact hw) hcs hss (fun σ' v H' locs' q1 q2 q3 q4 q5 q6 => ?_)
  have e : (v.map (eR bd)).toList ++ st.map (eR (lA b ad bd)) = (v.toList ++ st).map (eR (lA b ad bd)) := by
    rcases hq σ' v q1 with ⟨z, rfl⟩ | ⟨z, rfl⟩ <;> rfl
  rw [e]
  exact LOk.go (K σ' v q1) C (LH.setB C hH q3 q4 q5 q6) hL (by cases v with | none => exact k2 | some y => exact ⟨q2 y rfl, k2⟩) hn rfl
end E8
end
section
def tS : List (Nat × Instr × Nat) := [(0, .new 7, 3), (3, .dup, 4), (4, .invokespecial 9, 7), (7, .astore_n 1, 8), (8, .new 10, 11), (11, .dup, 12), (12, .invokespecial 12, 15), (15, .astore_n 2, 16), (16, .iconst 0, 17), (17, .istore_n 3, 18)]
theorem tS_ok : tOk tS := tOk_of 0 (by decide +kernel)
def tH : List (Nat × Instr × Nat) := [(18, .iload_n 3, 19), (19, .aload_n 0, 20), (20, .arraylength, 21), (21, .bipush 8, 23), (23, .isub, 24), (24, .if_icmp .gt 1315, 27), (27, .aload_n 0, 28), (28, .iload_n 3, 29), (29, .iaload, 30), (30, .bipush 63, 32), (32, .iand, 33), (33, .tableswitch 1300 0 32 #[147, 210, 233, 256, 279, 312, 355, 378, 465, 508, 561, 594, 627, 660, 683, 746, 779, 822, 865, 898, 921, 954, 977, 1010, 1053, 1086, 1109, 1142, 1155, 1178, 1211, 1244, 1277], 180)]
theorem tH_ok : tOk tH := tOk_of 18 (by decide +kernel)
def tc0 : List (Nat × Instr × Nat) := [(180, .aload_n 1, 181), (181, .aload_n 0, 182), (182, .iload_n 3, 183), (183, .iconst 1, 184), (184, .iadd, 185), (185, .iaload, 186), (186, .aload_n 0, 187), (187, .iload_n 3, 188), (188, .iconst 2, 189), (189, .iadd, 190), (190, .iaload, 191), (191, .aload_n 0, 192), (192, .iload_n 3, 193), (193, .iconst 3, 194), (194, .iadd, 195), (195, .iaload, 196), (196, .aload_n 0, 197), (197, .iload_n 3, 198), (198, .iconst 4, 199), (199, .iadd, 200), (200, .iaload, 201), (201, .aload_n 0, 202), (202, .iload_n 3, 203), (203, .iconst 5, 204), (204, .iadd, 205), (205, .iaload, 206), (206, .invokevirtual 13, 209), (209, .pop, 210), (210, .aload_n 2, 211), (211, .aload_n 0, 212), (212, .iload_n 3, 213), (213, .iconst 1, 214), (214, .iadd, 215), (215, .iaload, 216), (216, .aload_n 0, 217), (217, .iload_n 3, 218), (218, .iconst 2, 219), (219, .iadd, 220), (220, .iaload, 221), (221, .aload_n 0, 222), (222, .iload_n 3, 223), (223, .iconst 3, 224), (224, .iadd, 225), (225, .iaload, 226), (226, .aload_n 0, 227), (227, .iload_n 3, 228), (228, .iconst 4, 229), (229, .iadd, 230), (230, .iaload, 231), (231, .aload_n 0, 232), (232, .iload_n 3, 233), (233, .iconst 5, 234), (234, .iadd, 235), (235, .iaload, 236), (236, .invokevirtual 17, 239), (239, .pop, 240), (240, .goto 1093, 243)]
theorem tc0_ok : tOk tc0 := tOk_of 180 (by decide +kernel)
def tc1 : List (Nat × Instr × Nat) := [(243, .aload_n 1, 244), (244, .aload_n 0, 245), (245, .iload_n 3, 246), (246, .iconst 1, 247), (247, .iadd, 248), (248, .iaload, 249), (249, .invokevirtual 18, 252), (252, .pop, 253), (253, .aload_n 2, 254), (254, .aload_n 0, 255), (255, .iload_n 3, 256), (256, .iconst 1, 257), (257, .iadd, 258), (258, .iaload, 259), (259, .invokevirtual 22, 262), (262, .pop, 263), (263, .goto 1070, 266)]
theorem tc1_ok : tOk tc1 := tOk_of 243 (by decide +kernel)
def tc2 : List (Nat × Instr × Nat) := [(266, .aload_n 1, 267), (267, .aload_n 0, 268), (268, .iload_n 3, 269), (269, .iconst 1, 270), (270, .iadd, 271), (271, .iaload, 272), (272, .invokevirtual 23, 275), (275, .pop, 276), (276, .aload_n 2, 277), (277, .aload_n 0, 278), (278, .iload_n 3, 279), (279, .iconst 1, 280), (280, .iadd, 281), (281, .iaload, 282), (282, .invokevirtual 27, 285), (285, .pop, 286), (286, .goto 1047, 289)]
theorem tc2_ok : tOk tc2 := tOk_of 266 (by decide +kernel)
def tc3 : List (Nat × Instr × Nat) := [(289, .aload_n 1, 290), (290, .aload_n 0, 291), (291, .iload_n 3, 292), (292, .iconst 1, 293), (293, .iadd, 294), (294, .iaload, 295), (295, .invokevirtual 28, 298), (298, .pop, 299), (299, .aload_n 2, 300), (300, .aload_n 0, 301), (301, .iload_n 3, 302), (302, .iconst 1, 303), (303, .iadd, 304), (304, .iaload, 305), (305, .invokevirtual 31, 308), (308, .pop, 309), (309, .goto 1024, 312)]
theorem tc3_ok : tOk tc3 := tOk_of 289 (by decide +kernel)
def tc4 : List (Nat × Instr × Nat) := [(312, .aload_n 1, 313), (313, .aload_n 0, 314), (314, .iload_n 3, 315), (315, .iconst 1, 316), (316, .iadd, 317), (317, .iaload, 318), (318, .aload_n 0, 319), (319, .iload_n 3, 320), (320, .iconst 2, 321), (321, .iadd, 322), (322, .iaload, 323), (323, .invokevirtual 32, 326), (326, .aload_n 2, 327), (327, .aload_n 0, 328), (328, .iload_n 3, 329), (329, .iconst 1, 330), (330, .iadd, 331), (331, .iaload, 332), (332, .aload_n 0, 333), (333, .iload_n 3, 334), (334, .iconst 2, 335), (335, .iadd, 336), (336, .iaload, 337), (337, .invokevirtual 36, 340), (340, .if_icmp .eq 993, 343), (343, .iconst 0, 344), (344, .ireturn, 345)]
theorem tc4_ok : tOk tc4 := tOk_of 312 (by decide +kernel)
def tc5 : List (Nat × Instr × Nat) := [(345, .aload_n 1, 346), (346, .aload_n 0, 347), (347, .iload_n 3, 348), (348, .iconst 1, 349), (349, .iadd, 350), (350, .iaload, 351), (351, .aload_n 0, 352), (352, .iload_n 3, 353), (353, .iconst 2, 354), (354, .iadd, 355), (355, .iaload, 356), (356, .aload_n 0, 357), (357, .iload_n 3, 358), (358, .iconst 3, 359), (359, .iadd, 360), (360, .iaload, 361), (361, .invokevirtual 37, 364), (364, .pop, 365), (365, .aload_n 2, 366), (366, .aload_n 0, 367), (367, .iload_n 3, 368), (368, .iconst 1, 369), (369, .iadd, 370), (370, .iaload, 371), (371, .aload_n 0, 372), (372, .iload_n 3, 373), (373, .iconst 2, 374), (374, .iadd, 375), (375, .iaload, 376), (376, .aload_n 0, 377), (377, .iload_n 3, 378), (378, .iconst 3, 379), (379, .iadd, 380), (380, .iaload, 381), (381, .invokevirtual 41, 384), (384, .pop, 385), (385, .goto 948, 388)]
theorem tc5_ok : tOk tc5 := tOk_of 345 (by decide +kernel)
def tc6 : List (Nat × Instr × Nat) := [(388, .aload_n 1, 389), (389, .aload_n 0, 390), (390, .iload_n 3, 391), (391, .iconst 1, 392), (392, .iadd, 393), (393, .iaload, 394), (394, .invokevirtual 42, 397), (397, .pop, 398), (398, .aload_n 2, 399), (399, .aload_n 0, 400), (400, .iload_n 3, 401), (401, .iconst 1, 402), (402, .iadd, 403), (403, .iaload, 404), (404, .invokevirtual 45, 407), (407, .pop, 408), (408, .goto 925, 411)]
theorem tc6_ok : tOk tc6 := tOk_of 388 (by decide +kernel)
def tc7 : List (Nat × Instr × Nat) := [(411, .aload_n 1, 412), (412, .aload_n 0, 413), (413, .iload_n 3, 414), (414, .iconst 1, 415), (415, .iadd, 416), (416, .iaload, 417), (417, .aload_n 0, 418), (418, .iload_n 3, 419), (419, .iconst 2, 420), (420, .iadd, 421), (421, .iaload, 422), (422, .aload_n 0, 423), (423, .iload_n 3, 424), (424, .iconst 3, 425), (425, .iadd, 426), (426, .iaload, 427), (427, .aload_n 0, 428), (428, .iload_n 3, 429), (429, .iconst 4, 430), (430, .iadd, 431), (431, .iaload, 432), (432, .aload_n 0, 433), (433, .iload_n 3, 434), (434, .iconst 5, 435), (435, .iadd, 436), (436, .iaload, 437), (437, .aload_n 0, 438), (438, .iload_n 3, 439), (439, .bipush 6, 441), (441, .iadd, 442), (442, .iaload, 443), (443, .aload_n 0, 444), (444, .iload_n 3, 445), (445, .bipush 7, 447), (447, .iadd, 448), (448, .iaload, 449), (449, .invokevirtual 46, 452), (452, .pop, 453), (453, .aload_n 2, 454), (454, .aload_n 0, 455), (455, .iload_n 3, 456), (456, .iconst 1, 457), (457, .iadd, 458), (458, .iaload, 459), (459, .aload_n 0, 460), (460, .iload_n 3, 461), (461, .iconst 2, 462), (462, .iadd, 463), (463, .iaload, 464), (464, .aload_n 0, 465), (465, .iload_n 3, 466), (466, .iconst 3, 467), (467, .iadd, 468), (468, .iaload, 469), (469, .aload_n 0, 470), (470, .iload_n 3, 471), (471, .iconst 4, 472), (472, .iadd, 473), (473, .iaload, 474), (474, .aload_n 0, 475), (475, .iload_n 3, 476), (476, .iconst 5, 477), (477, .iadd, 478), (478, .iaload, 479), (479, .aload_n 0, 480), (480, .iload_n 3, 481), (481, .bipush 6, 483), (483, .iadd, 484), (484, .iaload, 485), (485, .aload_n 0, 486), (486, .iload_n 3, 487), (487, .bipush 7, 489), (489, .iadd, 490), (490, .iaload, 491), (491, .invokevirtual 50, 494), (494, .pop, 495), (495, .goto 838, 498)]
theorem tc7_ok : tOk tc7 := tOk_of 411 (by decide +kernel)
def tc8 : List (Nat × Instr × Nat) := [(498, .aload_n 1, 499), (499, .aload_n 0, 500), (500, .iload_n 3, 501), (501, .iconst 1, 502), (502, .iadd, 503), (503, .iaload, 504), (504, .aload_n 0, 505), (505, .iload_n 3, 506), (506, .iconst 2, 507), (507, .iadd, 508), (508, .iaload, 509), (509, .aload_n 0, 510), (510, .iload_n 3, 511), (511, .iconst 3, 512), (512, .iadd, 513), (513, .iaload, 514), (514, .invokevirtual 51, 517), (517, .pop, 518), (518, .aload_n 2, 519), (519, .aload_n 0, 520), (520, .iload_n 3, 521), (521, .iconst 1, 522), (522, .iadd, 523), (523, .iaload, 524), (524, .aload_n 0, 525), (525, .iload_n 3, 526), (526, .iconst 2, 527), (527, .iadd, 528), (528, .iaload, 529), (529, .aload_n 0, 530), (530, .iload_n 3, 531), (531, .iconst 3, 532), (532, .iadd, 533), (533, .iaload, 534), (534, .invokevirtual 55, 537), (537, .pop, 538), (538, .goto 795, 541)]
theorem tc8_ok : tOk tc8 := tOk_of 498 (by decide +kernel)
def tc9 : List (Nat × Instr × Nat) := [(541, .aload_n 1, 542), (542, .aload_n 0, 543), (543, .iload_n 3, 544), (544, .iconst 1, 545), (545, .iadd, 546), (546, .iaload, 547), (547, .aload_n 0, 548), (548, .iload_n 3, 549), (549, .iconst 2, 550), (550, .iadd, 551), (551, .iaload, 552), (552, .aload_n 0, 553), (553, .iload_n 3, 554), (554, .iconst 3, 555), (555, .iadd, 556), (556, .iaload, 557), (557, .aload_n 0, 558), (558, .iload_n 3, 559), (559, .iconst 4, 560), (560, .iadd, 561), (561, .iaload, 562), (562, .invokevirtual 56, 565), (565, .pop, 566), (566, .aload_n 2, 567), (567, .aload_n 0, 568), (568, .iload_n 3, 569), (569, .iconst 1, 570), (570, .iadd, 571), (571, .iaload, 572), (572, .aload_n 0, 573), (573, .iload_n 3, 574), (574, .iconst 2, 575), (575, .iadd, 576), (576, .iaload, 577), (577, .aload_n 0, 578), (578, .iload_n 3, 579), (579, .iconst 3, 580), (580, .iadd, 581), (581, .iaload, 582), (582, .aload_n 0, 583), (583, .iload_n 3, 584), (584, .iconst 4, 585), (585, .iadd, 586), (586, .iaload, 587), (587, .invokevirtual 60, 590), (590, .pop, 591), (591, .goto 742, 594)]
theorem tc9_ok : tOk tc9 := tOk_of 541 (by decide +kernel)
def tc10 : List (Nat × Instr × Nat) := [(594, .aload_n 1, 595), (595, .aload_n 0, 596), (596, .iload_n 3, 597), (597, .iconst 1, 598), (598, .iadd, 599), (599, .iaload, 600), (600, .aload_n 0, 601), (601, .iload_n 3, 602), (602, .iconst 2, 603), (603, .iadd, 604), (604, .iaload, 605), (605, .invokevirtual 61, 608), (608, .pop, 609), (609, .aload_n 2, 610), (610, .aload_n 0, 611), (611, .iload_n 3, 612), (612, .iconst 1, 613), (613, .iadd, 614), (614, .iaload, 615), (615, .aload_n 0, 616), (616, .iload_n 3, 617), (617, .iconst 2, 618), (618, .iadd, 619), (619, .iaload, 620), (620, .invokevirtual 64, 623), (623, .pop, 624), (624, .goto 709, 627)]
theorem tc10_ok : tOk tc10 := tOk_of 594 (by decide +kernel)
def tc11 : List (Nat × Instr × Nat) := [(627, .aload_n 1, 628), (628, .aload_n 0, 629), (629, .iload_n 3, 630), (630, .iconst 1, 631), (631, .iadd, 632), (632, .iaload, 633), (633, .aload_n 0, 634), (634, .iload_n 3, 635), (635, .iconst 2, 636), (636, .iadd, 637), (637, .iaload, 638), (638, .invokevirtual 65, 641), (641, .pop, 642), (642, .aload_n 2, 643), (643, .aload_n 0, 644), (644, .iload_n 3, 645), (645, .iconst 1, 646), (646, .iadd, 647), (647, .iaload, 648), (648, .aload_n 0, 649), (649, .iload_n 3, 650), (650, .iconst 2, 651), (651, .iadd, 652), (652, .iaload, 653), (653, .invokevirtual 68, 656), (656, .pop, 657), (657, .goto 676, 660)]
theorem tc11_ok : tOk tc11 := tOk_of 627 (by decide +kernel)
def tc12 : List (Nat × Instr × Nat) := [(660, .aload_n 1, 661), (661, .aload_n 0, 662), (662, .iload_n 3, 663), (663, .iconst 1, 664), (664, .iadd, 665), (665, .iaload, 666), (666, .aload_n 0, 667), (667, .iload_n 3, 668), (668, .iconst 2, 669), (669, .iadd, 670), (670, .iaload, 671), (671, .invokevirtual 69, 674), (674, .pop, 675), (675, .aload_n 2, 676), (676, .aload_n 0, 677), (677, .iload_n 3, 678), (678, .iconst 1, 679), (679, .iadd, 680), (680, .iaload, 681), (681, .aload_n 0, 682), (682, .iload_n 3, 683), (683, .iconst 2, 684), (684, .iadd, 685), (685, .iaload, 686), (686, .invokevirtual 72, 689), (689, .pop, 690), (690, .goto 643, 693)]
theorem tc12_ok : tOk tc12 := tOk_of 660 (by decide +kernel)
def tc13 : List (Nat × Instr × Nat) := [(693, .aload_n 1, 694), (694, .aload_n 0, 695), (695, .iload_n 3, 696), (696, .iconst 1, 697), (697, .iadd, 698), (698, .iaload, 699), (699, .invokevirtual 73, 702), (702, .pop, 703), (703, .aload_n 2, 704), (704, .aload_n 0, 705), (705, .iload_n 3, 706), (706, .iconst 1, 707), (707, .iadd, 708), (708, .iaload, 709), (709, .invokevirtual 76, 712), (712, .pop, 713), (713, .goto 620, 716)]
theorem tc13_ok : tOk tc13 := tOk_of 693 (by decide +kernel)
def tc14 : List (Nat × Instr × Nat) := [(716, .aload_n 1, 717), (717, .aload_n 0, 718), (718, .iload_n 3, 719), (719, .iconst 1, 720), (720, .iadd, 721), (721, .iaload, 722), (722, .aload_n 0, 723), (723, .iload_n 3, 724), (724, .iconst 2, 725), (725, .iadd, 726), (726, .iaload, 727), (727, .aload_n 0, 728), (728, .iload_n 3, 729), (729, .iconst 3, 730), (730, .iadd, 731), (731, .iaload, 732), (732, .aload_n 0, 733), (733, .iload_n 3, 734), (734, .iconst 4, 735), (735, .iadd, 736), (736, .iaload, 737), (737, .aload_n 0, 738), (738, .iload_n 3, 739), (739, .iconst 5, 740), (740, .iadd, 741), (741, .iaload, 742), (742, .invokevirtual 77, 745), (745, .pop, 746), (746, .aload_n 2, 747), (747, .aload_n 0, 748), (748, .iload_n 3, 749), (749, .iconst 1, 750), (750, .iadd, 751), (751, .iaload, 752), (752, .aload_n 0, 753), (753, .iload_n 3, 754), (754, .iconst 2, 755), (755, .iadd, 756), (756, .iaload, 757), (757, .aload_n 0, 758), (758, .iload_n 3, 759), (759, .iconst 3, 760), (760, .iadd, 761), (761, .iaload, 762), (762, .aload_n 0, 763), (763, .iload_n 3, 764), (764, .iconst 4, 765), (765, .iadd, 766), (766, .iaload, 767), (767, .aload_n 0, 768), (768, .iload_n 3, 769), (769, .iconst 5, 770), (770, .iadd, 771), (771, .iaload, 772), (772, .invokevirtual 80, 775), (775, .pop, 776), (776, .goto 557, 779)]
theorem tc14_ok : tOk tc14 := tOk_of 716 (by decide +kernel)
def tc15 : List (Nat × Instr × Nat) := [(779, .aload_n 1, 780), (780, .aload_n 0, 781), (781, .iload_n 3, 782), (782, .iconst 1, 783), (783, .iadd, 784), (784, .iaload, 785), (785, .aload_n 0, 786), (786, .iload_n 3, 787), (787, .iconst 2, 788), (788, .iadd, 789), (789, .iaload, 790), (790, .invokevirtual 81, 793), (793, .pop, 794), (794, .aload_n 2, 795), (795, .aload_n 0, 796), (796, .iload_n 3, 797), (797, .iconst 1, 798), (798, .iadd, 799), (799, .iaload, 800), (800, .aload_n 0, 801), (801, .iload_n 3, 802), (802, .iconst 2, 803), (803, .iadd, 804), (804, .iaload, 805), (805, .invokevirtual 84, 808), (808, .pop, 809), (809, .goto 524, 812)]
theorem tc15_ok : tOk tc15 := tOk_of 779 (by decide +kernel)
def tc16 : List (Nat × Instr × Nat) := [(812, .aload_n 1, 813), (813, .aload_n 0, 814), (814, .iload_n 3, 815), (815, .iconst 1, 816), (816, .iadd, 817), (817, .iaload, 818), (818, .aload_n 0, 819), (819, .iload_n 3, 820), (820, .iconst 2, 821), (821, .iadd, 822), (822, .iaload, 823), (823, .aload_n 0, 824), (824, .iload_n 3, 825), (825, .iconst 3, 826), (826, .iadd, 827), (827, .iaload, 828), (828, .invokevirtual 85, 831), (831, .pop, 832), (832, .aload_n 2, 833), (833, .aload_n 0, 834), (834, .iload_n 3, 835), (835, .iconst 1, 836), (836, .iadd, 837), (837, .iaload, 838), (838, .aload_n 0, 839), (839, .iload_n 3, 840), (840, .iconst 2, 841), (841, .iadd, 842), (842, .iaload, 843), (843, .aload_n 0, 844), (844, .iload_n 3, 845), (845, .iconst 3, 846), (846, .iadd, 847), (847, .iaload, 848), (848, .invokevirtual 88, 851), (851, .pop, 852), (852, .goto 481, 855)]
theorem tc16_ok : tOk tc16 := tOk_of 812 (by decide +kernel)
def tc17 : List (Nat × Instr × Nat) := [(855, .aload_n 1, 856), (856, .aload_n 0, 857), (857, .iload_n 3, 858), (858, .iconst 1, 859), (859, .iadd, 860), (860, .iaload, 861), (861, .aload_n 0, 862), (862, .iload_n 3, 863), (863, .iconst 2, 864), (864, .iadd, 865), (865, .iaload, 866), (866, .aload_n 0, 867), (867, .iload_n 3, 868), (868, .iconst 3, 869), (869, .iadd, 870), (870, .iaload, 871), (871, .invokevirtual 89, 874), (874, .pop, 875), (875, .aload_n 2, 876), (876, .aload_n 0, 877), (877, .iload_n 3, 878), (878, .iconst 1, 879), (879, .iadd, 880), (880, .iaload, 881), (881, .aload_n 0, 882), (882, .iload_n 3, 883), (883, .iconst 2, 884), (884, .iadd, 885), (885, .iaload, 886), (886, .aload_n 0, 887), (887, .iload_n 3, 888), (888, .iconst 3, 889), (889, .iadd, 890), (890, .iaload, 891), (891, .invokevirtual 92, 894), (894, .pop, 895), (895, .goto 438, 898)]
theorem tc17_ok : tOk tc17 := tOk_of 855 (by decide +kernel)
def tc18 : List (Nat × Instr × Nat) := [(898, .aload_n 1, 899), (899, .aload_n 0, 900), (900, .iload_n 3, 901), (901, .iconst 1, 902), (902, .iadd, 903), (903, .iaload, 904), (904, .aload_n 0, 905), (905, .iload_n 3, 906), (906, .iconst 2, 907), (907, .iadd, 908), (908, .iaload, 909), (909, .invokevirtual 93, 912), (912, .pop, 913), (913, .aload_n 2, 914), (914, .aload_n 0, 915), (915, .iload_n 3, 916), (916, .iconst 1, 917), (917, .iadd, 918), (918, .iaload, 919), (919, .aload_n 0, 920), (920, .iload_n 3, 921), (921, .iconst 2, 922), (922, .iadd, 923), (923, .iaload, 924), (924, .invokevirtual 96, 927), (927, .pop, 928), (928, .goto 405, 931)]
theorem tc18_ok : tOk tc18 := tOk_of 898 (by decide +kernel)
def tc19 : List (Nat × Instr × Nat) := [(931, .aload_n 1, 932), (932, .aload_n 0, 933), (933, .iload_n 3, 934), (934, .iconst 1, 935), (935, .iadd, 936), (936, .iaload, 937), (937, .invokevirtual 97, 940), (940, .pop, 941), (941, .aload_n 2, 942), (942, .aload_n 0, 943), (943, .iload_n 3, 944), (944, .iconst 1, 945), (945, .iadd, 946), (946, .iaload, 947), (947, .invokevirtual 100, 950), (950, .pop, 951), (951, .goto 382, 954)]
theorem tc19_ok : tOk tc19 := tOk_of 931 (by decide +kernel)
def tc20 : List (Nat × Instr × Nat) := [(954, .aload_n 1, 955), (955, .aload_n 0, 956), (956, .iload_n 3, 957), (957, .iconst 1, 958), (958, .iadd, 959), (959, .iaload, 960), (960, .aload_n 0, 961), (961, .iload_n 3, 962), (962, .iconst 2, 963), (963, .iadd, 964), (964, .iaload, 965), (965, .invokevirtual 101, 968), (968, .pop2, 969), (969, .aload_n 2, 970), (970, .aload_n 0, 971), (971, .iload_n 3, 972), (972, .iconst 1, 973), (973, .iadd, 974), (974, .iaload, 975), (975, .aload_n 0, 976), (976, .iload_n 3, 977), (977, .iconst 2, 978), (978, .iadd, 979), (979, .iaload, 980), (980, .invokevirtual 105, 983), (983, .pop2, 984), (984, .goto 349, 987)]
theorem tc20_ok : tOk tc20 := tOk_of 954 (by decide +kernel)
def tc21 : List (Nat × Instr × Nat) := [(987, .aload_n 1, 988), (988, .aload_n 0, 989), (989, .iload_n 3, 990), (990, .iconst 1, 991), (991, .iadd, 992), (992, .iaload, 993), (993, .invokevirtual 106, 996), (996, .pop2, 997), (997, .aload_n 2, 998), (998, .aload_n 0, 999), (999, .iload_n 3, 1000), (1000, .iconst 1, 1001), (1001, .iadd, 1002), (1002, .iaload, 1003), (1003, .invokevirtual 110, 1006), (1006, .pop2, 1007), (1007, .goto 326, 1010)]
theorem tc21_ok : tOk tc21 := tOk_of 987 (by decide +kernel)
def tc22 : List (Nat × Instr × Nat) := [(1010, .aload_n 1, 1011), (1011, .aload_n 0, 1012), (1012, .iload_n 3, 1013), (1013, .iconst 1, 1014), (1014, .iadd, 1015), (1015, .iaload, 1016), (1016, .aload_n 0, 1017), (1017, .iload_n 3, 1018), (1018, .iconst 2, 1019), (1019, .iadd, 1020), (1020, .iaload, 1021), (1021, .invokevirtual 111, 1024), (1024, .pop, 1025), (1025, .aload_n 2, 1026), (1026, .aload_n 0, 1027), (1027, .iload_n 3, 1028), (1028, .iconst 1, 1029), (1029, .iadd, 1030), (1030, .iaload, 1031), (1031, .aload_n 0, 1032), (1032, .iload_n 3, 1033), (1033, .iconst 2, 1034), (1034, .iadd, 1035), (1035, .iaload, 1036), (1036, .invokevirtual 114, 1039), (1039, .pop, 1040), (1040, .goto 293, 1043)]
theorem tc22_ok : tOk tc22 := tOk_of 1010 (by decide +kernel)
def tc23 : List (Nat × Instr × Nat) := [(1043, .aload_n 1, 1044), (1044, .aload_n 0, 1045), (1045, .iload_n 3, 1046), (1046, .iconst 1, 1047), (1047, .iadd, 1048), (1048, .iaload, 1049), (1049, .aload_n 0, 1050), (1050, .iload_n 3, 1051), (1051, .iconst 2, 1052), (1052, .iadd, 1053), (1053, .iaload, 1054), (1054, .aload_n 0, 1055), (1055, .iload_n 3, 1056), (1056, .iconst 3, 1057), (1057, .iadd, 1058), (1058, .iaload, 1059), (1059, .invokevirtual 115, 1062), (1062, .pop, 1063), (1063, .aload_n 2, 1064), (1064, .aload_n 0, 1065), (1065, .iload_n 3, 1066), (1066, .iconst 1, 1067), (1067, .iadd, 1068), (1068, .iaload, 1069), (1069, .aload_n 0, 1070), (1070, .iload_n 3, 1071), (1071, .iconst 2, 1072), (1072, .iadd, 1073), (1073, .iaload, 1074), (1074, .aload_n 0, 1075), (1075, .iload_n 3, 1076), (1076, .iconst 3, 1077), (1077, .iadd, 1078), (1078, .iaload, 1079), (1079, .invokevirtual 118, 1082), (1082, .pop, 1083), (1083, .goto 250, 1086)]
theorem tc23_ok : tOk tc23 := tOk_of 1043 (by decide +kernel)
def tc24 : List (Nat × Instr × Nat) := [(1086, .aload_n 1, 1087), (1087, .aload_n 0, 1088), (1088, .iload_n 3, 1089), (1089, .iconst 1, 1090), (1090, .iadd, 1091), (1091, .iaload, 1092), (1092, .aload_n 0, 1093), (1093, .iload_n 3, 1094), (1094, .iconst 2, 1095), (1095, .iadd, 1096), (1096, .iaload, 1097), (1097, .invokevirtual 119, 1100), (1100, .pop, 1101), (1101, .aload_n 2, 1102), (1102, .aload_n 0, 1103), (1103, .iload_n 3, 1104), (1104, .iconst 1, 1105), (1105, .iadd, 1106), (1106, .iaload, 1107), (1107, .aload_n 0, 1108), (1108, .iload_n 3, 1109), (1109, .iconst 2, 1110), (1110, .iadd, 1111), (1111, .iaload, 1112), (1112, .invokevirtual 122, 1115), (1115, .pop, 1116), (1116, .goto 217, 1119)]
theorem tc24_ok : tOk tc24 := tOk_of 1086 (by decide +kernel)
def tc25 : List (Nat × Instr × Nat) := [(1119, .aload_n 1, 1120), (1120, .aload_n 0, 1121), (1121, .iload_n 3, 1122), (1122, .iconst 1, 1123), (1123, .iadd, 1124), (1124, .iaload, 1125), (1125, .invokevirtual 123, 1128), (1128, .pop, 1129), (1129, .aload_n 2, 1130), (1130, .aload_n 0, 1131), (1131, .iload_n 3, 1132), (1132, .iconst 1, 1133), (1133, .iadd, 1134), (1134, .iaload, 1135), (1135, .invokevirtual 126, 1138), (1138, .pop, 1139), (1139, .goto 194, 1142)]
theorem tc25_ok : tOk tc25 := tOk_of 1119 (by decide +kernel)
def tc26 : List (Nat × Instr × Nat) := [(1142, .aload_n 1, 1143), (1143, .aload_n 0, 1144), (1144, .iload_n 3, 1145), (1145, .iconst 1, 1146), (1146, .iadd, 1147), (1147, .iaload, 1148), (1148, .aload_n 0, 1149), (1149, .iload_n 3, 1150), (1150, .iconst 2, 1151), (1151, .iadd, 1152), (1152, .iaload, 1153), (1153, .invokevirtual 127, 1156), (1156, .pop, 1157), (1157, .aload_n 2, 1158), (1158, .aload_n 0, 1159), (1159, .iload_n 3, 1160), (1160, .iconst 1, 1161), (1161, .iadd, 1162), (1162, .iaload, 1163), (1163, .aload_n 0, 1164), (1164, .iload_n 3, 1165), (1165, .iconst 2, 1166), (1166, .iadd, 1167), (1167, .iaload, 1168), (1168, .invokevirtual 130, 1171), (1171, .pop, 1172), (1172, .goto 161, 1175)]
theorem tc26_ok : tOk tc26 := tOk_of 1142 (by decide +kernel)
def tc27 : List (Nat × Instr × Nat) := [(1175, .aload_n 1, 1176), (1176, .invokevirtual 131, 1179), (1179, .pop, 1180), (1180, .aload_n 2, 1181), (1181, .invokevirtual 135, 1184), (1184, .pop, 1185), (1185, .goto 148, 1188)]
theorem tc27_ok : tOk tc27 := tOk_of 1175 (by decide +kernel)
def tc28 : List (Nat × Instr × Nat) := [(1188, .aload_n 1, 1189), (1189, .aload_n 0, 1190), (1190, .iload_n 3, 1191), (1191, .iconst 1, 1192), (1192, .iadd, 1193), (1193, .iaload, 1194), (1194, .invokevirtual 136, 1197), (1197, .pop, 1198), (1198, .aload_n 2, 1199), (1199, .aload_n 0, 1200), (1200, .iload_n 3, 1201), (1201, .iconst 1, 1202), (1202, .iadd, 1203), (1203, .iaload, 1204), (1204, .invokevirtual 139, 1207), (1207, .pop, 1208), (1208, .goto 125, 1211)]
theorem tc28_ok : tOk tc28 := tOk_of 1188 (by decide +kernel)
def tc29 : List (Nat × Instr × Nat) := [(1211, .aload_n 1, 1212), (1212, .aload_n 0, 1213), (1213, .iload_n 3, 1214), (1214, .iconst 1, 1215), (1215, .iadd, 1216), (1216, .iaload, 1217), (1217, .aload_n 0, 1218), (1218, .iload_n 3, 1219), (1219, .iconst 2, 1220), (1220, .iadd, 1221), (1221, .iaload, 1222), (1222, .invokevirtual 140, 1225), (1225, .pop, 1226), (1226, .aload_n 2, 1227), (1227, .aload_n 0, 1228), (1228, .iload_n 3, 1229), (1229, .iconst 1, 1230), (1230, .iadd, 1231), (1231, .iaload, 1232), (1232, .aload_n 0, 1233), (1233, .iload_n 3, 1234), (1234, .iconst 2, 1235), (1235, .iadd, 1236), (1236, .iaload, 1237), (1237, .invokevirtual 143, 1240), (1240, .pop, 1241), (1241, .goto 92, 1244)]
theorem tc29_ok : tOk tc29 := tOk_of 1211 (by decide +kernel)
def tc30 : List (Nat × Instr × Nat) := [(1244, .aload_n 1, 1245), (1245, .aload_n 0, 1246), (1246, .iload_n 3, 1247), (1247, .iconst 1, 1248), (1248, .iadd, 1249), (1249, .iaload, 1250), (1250, .aload_n 0, 1251), (1251, .iload_n 3, 1252), (1252, .iconst 2, 1253), (1253, .iadd, 1254), (1254, .iaload, 1255), (1255, .invokevirtual 144, 1258), (1258, .pop, 1259), (1259, .aload_n 2, 1260), (1260, .aload_n 0, 1261), (1261, .iload_n 3, 1262), (1262, .iconst 1, 1263), (1263, .iadd, 1264), (1264, .iaload, 1265), (1265, .aload_n 0, 1266), (1266, .iload_n 3, 1267), (1267, .iconst 2, 1268), (1268, .iadd, 1269), (1269, .iaload, 1270), (1270, .invokevirtual 147, 1273), (1273, .pop, 1274), (1274, .goto 59, 1277)]
theorem tc30_ok : tOk tc30 := tOk_of 1244 (by decide +kernel)
def tc31 : List (Nat × Instr × Nat) := [(1277, .aload_n 1, 1278), (1278, .aload_n 0, 1279), (1279, .iload_n 3, 1280), (1280, .iconst 1, 1281), (1281, .iadd, 1282), (1282, .iaload, 1283), (1283, .aload_n 0, 1284), (1284, .iload_n 3, 1285), (1285, .iconst 2, 1286), (1286, .iadd, 1287), (1287, .iaload, 1288), (1288, .invokevirtual 148, 1291), (1291, .pop, 1292), (1292, .aload_n 2, 1293), (1293, .aload_n 0, 1294), (1294, .iload_n 3, 1295), (1295, .iconst 1, 1296), (1296, .iadd, 1297), (1297, .iaload, 1298), (1298, .aload_n 0, 1299), (1299, .iload_n 3, 1300), (1300, .iconst 2, 1301), (1301, .iadd, 1302), (1302, .iaload, 1303), (1303, .invokevirtual 151, 1306), (1306, .pop, 1307), (1307, .goto 26, 1310)]
theorem tc31_ok : tOk tc31 := tOk_of 1277 (by decide +kernel)
def tc32 : List (Nat × Instr × Nat) := [(1310, .aload_n 1, 1311), (1311, .aload_n 0, 1312), (1312, .iload_n 3, 1313), (1313, .iconst 1, 1314), (1314, .iadd, 1315), (1315, .iaload, 1316), (1316, .invokevirtual 152, 1319), (1319, .pop, 1320), (1320, .aload_n 2, 1321), (1321, .aload_n 0, 1322), (1322, .iload_n 3, 1323), (1323, .iconst 1, 1324), (1324, .iadd, 1325), (1325, .iaload, 1326), (1326, .invokevirtual 155, 1329), (1329, .pop, 1330), (1330, .goto 3, 1333)]
theorem tc32_ok : tOk tc32 := tOk_of 1310 (by decide +kernel)
def tE : List (Nat × Instr × Nat) := [(1333, .iinc 3 8, 1336), (1336, .goto (-1318), 1339), (1339, .iconst 1, 1340), (1340, .ireturn, 1341)]
theorem tE_ok : tOk tE := tOk_of 1333 (by decide +kernel)
end
