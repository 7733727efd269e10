/-! both sides side by side: the parts kept -/
def MM (σ τ : eS) : Prop := (σ 22 2 = τ 0 30 ∧ σ 22 4 = τ 0 28 ∧ σ 22 5 = τ 0 27 ∧ σ 22 6 = τ 0 29) ∧ (σ 22 3 = if τ 0 30 = 2 then τ 0 31 else τ 0 28) ∧ (τ 0 27 = 0 → τ 0 28 = 0) ∧ ∀ q, 0 ≤ q → q < τ 0 27 → wA σ q = wB τ q ∧ ∀ i, 0 ≤ i → i < τ 0 28 → kA σ q i = kB τ q i
theorem MM_keep {σ τ σ' τ' : eS} (h : MM σ τ) (a : miS σ σ') (b : miK τ τ') : MM σ' τ' := by
  have a2 : ∀ k, σ' 22 k = σ 22 k := fun k => a _ _ (by decide) (by decide)
  have b27 := b 0 27 (by omega)
  have b28 := b 0 28 (by omega)
  have b29 := b 0 29 (by omega)
  have b30 := b 0 30 (by omega)
  have b31 := b 0 31 (by omega)
  have aw : wA σ' = wA σ := by funext q; exact a _ _ (by decide) (by decide)
  have ak : kA σ' = kA σ := by funext q i; exact a _ _ (by decide) (by decide)
  have bw : wB τ' = wB τ := by funext q; exact b _ _ (by omega)
  have bk : kB τ' = kB τ := by funext q i; exact b _ _ (by omega)
  unfold MM
  rw [a2, a2, a2, a2, a2, b27, b28, b29, b30, b31, aw, ak, bw, bk]
  exact h
section G5
variable {σ τ σ' τ' : eS} {zA zB : Int}
theorem ev_al (hI : iB1 τ) (hA : IA σ) (h : TT σ τ) (s : Int) : evA σ s ↔ evB τ s := by
  constructor
  · rintro ⟨s1, s2, q⟩
    have e := h s s1 s2
    rcases (hA.2.1 _ (sl_tA ⟨s1, s2⟩)).2 with w | ⟨w, -⟩
    · exact absurd w.1 q
    · have n1 := w.1
      rw [e.1] at n1
      refine ⟨⟨s1, s2, n1⟩, ?_, fun k a b => ?_, fun k a b => ?_⟩
      · rw [← row_al e ⟨by omega, n1⟩]; exact w.2.1
      · rw [← row_al e ⟨a, b⟩, ← row_al e ⟨by omega, n1⟩]; exact w.2.2.1 k a (by rw [e.1]; exact b)
      · rw [← col_al e ⟨a, b⟩, ← row_al e ⟨by omega, n1⟩]; exact w.2.2.2 k a (by rw [e.1]; exact b)
  · rintro ⟨⟨s1, s2, n1⟩, w1, w2, w3⟩
    have e := h s s1 s2
    refine ⟨s1, s2, fun q => ?_⟩
    rcases (hA.2.1 _ (sl_tA ⟨s1, s2⟩)).2 with w | ⟨w, v⟩
    · refine w.2 ⟨by rw [e.1]; exact n1, ?_, fun k a b => ?_, fun k a b => ?_⟩
      · rw [row_al e ⟨by omega, n1⟩]; exact w1
      · rw [e.1] at b; rw [row_al e ⟨a, b⟩, row_al e ⟨by omega, n1⟩]; exact w2 k a b
      · rw [e.1] at b; rw [col_al e ⟨a, b⟩, row_al e ⟨by omega, n1⟩]; exact w3 k a b
    · have := w.2.1
      omega
theorem MM_mx {kind n rows m r : Int} {W V : Int → Int → Int} (hr : 1 ≤ rows ∧ rows ≤ 8) (hm : 1 ≤ m) (ag0 : ag rows W V) (hA : mpA σ σ' kind n rows m r zA W) (hB : mpB τ τ' kind rows m r zB V) (hk : iK τ) (hn : n = if kind = 2 then τ' 0 31 else rows) : MM σ' τ' ∧ zA = zB := by
  obtain ⟨-, -, -, -, ⟨a1, a2, a3, a4, a5⟩, a6⟩ := hA
  obtain ⟨⟨-, bk⟩, ⟨b1, b2, b3, b4⟩, b5⟩ := hB
  obtain ⟨e, p⟩ := PE_un hr ag0 a6 b5
  have ik := bk hk
  have z1 : τ' 0 27 = 0 → τ' 0 28 = 0 := fun q => by
    have s := ik.2.2.2.2.2.2.1.2
    rw [q] at s
    have s : (0 : Int) = τ' 0 29 := s
    omega
  refine ⟨⟨⟨by rw [a1, b1], by rw [a3, b2], by rw [a4, b3, e], by rw [a5, b4]⟩, by rw [a2, b1, b2, hn], z1, fun q x y => ?_⟩, e⟩
  have := p q x (by omega)
  exact ⟨this.1, fun i u v => this.2 i u (by omega)⟩
theorem MM_peel {s r : Int} (hI : IB τ) (hA : IA σ) (h : TT σ τ) (m : MM σ τ) (qA : XpA σ s r σ' zA) (qB : XpB τ s r τ' zB) : MM σ' τ' ∧ zA = zB := by
  have ev := ev_al hI.1 hA h s
  rcases qA with ⟨a1, a2, a3⟩ | ⟨a1, a2⟩ <;> rcases qB with ⟨b1, b2, b3⟩ | ⟨b1, b2⟩
  · rw [a2, b2, a3, b3]; exact ⟨m, rfl⟩
  · exact absurd ⟨ev.mpr b1.1, b1.2⟩ a1
  · exact absurd ⟨ev.mp a1.1, a1.2⟩ b1
  · obtain ⟨⟨s1, s2, n1⟩, w1, -⟩ := b1.1
    have e := h s s1 s2
    have tn := (hI.1.1 s s1 s2).2.1
    have em : σ (s.toNat + 2) 3 = rowB τ s 0 := by
      rcases (hA.2.1 _ (sl_tA ⟨s1, s2⟩)).2 with w | ⟨-, w⟩
      · exact absurd w.1 a1.1.2.2
      · rw [w, row_al e ⟨by omega, n1⟩]
    rw [e.1, em] at a2
    exact MM_mx ⟨by omega, tn⟩ (by omega) (fun i j a b c d => e.2.2.2 i j a b c d) a2 b2 hI.2.1 (by rw [if_neg (by decide)])
theorem tg_cg {n v : Int} {c c' : Int → Int → Int} {row row' col col' : Int → Int} (hc : ag n c c') (hr : ∀ k, 0 ≤ k → k < n → row k = row' k ∧ col k = col' k) {a b : Int} (ha : 0 ≤ a ∧ a < 2 * n) (hb : 0 ≤ b ∧ b < 2 * n) : tg n v c row col n 0 a b = tg n v c' row' col' n 0 a b := by
  unfold tg
  by_cases q1 : a < n
  · rw [if_pos q1, if_pos q1]
    by_cases q2 : b < n
    · rw [if_pos q2, if_pos q2, hc a b ha.1 q1 hb.1 q2]
    · rw [if_neg q2, if_neg q2, (hr a ha.1 q1).1]
  · rw [if_neg q1, if_neg q1]
    by_cases q2 : b < n
    · rw [if_pos q2, if_pos q2, (hr b hb.1 q2).2]
    · rw [if_neg q2, if_neg q2, hc (b - n) (a - n) (by omega) (by omega) (by omega) (by omega)]
theorem any_al {n : Int} {c c' : Int → Int → Int} (h : ag n c c') : anyP n c ↔ anyP n c' := by
  constructor
  · rintro ⟨i, j, a, b, d⟩; exact ⟨i, j, a, b, by rw [← h i j a.1 a.2 b.1 b.2]; exact d⟩
  · rintro ⟨i, j, a, b, d⟩; exact ⟨i, j, a, b, by rw [h i j a.1 a.2 b.1 b.2]; exact d⟩
theorem MM_shop {s r : Int} (hI : IB τ) (hA : IA σ) (h : TT σ τ) (m : MM σ τ) (qA : XsA σ s r σ' zA) (qB : XsB τ s r τ' zB) : MM σ' τ' ∧ zA = zB := by
  have ta := tab_al hI.1 h s
  have ok : okS (tabA σ s) (anyP (σ (s.toNat + 2) 1) (cT σ (s.toNat + 2))) (σ (s.toNat + 2) 1) r ↔ okS (tabB τ s) (anyP (τ 1 s) (cB τ s)) (τ 1 s) r := by
    unfold okS
    rw [ta]
    constructor
    · rintro ⟨t, w⟩
      have e := h s t.1 t.2.1
      rw [e.1, any_al (fun i j a b c d => e.2.2.2 i j a b c d)] at w
      exact ⟨t, w⟩
    · rintro ⟨t, w⟩
      have e := h s t.1 t.2.1
      rw [e.1, any_al (fun i j a b c d => e.2.2.2 i j a b c d)]
      exact ⟨t, w⟩
  rcases qA with ⟨a1, a2, a3⟩ | ⟨a1, L, a2, a3⟩ <;> rcases qB with ⟨b1, b2, b3⟩ | ⟨b1, L', b2, b3, b4⟩
  · rw [a2, b2, a3, b3]; exact ⟨m, rfl⟩
  · exact absurd (ok.mpr b1) a1
  · exact absurd (ok.mp a1) b1
  · obtain ⟨s1, s2, n1⟩ := b1.1
    have e := h s s1 s2
    have n4 := b1.2.1
    have hT := (hA.2.1 _ (sl_tA ⟨s1, s2⟩)).1
    have L1 := gr_pos hT a2 a1.2.2.1
    unfold shW at a3
    rw [e.1] at a2 a3
    have rc : ∀ k, 0 ≤ k → k < τ 1 s → rowT σ (s.toNat + 2) k = rowB τ s k ∧ colT σ (s.toNat + 2) k = colB τ s k := fun k a b => ⟨row_al e ⟨a, b⟩, col_al e ⟨a, b⟩⟩
    have eL : L = L' := grS_un (by omega) (fun k a b => ⟨(rowT_bd hT (i := k) ⟨a, by omega⟩).1, (colT_bd hT (i := k) ⟨a, by omega⟩).1⟩) rc a2 b2
    subst eL
    unfold shB' at b3
    exact MM_mx ⟨by omega, by omega⟩ L1 (fun i j a b c d => tg_cg (fun i j a b c d => e.2.2.2 i j a b c d) rc ⟨a, b⟩ ⟨c, d⟩) a3 b3 hI.2.1 (by rw [if_pos rfl, b4])
/-! the answers -/
theorem part_al {k r : Int} (m : MM σ τ) (qA : prS (σ 22 5) (σ 22 4) (kA σ) k r zA) (qB : (zB = τ 13 (8 * k + r) ∧ 0 ≤ k ∧ k < τ 0 27 ∧ 0 ≤ r ∧ r < τ 0 28) ∨ (zB = -1 ∧ ¬ (0 ≤ k ∧ k < τ 0 27 ∧ 0 ≤ r ∧ r < τ 0 28))) : zA = zB := by
  obtain ⟨⟨m1, m2, m3, m4⟩, -, -, m5⟩ := m
  unfold prS at qA
  rw [m2, m3] at qA
  rcases qB with ⟨b1, b2⟩ | ⟨b1, b2⟩
  · rw [if_pos b2, (m5 k b2.1 b2.2.1).2 r b2.2.2.1 b2.2.2.2] at qA
    rw [qA, b1]
    rfl
  · rw [if_neg b2] at qA
    rw [qA, b1]
theorem whole1 (hK : iK τ) (h : τ 0 27 ≠ 0) : 1 ≤ τ 0 29 := by
  obtain ⟨h1, -⟩ := id hK
  have := wt_le hK (k := 0) (by omega) (by omega)
  omega
theorem weight_al {k w : Int} (hK : iK τ) (m : MM σ τ) (qA : (1 ≤ σ 22 6 → wtS (σ 22 5) (σ 22 6) (wA σ) k w zA) ∧ (σ 22 5 = 0 → zA = -1)) (qB : wtS (τ 0 27) (τ 0 29) (wB τ) k w zB) : zA = zB := by
  obtain ⟨⟨m1, m2, m3, m4⟩, -, -, m5⟩ := m
  rw [m3, m4] at qA
  have b0 := hK.1
  unfold wtS at qA qB
  by_cases q : τ 0 27 = 0
  · rw [if_neg (by omega)] at qB
    rw [qA.2 q, qB]
  · have a := qA.1 (whole1 hK q)
    by_cases y : (0 ≤ k ∧ k < τ 0 27) ∧ 0 ≤ w ∧ w ≤ 2
    · rw [if_pos y, (m5 k y.1.1 y.1.2).1] at a
      rw [if_pos y] at qB
      rw [a, qB]
    · rw [if_neg y] at a qB
      rw [a, qB]
theorem draw_al {r : Int} (hK : iK τ) (m : MM σ τ) (qA : drS (σ 22 5) (wA σ) r zA) (qB : drS (τ 0 27) (wB τ) r zB) : zA = zB := by
  obtain ⟨⟨m1, m2, m3, m4⟩, -, -, m5⟩ := m
  rw [m3] at qA
  exact drS_un (fun q a b => by rw [(m5 q a b).1]; exact wB_nn hK q a b) (fun q a b => (m5 q a b).1) qA qB
theorem joint_al {i j k l w : Int} (hK : iK τ) (m : MM σ τ) (qA : (1 ≤ σ 22 6 → jtS (σ 22 5) (σ 22 4) (σ 22 6) (wA σ) (kA σ) i j k l w zA) ∧ (σ 22 4 = 0 → zA = -1)) (qB : (τ 0 27 ≠ 0 → jtS (τ 0 27) (τ 0 28) (τ 0 29) (wB τ) (kB τ) i j k l w zB) ∧ (τ 0 27 = 0 → zB = -1)) : zA = zB := by
  obtain ⟨⟨m1, m2, m3, m4⟩, -, m0, m5⟩ := m
  rw [m2, m3, m4] at qA
  by_cases q : τ 0 27 = 0
  · rw [qA.2 (m0 q), qB.2 q]
  · have a := qA.1 (whole1 hK q)
    have b := qB.1 q
    unfold jtS at a b
    by_cases y : okJ4 (τ 0 28) i j k l w
    · rw [if_pos y, twS_cg (fun q x y => m5 q x y) y.1 y.2.2.1] at a
      rw [if_pos y] at b
      rw [a, b]
    · rw [if_neg y] at a b
      rw [a, b]
theorem pc_b : ∀ s : Fin 256, pc (s.val : Int) = sm (fun c => if bt (s.val : Int) c = true then 1 else 0) 8 := by decide +kernel
theorem pc_sm {s : Int} (h : 0 ≤ s ∧ s < 256) : pc s = sm (fun c => if bt s c = true then 1 else 0) 8 := fin1 (P := fun s => pc s = sm (fun c => if bt s c = true then 1 else 0) 8) pc_b h.1 h.2
theorem tw_pos {N r c : Int} {wt : Int → Int} {col : Int → Int → Int} (hw : ∀ q, 0 ≤ q → q < N → 1 ≤ wt q) : 0 < twS N wt col r c r c ↔ ∃ p, 0 ≤ p ∧ p < N ∧ col p r = c := by
  unfold twS
  constructor
  · intro h
    obtain ⟨p, a, b, d⟩ := sm_ex (f := fun p => if col p r = c ∧ col p r = c then wt p else 0) (n := N.toNat) (by omega)
    refine ⟨p, a, by omega, ?_⟩
    by_cases q : col p r = c
    · exact q
    · exact absurd (if_neg (fun y => q y.1)) d
  · rintro ⟨p, a, b, d⟩
    have x := sm_le (f := fun p => if col p r = c ∧ col p r = c then wt p else 0) (n := N.toNat) (fun q u v => by (try dsimp only); have := hw q u (by omega); split <;> omega) p a (by omega)
    try dsimp only at x
    rw [if_pos ⟨d, d⟩] at x
    have := hw p a b
    omega
theorem cu_al {N n r s : Int} {wt : Int → Int} {col col' : Int → Int → Int} (hn : 0 ≤ n ∧ n ≤ 8) (hr : 0 ≤ r ∧ r < n) (hw : ∀ q, 0 ≤ q → q < N → 1 ≤ wt q) (hc : ∀ q, 0 ≤ q → q < N → col q r = col' q r ∧ 0 ≤ col' q r ∧ col' q r < n) (h : seS N col r s) : pc s = cuS (fun c => twS N wt col' r c r c) n := by
  rw [pc_sm h.1]
  have bb : ∀ c : Int, 0 ≤ c → c < 8 → (bt s c = true ↔ ∃ p, 0 ≤ p ∧ p < N ∧ col' p r = c) := fun c a b => by
    rw [h.2 c a b]
    constructor
    · rintro ⟨p, x, y, z⟩; exact ⟨p, x, y, by rw [← (hc p x y).1]; exact z⟩
    · rintro ⟨p, x, y, z⟩; exact ⟨p, x, y, by rw [(hc p x y).1]; exact z⟩
  have e8 : (8 : Nat) = n.toNat + (8 - n.toNat) := by omega
  have x := sm_add (fun c => if bt s c = true then (1 : Int) else 0) n.toNat (8 - n.toNat)
  rw [← e8] at x
  have z := sm_bd (f := fun k => if bt s (((n.toNat : Nat) : Int) + k) = true then (1 : Int) else 0) (B := 0) (by decide) (n := 8 - n.toNat) (fun k a b => by
    try dsimp only
    rw [if_neg]
    · omega
    · intro q
      obtain ⟨p, u, v, w⟩ := (bb _ (by omega) (by omega)).mp q
      have := (hc p u v).2.2
      omega)
  have y : sm (fun c => if bt s c = true then (1 : Int) else 0) n.toNat = cuS (fun c => twS N wt col' r c r c) n := by
    unfold cuS
    refine sm_cg (fun c a b => ?_)
    have t := (bb c a (by omega)).trans (tw_pos (c := c) hw).symm
    by_cases q : bt s c = true
    · rw [if_pos q, if_pos (t.mp q)]
    · rw [if_neg q, if_neg (fun w => q (t.mpr w))]
  omega
theorem most_al {r w : Int} (hK : iK τ) (m : MM σ τ) (qA : mtS (σ 22 5) (σ 22 4) (wA σ) (kA σ) r w zA) (qB : moS (τ 0 27) (τ 0 28) (wB τ) (kB τ) r w zB) : zA = zB := by
  obtain ⟨⟨m1, m2, m3, m4⟩, -, m0, m5⟩ := m
  rw [m2, m3] at qA
  obtain ⟨-, -, k3, k4, -, -, kw, kc, -⟩ := hK
  rcases qA with ⟨a1, a2⟩ | ⟨a1, a2⟩ <;> rcases qB with ⟨b1, b2⟩ | ⟨b1, b2⟩
  · rw [a1, b1]
  · exact absurd b1 a2
  · exfalso
    have : τ 0 27 ≠ 0 := fun q => by have := m0 q; omega
    exact b2 ⟨⟨this, a1.1⟩, a1.2⟩
  · have tw : ∀ c, twS (τ 0 27) (wA σ) (kA σ) r c r c = twS (τ 0 27) (wB τ) (kB τ) r c r c := fun c => twS_cg (fun q x y => m5 q x y) a1.1 a1.1
    rcases a2 with ⟨w2, s, a3, a4⟩ | ⟨w2, b, a3, a4⟩ <;> rcases b2 with ⟨v2, b3⟩ | ⟨v2, b', b3, b4⟩
    · rw [a4, b3]
      exact cu_al ⟨k3, k4⟩ a1.1 (fun q x y => kw.1 q x y) (fun q x y => ⟨(m5 q x y).2 r a1.1.1 a1.1.2, kc q r x y a1.1.1 a1.1.2⟩) a3
    · exact absurd w2 v2
    · exact absurd v2 w2
    · have e := mxS_un (fun j _ _ => tw j) a3 b3
      subst e
      rw [a4, b4, tw]
theorem works_al {j t : Int} (hK : iK τ) (m : MM σ τ) (qA : wkS (σ 22 5) (σ 22 3) (wA σ) (kA σ) (σ 22 2 = 2 ∧ 0 ≤ j ∧ j < σ 22 3) j t zA) (qB : wkS (τ 0 27) (τ 0 31) (wB τ) (kB τ) (τ 0 30 = 2 ∧ 0 ≤ j ∧ j < τ 0 31) j t zB) : zA = zB := by
  have m' := m
  obtain ⟨⟨m1, m2, m3, m4⟩, mn, m0, m5⟩ := m
  rw [m1, m3] at qA
  rcases qA with ⟨a1, a2⟩ | ⟨⟨a0, a1⟩, p, a2, a3⟩ <;> rcases qB with ⟨b1, b2⟩ | ⟨⟨b0, b1⟩, p', b2, b3⟩
  · rw [a1, b1]
  · exfalso
    rw [b0, if_pos rfl] at mn
    exact a2 ⟨b0, by omega⟩
  · exfalso
    rw [a0, if_pos rfl] at mn
    exact b2 ⟨a0, by omega⟩
  · rw [b0, if_pos rfl] at mn
    have k2 := hK.two b0
    have e := draw_al hK m' (zA := p) (zB := p') (by rw [m3]; exact a2) b2
    subst e
    rcases a3 with ⟨a3, a4⟩ | ⟨a3, a4⟩ <;> rcases b3 with ⟨b3, b4⟩ | ⟨b3, b4⟩
    · rw [a4, b4]
    · omega
    · omega
    · have pl : p < τ 0 27 := by
        rcases b2 with ⟨q, -⟩ | ⟨q, -⟩ <;> omega
      rw [a4, b4, (m5 p a3 pl).2 j (by omega) (by omega), mn]
end G5
theorem paired_al {σ τ : eS} {x0 x1 x2 zA zB : Int} (hI : iB1 τ) (h : TT σ τ) (qA : (¬ okPr (tabA σ x0) (σ (x0.toNat + 2) 1) x1 x2 ∧ zA = -1) ∨ (okPr (tabA σ x0) (σ (x0.toNat + 2) 1) x1 x2 ∧ paS (σ (x0.toNat + 2) 1) (fun i j => x1 ≤ cT σ (x0.toNat + 2) i j) x2 zA)) (qB : (¬ okPr (tabB τ x0) (τ 1 x0) x1 x2 ∧ zB = -1) ∨ (okPr (tabB τ x0) (τ 1 x0) x1 x2 ∧ paS (τ 1 x0) (fun i j => x1 ≤ cB τ x0 i j) x2 zB)) : zA = zB := by
  have ta := tab_al hI h x0
  have ok : okPr (tabA σ x0) (σ (x0.toNat + 2) 1) x1 x2 ↔ okPr (tabB τ x0) (τ 1 x0) x1 x2 := by
    unfold okPr
    rw [ta]
    constructor
    · rintro ⟨t, w⟩
      rw [(h x0 t.1 t.2.1).1] at w
      exact ⟨t, w⟩
    · rintro ⟨t, w⟩
      rw [(h x0 t.1 t.2.1).1]
      exact ⟨t, w⟩
  rcases qA with ⟨a1, a2⟩ | ⟨a1, a2⟩ <;> rcases qB with ⟨b1, b2⟩ | ⟨b1, b2⟩
  · rw [a2, b2]
  · exact absurd (ok.mpr b1) a1
  · exact absurd (ok.mp a1) b1
  · have e := h x0 b1.1.1 b1.1.2.1
    have tn := tb_n hI b1.1
    rw [e.1] at a2
    exact paS_un ⟨by omega, tn.2⟩ b1.2.2 (fun i j a b c d => by rw [e.2.2.2 i j a b c d]) a2 b2
/-! what was shown -/
def SS (σ τ : eS) : Prop := ∃ l, bfl (fun k => σ 47 k) (σ 46 1) l ∧ bfl (fun k => τ 23 k) (τ 0 42) l
theorem SS_keep {σ τ σ' τ' : eS} (h : SS σ τ) (a : swS σ σ') (b : swK τ τ') : SS σ' τ' := by
  obtain ⟨l, h1, h2⟩ := h
  have e1 : (fun k => σ' 47 k) = (fun k => σ 47 k) := by funext k; exact a _ _ (by decide) (by decide)
  have e2 : (fun k => τ' 23 k) = (fun k => τ 23 k) := by funext k; exact b.2 k
  refine ⟨l, ?_, ?_⟩
  · rw [e1, a 46 1 (by decide) (by decide)]; exact h1
  · rw [e2, b.1]; exact h2
theorem SS_show {σ τ σ' τ' : eS} {zA zB : Int} (m : MM σ τ) (qA : zA = σ' 46 1 ∧ bfl (fun k => σ' 47 k) (σ' 46 1) (shL (wA σ) (kA σ) (σ 22 4) (σ 22 5).toNat)) (qB : zB = τ' 0 42 ∧ bfl (fun k => τ' 23 k) (τ' 0 42) (shL (wB τ) (kB τ) (τ 0 28) (τ 0 27).toNat)) : SS σ' τ' ∧ zA = zB := by
  obtain ⟨⟨m1, m2, m3, m4⟩, -, -, m5⟩ := m
  obtain ⟨a1, a2⟩ := qA
  obtain ⟨b1, b2⟩ := qB
  rw [m2, m3, shL_cg (fun q x y => m5 q x (by omega))] at a2
  refine ⟨⟨_, a2, b2⟩, ?_⟩
  rw [a1, b1, a2.1, b2.1]
theorem out_al {σ τ : eS} {i zA zB : Int} (h : SS σ τ) (qA : ouS (σ 46 1) (fun k => σ 47 k) i zA) (qB : ouS (τ 0 42) (fun k => τ 23 k) i zB) : zA = zB := by
  obtain ⟨l, ⟨h1, h2⟩, g1, g2⟩ := h
  rcases qA with ⟨a1, a2⟩ | ⟨a1, a2⟩ <;> rcases qB with ⟨b1, b2⟩ | ⟨b1, b2⟩
  · rw [a1, b1]
  · exfalso; omega
  · exfalso; omega
  · have x := h2 i.toNat (by omega)
    have y := g2 i.toNat (by omega)
    rw [x] at y
    have z := Option.some.inj y
    rw [Int.toNat_of_nonneg a1.1] at z
    rw [a2, b2]
    exact z
theorem mixing_al {σ τ : eS} {x0 zA zB : Int} (hI : iB1 τ) (h : TT σ τ) (qA : ((¬ tabA σ x0 ∧ zA = -1) ∨ (tabA σ x0 ∧ mxG (σ (x0.toNat + 2) 1) (cT σ (x0.toNat + 2)) zA))) (qB : ((¬ tabB τ x0 ∧ zB = -1) ∨ (tabB τ x0 ∧ mxG (τ 1 x0) (cB τ x0) zB))) : zA = zB := by
  have ta := tab_al hI h x0
  rcases qA with ⟨a1, a2⟩ | ⟨a1, a2⟩ <;> rcases qB with ⟨b1, b2⟩ | ⟨b1, b2⟩
  · rw [a2, b2]
  · exact absurd (ta.mpr b1) a1
  · exact absurd (ta.mp a1) b1
  · have e := h x0 b1.1 b1.2.1
    rw [e.1] at a2
    exact mxG_un (fun i j a b c d => e.2.2.2 i j a b c d) a2 b2
theorem kin_al {σ τ : eS} {x0 x1 zA zB : Int} (hI : iB1 τ) (h : TT σ τ) (qA : ((¬ okKn (tabA σ x0) (σ (x0.toNat + 2) 1) x1 ∧ zA = -1) ∨ (okKn (tabA σ x0) (σ (x0.toNat + 2) 1) x1 ∧ kiS (σ (x0.toNat + 2) 1) (cT σ (x0.toNat + 2)) x1 zA))) (qB : ((¬ okKn (tabB τ x0) (τ 1 x0) x1 ∧ zB = -1) ∨ (okKn (tabB τ x0) (τ 1 x0) x1 ∧ kiS (τ 1 x0) (cB τ x0) x1 zB))) : zA = zB := by
  have ta := tab_al hI h x0
  have ok : okKn (tabA σ x0) (σ (x0.toNat + 2) 1) x1 ↔ okKn (tabB τ x0) (τ 1 x0) x1 := by
    unfold okKn
    rw [ta]
    constructor
    · rintro ⟨t, w⟩
      rw [(h x0 t.1 t.2.1).1] at w
      exact ⟨t, w⟩
    · rintro ⟨t, w⟩
      rw [(h x0 t.1 t.2.1).1]
      exact ⟨t, w⟩
  rcases qA with ⟨a1, a2⟩ | ⟨a1, a2⟩ <;> rcases qB with ⟨b1, b2⟩ | ⟨b1, b2⟩
  · rw [a2, b2]
  · exact absurd (ok.mpr b1) a1
  · exact absurd (ok.mp a1) b1
  · have e := h x0 b1.1.1 b1.1.2.1
    have tn := tb_n hI b1.1
    rw [e.1] at a2
    exact kiS_un tn.2 (fun i j a b c d => e.2.2.2 i j a b c d) b1.2 a2 b2
