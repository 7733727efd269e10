/-! both sides side by side: the tables -/
def tbE (σ τ : eS) (s : Int) : Prop := σ (s.toNat + 2) 1 = τ 1 s ∧ (τ 1 s ≠ 0 → σ (s.toNat + 2) 2 = τ 2 s) ∧ (τ 1 s = 0 → τ 2 s = 0) ∧ ∀ i j, 0 ≤ i → i < τ 1 s → 0 ≤ j → j < τ 1 s → cT σ (s.toNat + 2) i j = cB τ s i j
def TT (σ τ : eS) : Prop := ∀ s : Int, 0 ≤ s → s < 4 → tbE σ τ s
theorem TT_keepW {σ τ σ' τ' : eS} (h : TT σ τ) (a : tbV σ σ') (b : tbK τ τ') : TT σ' τ' := fun s s1 s2 => by
  obtain ⟨h1, h2, h3, h4⟩ := h s s1 s2
  have e1 : σ' (s.toNat + 2) 1 = σ (s.toNat + 2) 1 := a _ _ (by omega) (by omega) (fun _ => by omega)
  have e2 : σ' (s.toNat + 2) 2 = σ (s.toNat + 2) 2 := a _ _ (by omega) (by omega) (fun _ => by omega)
  refine ⟨by rw [e1, (b s).1, h1], fun q => ?_, fun q => ?_, fun i j p q r w => ?_⟩
  · rw [(b s).1] at q; rw [e2, (b s).2.1]; exact h2 q
  · rw [(b s).1] at q; rw [(b s).2.1]; exact h3 q
  · rw [(b s).1] at q w
    rw [cB_cg b]
    unfold cT
    rw [a _ _ (by omega) (by omega) (fun _ => by omega)]
    exact h4 i j p q r w
theorem TT_keep {σ τ σ' τ' : eS} (h : TT σ τ) (a : tbS σ σ') (b : tbK τ τ') : TT σ' τ' := TT_keepW h a.v b
theorem TT_set {σ τ σ' τ' : eS} {s0 n b b' : Int} {f : Int → Int → Int} (hI : iB1 τ) (h0 : 0 ≤ s0 ∧ s0 < 4) (hn : 0 ≤ n ∧ n ≤ 8) (h : TT σ τ) (a1 : σ' (s0.toNat + 2) 1 = n) (a2 : σ' (s0.toNat + 2) 2 = b) (a3 : ∀ i j, 0 ≤ i → i < n → 0 ≤ j → j < n → σ' (s0.toNat + 2 + 4) (i * 8 + j) = f i j) (a4 : tbX σ σ' (s0.toNat + 2)) (b1 : ∀ k, τ' 1 k = if k = s0 then n else τ 1 k) (b2 : ∀ k, τ' 2 k = if k = s0 then b' else τ 2 k) (hb : n ≠ 0 → b = b') (hb0 : n = 0 → b' = 0) (b3 : ∀ k, ¬ (64 * s0 ≤ k ∧ k < 64 * s0 + n * n) → τ' 3 k = τ 3 k) (b4 : ∀ i j, 0 ≤ i → i < n → 0 ≤ j → j < n → τ' 3 (64 * s0 + (n * i + j)) = f i j) : TT σ' τ' := fun s s1 s2 => by
  by_cases q : s = s0
  · subst q
    have e1 : τ' 1 s = n := by rw [b1, if_pos rfl]
    have e2 : τ' 2 s = b' := by rw [b2, if_pos rfl]
    refine ⟨by rw [a1, e1], fun w => ?_, fun w => ?_, fun i j p q r w => ?_⟩
    · rw [a2, e2]; exact hb (by omega)
    · rw [e2]; exact hb0 (by omega)
    · rw [e1] at q w
      unfold cT cB
      rw [a3 i j p q r w, e1, Int.add_assoc, b4 i j p q r w]
  · obtain ⟨h1, h2, h3, h4⟩ := h s s1 s2
    obtain ⟨g1, g2, -⟩ := hI.1 s s1 s2
    have e1 : τ' 1 s = τ 1 s := by rw [b1, if_neg q]
    have e2 : τ' 2 s = τ 2 s := by rw [b2, if_neg q]
    have c1 : σ' (s.toNat + 2) 1 = σ (s.toNat + 2) 1 := a4.1 _ _ (by omega) (by omega) (by omega) (by omega)
    have c2 : σ' (s.toNat + 2) 2 = σ (s.toNat + 2) 2 := a4.1 _ _ (by omega) (by omega) (by omega) (by omega)
    have sq := sq8 hn
    refine ⟨by rw [c1, e1, h1], fun w => ?_, fun w => ?_, fun i j p q' r w => ?_⟩
    · rw [e1] at w; rw [c2, e2]; exact h2 w
    · rw [e1] at w; rw [e2]; exact h3 w
    · rw [e1] at q' w
      obtain ⟨y1, y2, y3, y4⟩ := ix8 (n := τ 1 s) (i := i) (j := j) ⟨g1, g2⟩ ⟨p, q'⟩ ⟨r, w⟩
      have := h4 i j p q' r w
      unfold cT cB at this ⊢
      rw [a4.1 _ _ (by omega) (by omega) (by omega) (by omega), e1, b3 _ (by omega)]
      exact this
theorem MAB {σ τ σ' τ' : eS} {s n b zA zB : Int} {f f' : Int → Int → Int} (hI : iB1 τ) (hs : 0 ≤ s ∧ s < 4) (hn : 1 ≤ n ∧ n ≤ 8) (h : TT σ τ) (hA : MA σ (s.toNat + 2) n b f σ' zA) (hB : MB τ s n b f' τ' zB) (e : ∀ i j, 0 ≤ i → i < n → 0 ≤ j → j < n → f i j = f' i j) : TT σ' τ' ∧ zA = zB := by
  obtain ⟨g, g1, g2⟩ := hA
  obtain ⟨g', g3, g4⟩ := hB
  have eg := isG_un g1 g3 e
  subst eg
  have ef := fitM_cg (g := g) (b := b) e
  rcases g2 with ⟨a1, a2, a3⟩ | ⟨a1, a2, a3, a4, a5, a6⟩ <;> rcases g4 with ⟨b1, b2, b3⟩ | ⟨b1, b2, b3, b4, b5, b6⟩
  · exact ⟨TT_keep h a3 b3, by omega⟩
  · exact absurd (ef.mpr b2) a2
  · exact absurd (ef.mp a2) b2
  · exact ⟨TT_set (f := fun i j => f i j / g) hI hs ⟨by omega, by omega⟩ h a3 a4 a5 a6 b3 b4 (fun _ => rfl) (fun q => by omega) b5 (fun i j p q r w => by rw [b6 i j p q r w, e i j p q r w]), by omega⟩
theorem tab_al {σ τ : eS} (hI : iB1 τ) (h : TT σ τ) (s : Int) : tabA σ s ↔ tabB τ s := by
  unfold tabA tabB
  constructor
  · rintro ⟨a, b, c⟩
    have := (h s a b).1
    have := (hI.1 s a b).1
    exact ⟨a, b, by omega⟩
  · rintro ⟨a, b, c⟩
    have := (h s a b).1
    exact ⟨a, b, by omega⟩
theorem like_al {σ τ : eS} (hI : iB1 τ) (h : TT σ τ) (s o w : Int) : likeA σ s o w ↔ likeB τ s o w := by
  unfold likeA likeB tabB
  constructor
  · rintro ⟨a1, a2, a3, a4, a5, a6, a7, a8⟩
    have := (h s a1 a2).1
    have := (h o a3 a4).1
    have := (hI.1 s a1 a2).1
    exact ⟨⟨a1, a2, by omega⟩, ⟨a3, a4, by omega⟩, ⟨a5, a6⟩, by omega⟩
  · rintro ⟨⟨a1, a2, a3⟩, ⟨b1, b2, b3⟩, ⟨c1, c2⟩, d⟩
    have := (h s a1 a2).1
    have := (h o b1 b2).1
    exact ⟨a1, a2, b1, b2, c1, c2, by omega, by omega⟩
theorem TT_times {σ τ σ' τ' : eS} {s o w zA zB : Int} (hI : iB1 τ) (h : TT σ τ) (qA : XtA σ s o w σ' zA) (qB : XtB τ s o w τ' zB) : TT σ' τ' ∧ zA = zB := by
  have hl := like_al hI h s o w
  rcases qA with ⟨a1, a2, a3⟩ | ⟨a1, a2⟩ <;> rcases qB with ⟨b1, b2, b3⟩ | ⟨b1, b2⟩
  · exact ⟨TT_keep h a2 b2, by omega⟩
  · exact absurd (hl.mpr b1) a3
  · exact absurd (hl.mp a1) b3
  · obtain ⟨⟨s1, s2, s3⟩, ⟨o1, o2, o3⟩, w1, e⟩ := b1
    obtain ⟨h1, h2, -, h4⟩ := h s s1 s2
    obtain ⟨k1, k2, -, k4⟩ := h o o1 o2
    have g := hI.1 s s1 s2
    rw [h1, h2 (by omega), k2 (by omega)] at a2
    refine MAB hI w1 ⟨by omega, by omega⟩ h a2 b2 (fun i j p q r x => ?_)
    unfold pdF pdB
    rw [h1]
    refine sm_cg (fun k k0 kn => ?_)
    rw [h4 i k p q k0 (by omega), k4 k j k0 (by omega) r (by omega)]
theorem TT_turn {σ τ σ' τ' : eS} {s w r o zA zB : Int} (hI : iB1 τ) (h : TT σ τ) (qA : XuA σ s w r o σ' zA) (qB : XuB τ s w r o τ' zB) : TT σ' τ' ∧ zA = zB := by
  by_cases hs : 0 ≤ s ∧ s < 4
  · obtain ⟨h1, h2, -, h4⟩ := h s hs.1 hs.2
    have g := hI.1 s hs.1 hs.2
    unfold XuA at qA
    rw [h1] at qA
    rcases qA with ⟨a1, a2, a3⟩ | ⟨a1, a2⟩ <;> rcases qB with ⟨b1, b2, b3⟩ | ⟨b1, b2⟩
    · exact ⟨TT_keep h a2 b2, by omega⟩
    · exact absurd b1 a3
    · exact absurd a1 b3
    · obtain ⟨⟨-, -, c1⟩, c2, c3, c4⟩ := b1
      rw [h2 c1] at a2
      refine MAB hI c2 ⟨by omega, by omega⟩ h a2 b2 (fun i j p q r' x => ?_)
      obtain ⟨t1, t2, -, -⟩ := tn_tg (n := τ 1 s) c3 c4 ⟨p, q⟩ ⟨r', x⟩
      unfold tuF tuB
      exact h4 _ _ t1.1 t1.2 t2.1 t2.2
  · rcases qA with ⟨a1, a2, a3⟩ | ⟨a1, a2⟩
    · rcases qB with ⟨b1, b2, b3⟩ | ⟨b1, b2⟩
      · exact ⟨TT_keep h a2 b2, by omega⟩
      · exact absurd ⟨b1.1.1, b1.1.2.1⟩ hs
    · exact absurd ⟨a1.1.1, a1.1.2.1⟩ hs
theorem TT_mix {σ τ σ' τ' : eS} {s x y o u v w zA zB : Int} (hI : iB1 τ) (h : TT σ τ) (qA : XmA σ s x y o u v w σ' zA) (qB : XmB τ s x y o u v w τ' zB) : TT σ' τ' ∧ zA = zB := by
  have hl := like_al hI h s o w
  rcases qA with ⟨a1, a2, a3⟩ | ⟨a1, a2⟩ <;> rcases qB with ⟨b1, b2, b3⟩ | ⟨b1, b2⟩
  · exact ⟨TT_keep h a2 b2, by omega⟩
  · exact absurd ⟨b1.1, b1.2.1, hl.mpr b1.2.2⟩ a3
  · exact absurd ⟨a1.1, a1.2.1, hl.mp a1.2.2⟩ b3
  · obtain ⟨-, -, ⟨s1, s2, s3⟩, ⟨o1, o2, o3⟩, w1, e⟩ := b1
    obtain ⟨h1, h2, -, h4⟩ := h s s1 s2
    obtain ⟨k1, k2, -, k4⟩ := h o o1 o2
    have g := hI.1 s s1 s2
    unfold MXA at a2
    unfold MXB at b2
    rw [h1, h2 (by omega), k2 (by omega)] at a2
    obtain ⟨L, eL⟩ : ∃ L, L = lcS (y * τ 2 s) (v * τ 2 o) 1000000000 := ⟨_, rfl⟩
    rw [← eL] at a2 b2
    have ef : ∀ i j, 0 ≤ i → i < τ 1 s → 0 ≤ j → j < τ 1 s → mxF σ (s.toNat + 2) (o.toNat + 2) x (L / (y * τ 2 s)) u (L / (v * τ 2 o)) i j = mxB τ s o x (L / (y * τ 2 s)) u (L / (v * τ 2 o)) i j := fun i j p q r c => by
      unfold mxF mxB
      rw [h4 i j p q r c, k4 i j p (by omega) r (by omega)]
    rcases a2 with ⟨c1, c2, c3⟩ | ⟨c1, ⟨c2, c3, i, j, c4, c5, c6, c7, c8⟩ | ⟨c2, c3⟩⟩ <;> rcases b2 with ⟨d1, d2, d3⟩ | ⟨d1, ⟨d2, d3, i', j', d4, d5, d6, d7, d8⟩ | ⟨d2, d3⟩⟩
    · exact ⟨TT_keep h c2 d2, by omega⟩
    · omega
    · omega
    · omega
    · exact ⟨TT_keep h c3 d3, by omega⟩
    · have := d2 i j c4 c5 c6 c7
      rw [ef i j c4 c5 c6 c7] at c8
      omega
    · omega
    · have := c2 i' j' d4 d5 d6 d7
      rw [ef i' j' d4 d5 d6 d7] at this
      omega
    · exact MAB hI w1 ⟨by omega, by omega⟩ h c3 d3 ef
theorem TT_table {σ τ σ' τ' : eS} {zA zB s : Int} (hI : iB1 τ) (hA : IA σ') (h : TP σ τ) (ht : TT σ τ) (qA : σ' 10 3 = 0 ∧ TA σ s σ' zA) (qB : τ' 0 6 = 0 ∧ TB τ s τ' zB) : TT σ' τ' := by
  have al := aO_of h
  have key := (TP_table h qA qB).1
  have e4 := key.2.2.2.1
  obtain ⟨-, qA⟩ := qA
  obtain ⟨-, qB⟩ := qB
  rcases qA with ⟨a0, a1, a2, a3, a4⟩ | ⟨a0, aS, a1, a2⟩ <;> rcases qB with ⟨b0, b1, b2, b3, b4⟩ | ⟨b0, b1, b2⟩
  · exact TT_keep ht a4 b4
  · exact absurd b0 a0
  · exact absurd a0 b0
  · rcases a2 with ⟨a2, a3⟩ | ⟨a2, ⟨c1, c2, c3⟩, a4⟩ <;> rcases b2 with ⟨b2, b3⟩ | ⟨b2, d1, d2, d3, d4⟩
    · exact TT_keep ht a3 b3
    · omega
    · omega
    · have r0 : (RAr σ).1 = 0 := by
        rcases a1 with ⟨w, -, w2, -⟩ | ⟨w, -⟩ | ⟨w, -⟩
        · omega
        · exact w
        · exact w
      obtain ⟨e1, e2, e3, e5⟩ := oG_cg al aS r0
      have hT := (hA.2.1 _ (sl_tA a0)).1
      have n1 := hT.1
      have n2 := hT.2.1
      rw [c1] at n1 n2
      rw [← e1] at d1 d2 d3 d4
      rw [← e2] at d2 d4
      refine TT_set (n := oN (RAr σ)) (f := fun i j => oAb (RAr σ) (i * 8 + j) * (oB (RAr σ) / oUn (RAr σ) (i * 8 + j))) hI a0 ⟨n1, n2⟩ ht c1 c2 c3 a4 d1 d2 (fun q => by rw [if_neg q]) (fun q => by rw [if_pos q]) d3 (fun i j p q r w => ?_)
      rw [d4 i j p q r w, (e5 i j p q r w).1, (e5 i j p q r w).2]
/-! what is read off the tables -/
theorem row_al {σ τ : eS} {s i : Int} (h : tbE σ τ s) (hi : 0 ≤ i ∧ i < τ 1 s) : rowT σ (s.toNat + 2) i = rowB τ s i := by
  unfold rowT rowB
  rw [h.1]
  exact sm_cg (fun k a b => h.2.2.2 i k hi.1 hi.2 a (by omega))
theorem col_al {σ τ : eS} {s j : Int} (h : tbE σ τ s) (hj : 0 ≤ j ∧ j < τ 1 s) : colT σ (s.toNat + 2) j = colB τ s j := by
  unfold colT colB
  rw [h.1]
  exact sm_cg (fun k a b => h.2.2.2 k j a (by omega) hj.1 hj.2)
theorem unev_un {row col row' col' : Int → Int} {n z z' : Int} (hn : 0 < n) (h : unev row col n z) (h' : unev row' col' n z') (er : ∀ i, 0 ≤ i → i < n → row i = row' i) (ec : ∀ i, 0 ≤ i → i < n → col i = col' i) : z = z' := by
  have e0 := er 0 (by omega) hn
  rcases h with ⟨i, a1, a2, a3, a4, a5⟩ | ⟨a0, ⟨j, a1, a2, a3, a4, a5⟩ | ⟨a1, a2⟩⟩ <;> rcases h' with ⟨i', b1, b2, b3, b4, b5⟩ | ⟨b0, ⟨j', b1, b2, b3, b4, b5⟩ | ⟨b1, b2⟩⟩
  · have x1 := er i (by omega) a2
    have x2 := er i' (by omega) b2
    rcases (by omega : i < i' ∨ i = i' ∨ i' < i) with q | q | q
    · have := b5 i a1 q; omega
    · omega
    · have := a5 i' b1 q; omega
  · have x1 := er i (by omega) a2
    have := b0 i a1 a2
    omega
  · have x1 := er i (by omega) a2
    have := b0 i a1 a2
    omega
  · have x1 := er i' (by omega) b2
    have := a0 i' b1 b2
    omega
  · have x1 := ec j a1 a2
    have x2 := ec j' b1 b2
    rcases (by omega : j < j' ∨ j = j' ∨ j' < j) with q | q | q
    · have := b5 j a1 q; omega
    · omega
    · have := a5 j' b1 q; omega
  · have x1 := ec j a1 a2
    have := b2 j a1 a2
    omega
  · have x1 := er i' (by omega) b2
    have := a0 i' b1 b2
    omega
  · have x1 := ec j' b1 b2
    have := a2 j' b1 b2
    omega
  · omega
theorem cell_al {σ τ : eS} {s i j zA zB : Int} (hI : iB1 τ) (h : TT σ τ) (qA : (celA σ s i j ∧ zA = cT σ (s.toNat + 2) i j) ∨ (¬ celA σ s i j ∧ zA = -1)) (qB : (celB τ s i j ∧ zB = cB τ s i j) ∨ (¬ celB τ s i j ∧ zB = -1)) : zA = zB := by
  have hl : celA σ s i j ↔ celB τ s i j := by
    unfold celA celB tabB
    constructor
    · rintro ⟨a1, a2, a3, a4, a5, a6⟩
      have := (h s a1 a2).1
      exact ⟨⟨a1, a2, by omega⟩, a3, by omega, a5, by omega⟩
    · rintro ⟨⟨a1, a2, a3⟩, a4, a5, a6, a7⟩
      have := (h s a1 a2).1
      exact ⟨a1, a2, a4, by omega, a6, by omega⟩
  rcases qA with ⟨a1, a2⟩ | ⟨a1, a2⟩ <;> rcases qB with ⟨b1, b2⟩ | ⟨b1, b2⟩
  · obtain ⟨⟨s1, s2, s3⟩, c1, c2, c3, c4⟩ := b1
    rw [a2, b2]
    exact (h s s1 s2).2.2.2 i j c1 c2 c3 c4
  · exact absurd (hl.mp a1) b1
  · exact absurd (hl.mpr b1) a1
  · omega
theorem uneven_al {σ τ : eS} {s zA zB : Int} (hI : iB1 τ) (h : TT σ τ) (qA : (¬ tabA σ s ∧ zA = -1) ∨ (tabA σ s ∧ unev (rowT σ (s.toNat + 2)) (colT σ (s.toNat + 2)) (σ (s.toNat + 2) 1) zA)) (qB : (¬ tabB τ s ∧ zB = -1) ∨ (tabB τ s ∧ unev (rowB τ s) (colB τ s) (τ 1 s) zB)) : zA = zB := by
  have hl := tab_al hI h s
  rcases qA with ⟨a1, a2⟩ | ⟨a1, a2⟩ <;> rcases qB with ⟨b1, b2⟩ | ⟨b1, b2⟩
  · omega
  · exact absurd (hl.mpr b1) a1
  · exact absurd (hl.mp a1) b1
  · obtain ⟨s1, s2, s3⟩ := b1
    have e := h s s1 s2
    rw [e.1] at a2
    exact unev_un s3 a2 b2 (fun i a b => row_al e ⟨a, b⟩) (fun i a b => col_al e ⟨a, b⟩)
