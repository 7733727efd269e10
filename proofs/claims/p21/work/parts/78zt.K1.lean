/-! PARTS by the four rules, purely: the choice, one step, and the chain of steps; all of it unique -/
def ag (n : Int) (W W' : Int → Int → Int) : Prop := ∀ i j, 0 ≤ i → i < n → 0 ≤ j → j < n → W i j = W' i j
theorem ag_rf (n : Int) (W : Int → Int → Int) : ag n W W := fun _ _ _ _ _ _ => rfl
theorem ag.sy {n : Int} {W W' : Int → Int → Int} (h : ag n W W') : ag n W' W := fun i j a b c d => (h i j a b c d).symm
theorem ag.tr {n : Int} {W W' W2 : Int → Int → Int} (h : ag n W W') (g : ag n W' W2) : ag n W W2 := fun i j a b c d => (h i j a b c d).trans (g i j a b c d)
theorem fst_pc {n : Int} {good : Int → Int → Prop} {ch : Int → Int} (hn : 0 ≤ n ∧ n ≤ 8) (hb : ∀ T j, good T j → bt T j = false) (h : fstC n good ch) {i : Int} (a : 0 ≤ i) (b : i < n) : 0 ≤ cs ch i.toNat ∧ cs ch i.toNat < p2 n ∧ pc (cs ch i.toNat) = i := by
  have x := cs_in (n := n) (ch := ch) hn i.toNat (by omega) (fun k x y => ⟨(h k x (by omega)).1, (h k x (by omega)).2.1, hb _ _ (h k x (by omega)).2.2.1⟩)
  rw [Int.toNat_of_nonneg a] at x
  exact x
theorem lex_cg {n : Int} {op op' : Int → Int → Prop} {ch : Int → Int} (hn : 0 ≤ n ∧ n ≤ 8) (e : ∀ i j, 0 ≤ i → i < n → 0 ≤ j → j < n → (op i j ↔ op' i j)) (h : fstC n (okJ n op) ch) : fstC n (okJ n op') ch := fun i a b => by
  obtain ⟨c1, c2, c3, c4⟩ := h i a b
  have p := fst_pc hn (fun T j q => q.1) h a b
  exact ⟨c1, c2, (okJ_cg e ⟨by omega, by omega⟩ ⟨c1, c2⟩).mp c3, fun j x y q => c4 j x y ((okJ_cg e ⟨by omega, by omega⟩ ⟨x, by omega⟩).mpr q)⟩
theorem fst_cc {n : Int} {good : Int → Int → Prop} {ch ch' : Int → Int} (e : ∀ i, 0 ≤ i → i < n → ch' i = ch i) (h : fstC n good ch) : fstC n good ch' := fun i a b => by
  have c : cs ch' i.toNat = cs ch i.toNat := cs_cg (fun k x y => e k x (by omega))
  rw [c, e i a b]
  exact h i a b
theorem fst_perm {n : Int} {good : Int → Int → Prop} {ch : Int → Int} (hb : ∀ T j, good T j → bt T j = false) (h : fstC n good ch) : perm n ch := ⟨fun i a b => ⟨(h i a b).1, (h i a b).2.1⟩, fun i k a b c e => by
  have g := hb _ _ (h k (by omega) c).2.2.1
  have x := (bt_cs (f := ch) (k := k.toNat) (fun i p q => (h i p (by omega)).1) (c := ch k) (h k (by omega) c).1).mpr ⟨i, a, by omega, e⟩
  rw [g] at x
  cases x⟩
theorem fst_op {n : Int} {good op : Int → Int → Prop} {ch : Int → Int} (hn : 0 ≤ n ∧ n ≤ 8) (hb : ∀ T j, good T j → bt T j = false) (ho : ∀ T j, good T j → op (pc T) j) (h : fstC n good ch) : ∀ i, 0 ≤ i → i < n → op i (ch i) := fun i a b => by
  have x := ho _ _ (h i a b).2.2.1
  rw [(fst_pc hn hb h a b).2.2] at x
  exact x
/-- the first of the least cells above 0 -/
def lstP (n : Int) (W : Int → Int → Int) (a b : Int) : Prop := (0 ≤ a ∧ a < n) ∧ (0 ≤ b ∧ b < n) ∧ 1 ≤ W a b ∧ ∀ i j, 0 ≤ i → i < n → 0 ≤ j → j < n → 1 ≤ W i j → W a b < W i j ∨ (W a b = W i j ∧ (a < i ∨ (a = i ∧ b ≤ j)))
theorem lstP_un {n a b a' b' : Int} {W W' : Int → Int → Int} (hw : ag n W W') (h : lstP n W a b) (h' : lstP n W' a' b') : a = a' ∧ b = b' := by
  obtain ⟨⟨p1, p2⟩, ⟨p3, p4⟩, p5, p6⟩ := h
  obtain ⟨⟨q1, q2⟩, ⟨q3, q4⟩, q5, q6⟩ := h'
  have e1 := hw a b p1 p2 p3 p4
  have e2 := hw a' b' q1 q2 q3 q4
  have x := p6 a' b' q1 q2 q3 q4 (by omega)
  have y := q6 a b p1 p2 p3 p4 (by omega)
  omega
abbrev thr (W : Int → Int → Int) (a b i j : Int) : Prop := 1 ≤ W i j ∧ (i = a ↔ j = b)
/-- the choice by a rule -/
def chS (n : Int) (W : Int → Int → Int) (r : Int) (ch : Int → Int) : Prop :=
  (r = 0 ∧ fstC n (okJ n (fun i j => 1 ≤ W i j)) ch) ∨
  (r = 1 ∧ ∃ L, 1 ≤ L ∧ wdA n (fun i j => 1 ≤ W i j) W L ∧ fstC n (okJ n (fun i j => L ≤ W i j)) ch) ∨
  (r = 2 ∧ ∃ a b, lstP n W a b ∧ fstC n (okJ n (thr W a b)) ch) ∨
  (r = 3 ∧ ∃ v : Int → Int, v (p2 n - 1) = 0 ∧ (∀ T, 0 ≤ T → T < p2 n - 1 → dpO n 1 (fun i j => 1 ≤ W i j) W v T) ∧ fstC n (rcG (fun i j => 1 ≤ W i j) W v) ch)
theorem chS_cc {n r : Int} {W : Int → Int → Int} {ch ch' : Int → Int} (e : ∀ i, 0 ≤ i → i < n → ch' i = ch i) (h : chS n W r ch) : chS n W r ch' := by
  rcases h with ⟨q, h⟩ | ⟨q, L, h1, h2, h3⟩ | ⟨q, a, b, h1, h2⟩ | ⟨q, v, h1, h2, h3⟩
  · exact Or.inl ⟨q, fst_cc e h⟩
  · exact Or.inr (Or.inl ⟨q, L, h1, h2, fst_cc e h3⟩)
  · exact Or.inr (Or.inr (Or.inl ⟨q, a, b, h1, fst_cc e h2⟩))
  · exact Or.inr (Or.inr (Or.inr ⟨q, v, h1, h2, fst_cc e h3⟩))
theorem ag_ge {n : Int} {W W' : Int → Int → Int} (hw : ag n W W') (L : Int) : ∀ i j, 0 ≤ i → i < n → 0 ≤ j → j < n → (L ≤ W i j ↔ L ≤ W' i j) := fun i j a b c d => by rw [hw i j a b c d]
theorem chS_un {n r : Int} {W W' : Int → Int → Int} {ch ch' : Int → Int} (hn : 1 ≤ n ∧ n ≤ 8) (hw : ag n W W') (h : chS n W r ch) (h' : chS n W' r ch') : ∀ i, 0 ≤ i → i < n → ch i = ch' i := by
  have hn0 : 0 ≤ n ∧ n ≤ 8 := ⟨by omega, hn.2⟩
  rcases h with ⟨q, h⟩ | ⟨q, L, h1, h2, h3⟩ | ⟨q, a, b, h1, h2⟩ | ⟨q, v, h1, h2, h3⟩ <;> rcases h' with ⟨q', g⟩ | ⟨q', L', g1, g2, g3⟩ | ⟨q', a', b', g1, g2⟩ | ⟨q', v', g1, g2, g3⟩
  · exact lex_un hn0 (ag_ge hw 1) h g
  · exfalso; omega
  · exfalso; omega
  · exfalso; omega
  · exfalso; omega
  · have e := wdA_un hn (ag_ge hw 1) hw h2 g2
    subst e
    exact lex_un hn0 (ag_ge hw L) h3 g3
  · exfalso; omega
  · exfalso; omega
  · exfalso; omega
  · exfalso; omega
  · obtain ⟨e1, e2⟩ := lstP_un hw h1 g1
    subst e1
    subst e2
    exact lex_un hn0 (fun i j x y z w => by rw [thr, thr, hw i j x y z w]) h2 g2
  · exfalso; omega
  · exfalso; omega
  · exfalso; omega
  · exfalso; omega
  · exact rc_un hn0 (ag_ge hw 1) hw (dpO_un hn0 (ag_ge hw 1) hw (by rw [h1, g1]) h2 g2) h3 g3
theorem chS_ps {n r : Int} {W : Int → Int → Int} {ch : Int → Int} (hn : 1 ≤ n ∧ n ≤ 8) (h : chS n W r ch) : perm n ch ∧ ∀ i, 0 ≤ i → i < n → 1 ≤ W i (ch i) := by
  have hn0 : 0 ≤ n ∧ n ≤ 8 := ⟨by omega, hn.2⟩
  rcases h with ⟨q, h⟩ | ⟨q, L, h1, h2, h3⟩ | ⟨q, a, b, h1, h2⟩ | ⟨q, v, h1, h2, h3⟩
  · exact ⟨fst_perm (fun T j q => q.1) h, fst_op hn0 (op := fun i j => 1 ≤ W i j) (fun T j q => q.1) (fun T j q => q.2.1) h⟩
  · exact ⟨fst_perm (fun T j q => q.1) h3, fun i a b => by have := fst_op hn0 (op := fun i j => L ≤ W i j) (fun T j q => q.1) (fun T j q => q.2.1) h3 i a b; omega⟩
  · exact ⟨fst_perm (fun T j q => q.1) h2, fun i x y => (fst_op hn0 (op := thr W a b) (fun T j q => q.1) (fun T j q => q.2.1) h2 i x y).1⟩
  · exact ⟨fst_perm (fun T j q => q.1.1) h3, fst_op hn0 (op := fun i j => 1 ≤ W i j) (fun T j q => q.1.1) (fun T j q => q.1.2.1) h3⟩
/-- one part taken off -/
def stp (n r : Int) (W W' : Int → Int → Int) (ch : Int → Int) (w : Int) : Prop := chS n W r ch ∧ (∃ i, 0 ≤ i ∧ i < n ∧ w = W i (ch i)) ∧ (∀ i, 0 ≤ i → i < n → w ≤ W i (ch i)) ∧ ∀ i j, 0 ≤ i → i < n → 0 ≤ j → j < n → W' i j = W i j - (if j = ch i then w else 0)
theorem stp_cc {n r w : Int} {W W' W2 : Int → Int → Int} {ch ch' : Int → Int} (e : ∀ i, 0 ≤ i → i < n → ch' i = ch i) (ew : ag n W2 W') (h : stp n r W W' ch w) : stp n r W W2 ch' w := by
  obtain ⟨h1, ⟨x, x1, x2, x3⟩, h3, h4⟩ := h
  refine ⟨chS_cc e h1, ⟨x, x1, x2, by rw [e x x1 x2]; exact x3⟩, fun i a b => by rw [e i a b]; exact h3 i a b, fun i j a b c d => by rw [ew i j a b c d, e i a b]; exact h4 i j a b c d⟩
theorem stp_un {n r w w' : Int} {W W' V V' : Int → Int → Int} {ch ch' : Int → Int} (hn : 1 ≤ n ∧ n ≤ 8) (hw : ag n W V) (h : stp n r W W' ch w) (h' : stp n r V V' ch' w') : ag n W' V' ∧ w = w' ∧ ∀ i, 0 ≤ i → i < n → ch i = ch' i := by
  have ec := chS_un hn hw h.1 h'.1
  obtain ⟨h1, ⟨x, x1, x2, x3⟩, h3, h4⟩ := h
  obtain ⟨g1, ⟨y, y1, y2, y3⟩, g3, g4⟩ := h'
  have hc := (chS_ps hn h1).1.1
  have ev : ∀ i, 0 ≤ i → i < n → W i (ch i) = V i (ch' i) := fun i a b => by rw [← ec i a b]; exact hw i (ch i) a b (hc i a b).1 (hc i a b).2
  have e : w = w' := by
    have a := h3 y y1 y2
    have b := g3 x x1 x2
    rw [ev y y1 y2] at a
    rw [← ev x x1 x2] at b
    omega
  exact ⟨fun i j a b c d => by rw [h4 i j a b c d, g4 i j a b c d, hw i j a b c d, ec i a b, e], e, ec⟩
/-- how many cells are above 0 -/
def np2 (n : Int) (W : Int → Int → Int) : Int := sm (fun i => sm (fun j => if 0 < W i j then 1 else 0) n.toNat) n.toNat
theorem np2_bd {n : Int} (hn : 0 ≤ n ∧ n ≤ 8) (W : Int → Int → Int) : 0 ≤ np2 n W ∧ np2 n W ≤ 64 := by
  have x := sm_bd (f := fun i => sm (fun j => if 0 < W i j then 1 else 0) n.toNat) (B := 8) (by decide) (n := n.toNat) (fun i a b => by
    have y := sm_bd (f := fun j => if 0 < W i j then 1 else 0) (B := 1) (by decide) (n := n.toNat) (fun j a b => by (try dsimp only); split <;> omega)
    omega)
  unfold np2
  omega
theorem stp_ev {n r m w : Int} {W W' : Int → Int → Int} {ch : Int → Int} (hn : 1 ≤ n ∧ n ≤ 8) (he : EvW n W m) (h : stp n r W W' ch w) : 1 ≤ w ∧ w ≤ m ∧ EvW n W' (m - w) ∧ np2 n W' + 1 ≤ np2 n W := by
  obtain ⟨h1, ⟨x, x1, x2, x3⟩, h3, h4⟩ := h
  obtain ⟨hp, hc⟩ := chS_ps hn h1
  have hx := hp.1 x x1 x2
  have w1 : 1 ≤ w := by rw [x3]; exact hc x x1 x2
  have w2 : w ≤ m := by rw [x3]; exact EvW_bd he ⟨x1, x2⟩ hx
  refine ⟨w1, w2, ⟨fun a j y1 y2 y3 y4 => ?_, fun a y1 y2 => ?_, fun j y1 y2 => ?_⟩, ?_⟩
  · rw [h4 a j y1 y2 y3 y4]
    have g1 := he.1 a j y1 y2 y3 y4
    split
    · next q => rw [q]; have := h3 a y1 y2; omega
    · omega
  · have e1 : sm (fun j => W' a j) n.toNat = sm (fun j => W a j - (if j = ch a then w else 0)) n.toNat := sm_cg (fun j b c => h4 a j y1 y2 b (by omega))
    have hi := hp.1 a y1 y2
    rw [e1, sm_sub, sm_one w hi.1 (by omega), he.2.1 a y1 y2]
  · have e1 : sm (fun a => W' a j) n.toNat = sm (fun a => W a j - (if ch a = j then w else 0)) n.toNat := sm_cg (fun a b c => by
      rw [h4 a j b (by omega) y1 y2]
      by_cases q : j = ch a
      · rw [if_pos q, if_pos q.symm]
      · rw [if_neg q, if_neg (fun y => q y.symm)])
    rw [e1, sm_sub, perm_col (by omega) hp w ⟨y1, y2⟩, he.2.2 j y1 y2]
  · have le : ∀ i j : Int, 0 ≤ i → i < n → 0 ≤ j → j < n → (if 0 < W' i j then (1 : Int) else 0) ≤ (if 0 < W i j then 1 else 0) := fun i j a b c d => by
      have g : W' i j ≤ W i j := by rw [h4 i j a b c d]; split <;> omega
      by_cases z : 0 < W' i j
      · rw [if_pos z, if_pos (by omega)]; exact Int.le_refl _
      · rw [if_neg z]; split <;> omega
    unfold np2
    refine sm_less (x := x) (fun i a b => sm_le2 (fun j c d => le i j a (by omega) c (by omega))) x1 (by omega) ?_
    refine sm_less (x := ch x) (fun j c d => le x j x1 x2 c (by omega)) hx.1 (by omega) ?_
    have g6 := h4 x (ch x) x1 x2 hx.1 hx.2
    rw [if_pos rfl] at g6
    rw [if_neg (by omega), if_pos (by omega)]
    omega
theorem np2_pos {n m : Int} {W : Int → Int → Int} (hn : 1 ≤ n ∧ n ≤ 8) (he : EvW n W m) (hm : 1 ≤ m) : 1 ≤ np2 n W := by
  obtain ⟨f, hf, hp⟩ := birk he (by omega) (by omega)
  have a := hf.1 0 (by omega) (by omega)
  have b := hp 0 (by omega) (by omega)
  have x := sm_le (f := fun i => sm (fun j => if 0 < W i j then 1 else 0) n.toNat) (n := n.toNat) (fun k c d => (sm_bd (f := fun j => if 0 < W k j then 1 else 0) (B := 1) (by decide) (n := n.toNat) (fun j a b => by (try dsimp only); split <;> omega)).1) 0 (by omega) (by omega)
  have y := sm_le (f := fun j => if 0 < W 0 j then (1 : Int) else 0) (n := n.toNat) (fun k c d => by (try dsimp only); split <;> omega) (f 0) a.1 (by omega)
  try dsimp only at x y
  rw [if_pos b] at y
  unfold np2
  omega
/-- the parts one after the other -/
def Pl (n r : Int) (W0 : Int → Int → Int) (wt : Int → Int) (col : Int → Int → Int) : Nat → (Int → Int → Int) → Prop
  | 0, W => ag n W W0
  | k + 1, W => ∃ W1, Pl n r W0 wt col k W1 ∧ stp n r W1 W (col k) (wt k)
theorem Pl_cg {n r : Int} {W0 : Int → Int → Int} {wt wt' : Int → Int} {col col' : Int → Int → Int} : ∀ {k : Nat} {W W' : Int → Int → Int}, (∀ q : Int, 0 ≤ q → q < k → wt' q = wt q ∧ ∀ i, 0 ≤ i → i < n → col' q i = col q i) → ag n W' W → Pl n r W0 wt col k W → Pl n r W0 wt' col' k W'
  | 0, _, _, _, ew, h => ew.tr h
  | k + 1, W, W', e, ew, ⟨W1, h1, h2⟩ => by
    obtain ⟨e1, e2⟩ := e k (by omega) (by omega)
    refine ⟨W1, Pl_cg (fun q a b => e q a (by omega)) (ag_rf _ _) h1, ?_⟩
    rw [e1]
    exact stp_cc e2 ew h2
theorem Pl_w0 {n r : Int} {W0 V0 : Int → Int → Int} {wt : Int → Int} {col : Int → Int → Int} (e : ag n W0 V0) : ∀ {k : Nat} {W : Int → Int → Int}, Pl n r W0 wt col k W → Pl n r V0 wt col k W
  | 0, _, h => h.tr e
  | _ + 1, _, ⟨W1, h1, h2⟩ => ⟨W1, Pl_w0 e h1, h2⟩
theorem Pl_un {n r : Int} {W0 V0 : Int → Int → Int} {wt wt' : Int → Int} {col col' : Int → Int → Int} (hn : 1 ≤ n ∧ n ≤ 8) (h0 : ag n W0 V0) : ∀ {k : Nat} {W V : Int → Int → Int}, Pl n r W0 wt col k W → Pl n r V0 wt' col' k V → ag n W V ∧ ∀ q : Int, 0 ≤ q → q < k → wt q = wt' q ∧ ∀ i, 0 ≤ i → i < n → col q i = col' q i
  | 0, _, _, h, g => ⟨(h.tr h0).tr g.sy, fun q a b => by omega⟩
  | k + 1, W, V, ⟨W1, h1, h2⟩, ⟨V1, g1, g2⟩ => by
    obtain ⟨a1, a2⟩ := Pl_un hn h0 h1 g1
    obtain ⟨b1, b2, b3⟩ := stp_un hn a1 h2 g2
    refine ⟨b1, fun q x y => ?_⟩
    by_cases z : q < k
    · exact a2 q x z
    · have z2 : q = k := by omega
      rw [z2]
      exact ⟨b2, b3⟩
theorem Pl_pre {n r : Int} {W0 : Int → Int → Int} {wt : Int → Int} {col : Int → Int → Int} {k : Nat} : ∀ {d : Nat} {W : Int → Int → Int}, Pl n r W0 wt col (k + d) W → ∃ W1, Pl n r W0 wt col k W1 ∧ (1 ≤ d → ∃ W2, stp n r W1 W2 (col k) (wt k))
  | 0, W, h => ⟨W, h, fun q => by omega⟩
  | 1, W, ⟨W1, h1, h2⟩ => ⟨W1, h1, fun _ => ⟨W, h2⟩⟩
  | d + 2, W, ⟨W1, h1, _⟩ => by
    obtain ⟨W3, a, b⟩ := Pl_pre (d := d + 1) h1
    exact ⟨W3, a, fun _ => b (by omega)⟩
/-- nothing is left -/
def nil0 (n : Int) (W : Int → Int → Int) : Prop := ∀ i j, 0 ≤ i → i < n → 0 ≤ j → j < n → W i j ≤ 0
theorem stp_no {n r w : Int} {W V W' : Int → Int → Int} {ch : Int → Int} (hn : 1 ≤ n ∧ n ≤ 8) (h : stp n r W W' ch w) (hg : ag n W V) (hz : nil0 n V) : False := by
  obtain ⟨p, q⟩ := chS_ps hn h.1
  have a := p.1 0 (by omega) (by omega)
  have b := q 0 (by omega) (by omega)
  rw [hg 0 (ch 0) (by omega) (by omega) a.1 a.2] at b
  have c := hz 0 (ch 0) (by omega) (by omega) a.1 a.2
  omega
/-- all parts of a table -/
def PE (n r : Int) (W0 : Int → Int → Int) (wt : Int → Int) (col : Int → Int → Int) (k : Int) : Prop := 0 ≤ k ∧ ∃ W, Pl n r W0 wt col k.toNat W ∧ nil0 n W
theorem PE_lt {n r : Int} {W0 V0 : Int → Int → Int} {wt wt' : Int → Int} {col col' : Int → Int → Int} {k k' : Int} (hn : 1 ≤ n ∧ n ≤ 8) (h0 : ag n W0 V0) (h : PE n r W0 wt col k) (h' : PE n r V0 wt' col' k') : ¬ k < k' := by
  intro q
  obtain ⟨k0, W, a, b⟩ := h
  obtain ⟨k0', V, a', b'⟩ := h'
  rw [show k'.toNat = k.toNat + (k'.toNat - k.toNat) by omega] at a'
  obtain ⟨V1, c1, c2⟩ := Pl_pre a'
  obtain ⟨V2, d⟩ := c2 (by omega)
  exact stp_no hn d ((Pl_un hn h0 a c1).1.sy) b
theorem PE_un {n r : Int} {W0 V0 : Int → Int → Int} {wt wt' : Int → Int} {col col' : Int → Int → Int} {k k' : Int} (hn : 1 ≤ n ∧ n ≤ 8) (h0 : ag n W0 V0) (h : PE n r W0 wt col k) (h' : PE n r V0 wt' col' k') : k = k' ∧ ∀ q : Int, 0 ≤ q → q < k → wt q = wt' q ∧ ∀ i, 0 ≤ i → i < n → col q i = col' q i := by
  have x := PE_lt hn h0 h h'
  have y := PE_lt hn h0.sy h' h
  have e : k = k' := by omega
  subst e
  obtain ⟨k0, W, a, b⟩ := h
  obtain ⟨k0', V, a', b'⟩ := h'
  exact ⟨rfl, fun q c d => (Pl_un hn h0 a a').2 q c (by omega)⟩
theorem EvW_0 {n : Int} {W : Int → Int → Int} (h : EvW n W 0) : nil0 n W := fun i j a b c d => EvW_bd h ⟨a, b⟩ ⟨c, d⟩
theorem PE_w0 {n r k : Int} {W0 V0 : Int → Int → Int} {wt : Int → Int} {col : Int → Int → Int} (e : ag n W0 V0) (h : PE n r W0 wt col k) : PE n r V0 wt col k := by
  obtain ⟨h0, W, h1, h2⟩ := h
  exact ⟨h0, W, Pl_w0 e h1, h2⟩
