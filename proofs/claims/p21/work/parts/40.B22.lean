theorem sm_add (f : Int → Int) (a : Nat) : ∀ b : Nat, sm f (a + b) = sm f a + sm (fun k => f (a + k)) b
  | 0 => by simp [sm]
  | b + 1 => by
    show sm f (a + b + 1) = _
    have e1 : sm f (a + b + 1) = sm f (a + b) + f ((a + b : Nat) : Int) := rfl
    have e2 : sm (fun k => f (a + k)) (b + 1) = sm (fun k => f (a + k)) b + f ((a : Int) + ((b : Nat) : Int)) := rfl
    rw [e1, e2, sm_add f a b, show ((a + b : Nat) : Int) = (a : Int) + b by omega]
    omega
theorem sm_ex {f : Int → Int} : ∀ {n : Nat}, sm f n ≠ 0 → ∃ k : Int, 0 ≤ k ∧ k < n ∧ f k ≠ 0
  | 0, h => absurd rfl h
  | n + 1, h => by
    by_cases q : f (n : Int) = 0
    · have e : sm f (n + 1) = sm f n + f (n : Int) := rfl
      rw [e, q, Int.add_zero] at h
      obtain ⟨k, a, b, c⟩ := sm_ex h
      exact ⟨k, a, by omega, c⟩
    · exact ⟨n, by omega, by omega, q⟩
def tg (n v : Int) (c : Int → Int → Int) (row col : Int → Int) (i j a b : Int) : Int :=
  if a < n then (if b < n then (if a < i ∨ (a = i ∧ b < j) then c a b else 0) else (if a < i ∧ b = n + a then v - row a else 0))
  else (if b < n then (if b < i ∧ a = n + b then v - col b else 0) else (if b - n < i ∨ (b - n = i ∧ a - n < j) then c (b - n) (a - n) else 0))
theorem tg_s {n v : Int} {c : Int → Int → Int} {row col : Int → Int} {i j a b : Int} (hi : 0 ≤ i ∧ i < n) (hj : 0 ≤ j ∧ j < n) :
    (if a = n + j ∧ b = n + i then c i j else if a = i ∧ b = j then c i j else tg n v c row col i j a b) = tg n v c row col i (j + 1) a b := by
  by_cases q1 : a = n + j ∧ b = n + i
  · rw [if_pos q1]
    unfold tg
    rw [if_neg (by omega), if_neg (by omega), if_pos (by omega), show b - n = i by omega, show a - n = j by omega]
  · rw [if_neg q1]
    by_cases q2 : a = i ∧ b = j
    · rw [if_pos q2]
      unfold tg
      rw [if_pos (by omega), if_pos (by omega), if_pos (by omega), q2.1, q2.2]
    · rw [if_neg q2]
      unfold tg
      by_cases r1 : a < n
      · rw [if_pos r1, if_pos r1]
        by_cases r2 : b < n
        · rw [if_pos r2, if_pos r2]
          by_cases r3 : a < i ∨ (a = i ∧ b < j)
          · rw [if_pos r3, if_pos (by omega)]
          · rw [if_neg r3, if_neg (by omega)]
        · rw [if_neg r2, if_neg r2]
      · rw [if_neg r1, if_neg r1]
        by_cases r2 : b < n
        · rw [if_pos r2, if_pos r2]
        · rw [if_neg r2, if_neg r2]
          by_cases r3 : b - n < i ∨ (b - n = i ∧ a - n < j)
          · rw [if_pos r3, if_pos (by omega)]
          · rw [if_neg r3, if_neg (by omega)]
theorem tg_d {n v : Int} {c : Int → Int → Int} {row col : Int → Int} {i a b : Int} (hi : 0 ≤ i ∧ i < n) (ha : 0 ≤ a ∧ a < 2 * n) (hb : 0 ≤ b ∧ b < 2 * n) :
    (if a = n + i ∧ b = i then v - col i else if a = i ∧ b = n + i then v - row i else tg n v c row col i n a b) = tg n v c row col (i + 1) 0 a b := by
  by_cases q1 : a = n + i ∧ b = i
  · rw [if_pos q1]
    unfold tg
    rw [if_neg (by omega), if_pos (by omega), if_pos (by omega), q1.2]
  · rw [if_neg q1]
    by_cases q2 : a = i ∧ b = n + i
    · rw [if_pos q2]
      unfold tg
      rw [if_pos (by omega), if_neg (by omega), if_pos (by omega), q2.1]
    · rw [if_neg q2]
      unfold tg
      by_cases r1 : a < n
      · rw [if_pos r1, if_pos r1]
        by_cases r2 : b < n
        · rw [if_pos r2, if_pos r2]
          by_cases r3 : a < i ∨ (a = i ∧ b < n)
          · rw [if_pos r3, if_pos (by omega)]
          · rw [if_neg r3, if_neg (by omega)]
        · rw [if_neg r2, if_neg r2]
          by_cases r3 : a < i ∧ b = n + a
          · rw [if_pos r3, if_pos (by omega)]
          · rw [if_neg r3, if_neg (by omega)]
      · rw [if_neg r1, if_neg r1]
        by_cases r2 : b < n
        · rw [if_pos r2, if_pos r2]
          by_cases r3 : b < i ∧ a = n + b
          · rw [if_pos r3, if_pos (by omega)]
          · rw [if_neg r3, if_neg (by omega)]
        · rw [if_neg r2, if_neg r2]
          by_cases r3 : b - n < i ∨ (b - n = i ∧ a - n < n)
          · rw [if_pos r3, if_pos (by omega)]
          · rw [if_neg r3, if_neg (by omega)]
theorem tg_0 {n v : Int} {c : Int → Int → Int} {row col : Int → Int} {a b : Int} (ha : 0 ≤ a ∧ a < 2 * n) (hb : 0 ≤ b ∧ b < 2 * n) : tg n v c row col 0 0 a b = 0 := by
  unfold tg
  by_cases r1 : a < n
  · rw [if_pos r1]
    by_cases r2 : b < n
    · rw [if_pos r2, if_neg (by omega)]
    · rw [if_neg r2, if_neg (by omega)]
  · rw [if_neg r1]
    by_cases r2 : b < n
    · rw [if_pos r2, if_neg (by omega)]
    · rw [if_neg r2, if_neg (by omega)]
theorem tg_ev {n v : Int} {c : Int → Int → Int} (hn : 0 ≤ n) (hc : ∀ i j, 0 ≤ i → i < n → 0 ≤ j → j < n → 0 ≤ c i j)
    (hr : ∀ i, 0 ≤ i → i < n → sm (fun j => c i j) n.toNat ≤ v) (hk : ∀ j, 0 ≤ j → j < n → sm (fun i => c i j) n.toNat ≤ v) :
    EvW (2 * n) (tg n v c (fun i => sm (fun j => c i j) n.toNat) (fun j => sm (fun i => c i j) n.toNat) n 0) v := by
  have en : (2 * n).toNat = n.toNat + n.toNat := by omega
  have en2 : ((n.toNat : Nat) : Int) = n := by omega
  refine ⟨fun a b a1 a2 b1 b2 => ?_, fun a a1 a2 => ?_, fun b b1 b2 => ?_⟩
  · unfold tg
    by_cases r1 : a < n
    · rw [if_pos r1]
      by_cases r2 : b < n
      · rw [if_pos r2, if_pos (by omega)]; exact hc a b a1 r1 b1 r2
      · rw [if_neg r2]
        have := hr a a1 r1
        dsimp only
        split <;> omega
    · rw [if_neg r1]
      by_cases r2 : b < n
      · rw [if_pos r2]
        have := hk b b1 r2
        dsimp only
        split <;> omega
      · rw [if_neg r2, if_pos (by omega)]; exact hc _ _ (by omega) (by omega) (by omega) (by omega)
  · rw [en, sm_add, en2]
    by_cases r1 : a < n
    · have e1 : sm (fun b => tg n v c (fun i => sm (fun j => c i j) n.toNat) (fun j => sm (fun i => c i j) n.toNat) n 0 a b) n.toNat = sm (fun j => c a j) n.toNat :=
        sm_cg (fun k k1 k2 => by unfold tg; rw [if_pos r1, if_pos (by omega), if_pos (by omega)])
      have e2 : sm (fun k => tg n v c (fun i => sm (fun j => c i j) n.toNat) (fun j => sm (fun i => c i j) n.toNat) n 0 a (n + k)) n.toNat = sm (fun k => if k = a then v - sm (fun j => c a j) n.toNat else 0) n.toNat :=
        sm_cg (fun k k1 k2 => by
          unfold tg; rw [if_pos r1, if_neg (by omega)]
          by_cases q : k = a
          · rw [if_pos (by omega), if_pos q]
          · rw [if_neg (by omega), if_neg q])
      rw [e1, e2, sm_one _ a1 (by omega)]
      omega
    · have e1 : sm (fun b => tg n v c (fun i => sm (fun j => c i j) n.toNat) (fun j => sm (fun i => c i j) n.toNat) n 0 a b) n.toNat = sm (fun k => if k = a - n then v - sm (fun i => c i (a - n)) n.toNat else 0) n.toNat :=
        sm_cg (fun k k1 k2 => by
          unfold tg; rw [if_neg r1, if_pos (by omega)]
          by_cases q : k = a - n
          · rw [if_pos (by omega), if_pos q, q]
          · rw [if_neg (by omega), if_neg q])
      have e2 : sm (fun k => tg n v c (fun i => sm (fun j => c i j) n.toNat) (fun j => sm (fun i => c i j) n.toNat) n 0 a (n + k)) n.toNat = sm (fun i => c i (a - n)) n.toNat :=
        sm_cg (fun k k1 k2 => by unfold tg; rw [if_neg r1, if_neg (by omega), if_pos (by omega), show n + k - n = k by omega])
      rw [e1, e2, sm_one _ (by omega) (by omega)]
      omega
  · rw [en, sm_add, en2]
    by_cases r1 : b < n
    · have e1 : sm (fun a => tg n v c (fun i => sm (fun j => c i j) n.toNat) (fun j => sm (fun i => c i j) n.toNat) n 0 a b) n.toNat = sm (fun i => c i b) n.toNat :=
        sm_cg (fun k k1 k2 => by unfold tg; rw [if_pos (by omega), if_pos r1, if_pos (by omega)])
      have e2 : sm (fun k => tg n v c (fun i => sm (fun j => c i j) n.toNat) (fun j => sm (fun i => c i j) n.toNat) n 0 (n + k) b) n.toNat = sm (fun k => if k = b then v - sm (fun i => c i b) n.toNat else 0) n.toNat :=
        sm_cg (fun k k1 k2 => by
          unfold tg; rw [if_neg (by omega), if_pos r1]
          by_cases q : k = b
          · rw [if_pos (by omega), if_pos q]
          · rw [if_neg (by omega), if_neg q])
      rw [e1, e2, sm_one _ b1 (by omega)]
      omega
    · have e1 : sm (fun a => tg n v c (fun i => sm (fun j => c i j) n.toNat) (fun j => sm (fun i => c i j) n.toNat) n 0 a b) n.toNat = sm (fun k => if k = b - n then v - sm (fun j => c (b - n) j) n.toNat else 0) n.toNat :=
        sm_cg (fun k k1 k2 => by
          unfold tg; rw [if_pos (by omega), if_neg r1]
          by_cases q : k = b - n
          · rw [if_pos (by omega), if_pos q, q]
          · rw [if_neg (by omega), if_neg q])
      have e2 : sm (fun k => tg n v c (fun i => sm (fun j => c i j) n.toNat) (fun j => sm (fun i => c i j) n.toNat) n 0 (n + k) b) n.toNat = sm (fun j => c (b - n) j) n.toNat :=
        sm_cg (fun k k1 k2 => by unfold tg; rw [if_neg (by omega), if_neg r1, if_pos (by omega), show n + k - n = k by omega])
      rw [e1, e2, sm_one _ (by omega) (by omega)]
      omega
theorem EvW_cg {n m : Int} {w w' : Int → Int → Int} (h : EvW n w m) (e : ∀ a b, 0 ≤ a → a < n → 0 ≤ b → b < n → w' a b = w a b) : EvW n w' m :=
  ⟨fun i j a b c d => by rw [e i j a b c d]; exact h.1 i j a b c d, fun i a b => by rw [← h.2.1 i a b]; exact sm_cg (fun k c d => e i k a b c (by omega)), fun j a b => by rw [← h.2.2 j a b]; exact sm_cg (fun k c d => e k j c (by omega) a b)⟩
theorem wk_up {σ : eS} {N a b z a' b' : Int} (hN : σ 0 22 = N) (hN1 : 1 ≤ N ∧ N ≤ 8) (hb : 0 ≤ b ∧ b < N) (hb' : 0 ≤ b' ∧ b' < N) : wk (up σ 9 (N * a + b) z) a' b' = if a' = a ∧ b' = b then z else wk σ a' b' := by
  unfold wk
  rw [up_ne _ _ _ _ (show (0 : Nat) ≠ 9 by decide), hN, up_if]
  by_cases q : a' = a ∧ b' = b
  · rw [if_pos q, if_pos ⟨rfl, by rw [q.1, q.2]⟩]
  · rw [if_neg q, if_neg (fun y => q (ix_inj hN1 hb' hb y.2))]
