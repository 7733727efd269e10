def mpx {α β : Type} (f : Nat → α → β) : Nat → List α → List β
  | _, [] => []
  | n, a :: l => f n a :: mpx f (n + 1) l
theorem mpx_at {α β : Type} (f : Nat → α → β) : ∀ (l : List α) (n i : Nat), (mpx f n l)[i]? = (l[i]?).map (f (n + i))
  | [], n, i => by simp [mpx]
  | a :: l, n, 0 => by simp [mpx]
  | a :: l, n, i + 1 => by
    rw [mpx, List.getElem?_cons_succ, mpx_at f l (n + 1) i, List.getElem?_cons_succ, show n + 1 + i = n + (i + 1) by omega]
theorem mpx_eq {α β : Type} (f : Nat → α → β) (l : List α) : l.mapIdx f = mpx f 0 l := by
  apply List.ext_getElem?
  intro i
  rw [mpx_at, List.getElem?_mapIdx, Nat.zero_add]
theorem eE_o (dA : Nat → ClassId) (ad : Nat → Nat) (σ : eS) (c ci : Nat) (ts : List Nat) : eE dA ad σ c (0, ci, ts) = .inr (ci, mpx (fun k t => eFv ad (σ c (k : Nat)) t) 0 ts) := by
  show Sum.inr (ci, ts.mapIdx _) = _
  rw [mpx_eq]
theorem eEA0 (dA : Nat → ClassId) (ad : Nat → Nat) : eE dA ad zA 0 (0, 9, [4, 13, 17, 19, 23, 25, 28, 43, 49]) = .inr (9, [.ref (ad 1), .ref (ad 10), .ref (ad 14), .ref (ad 16), .ref (ad 20), .ref (ad 22), .ref (ad 25), .ref (ad 40), .ref (ad 46)]) := by rw [eE_o]; rfl
theorem eEA1 (dA : Nat → ClassId) (ad : Nat → Nat) : eE dA ad zA 1 (4, 4, [2, 3, 4, 5]) = .inl (dA 1, 4, .inr (.inr (.inr (.inr (fun k => ([2, 3, 4, 5] : List Nat)[k]?.map ad))))) := by rfl
theorem eEA2 (dA : Nat → ClassId) (ad : Nat → Nat) : eE dA ad zA 2 (0, 7, [9, 0, 0, 0, 2, 1, 2, 0, 0]) = .inr (7, [.ref (ad 6), .int 0, .int 1, .int (-1), .int 0, .long 0, .int 0, .int 0, .int 0]) := by rw [eE_o]; rfl
theorem eEA3 (dA : Nat → ClassId) (ad : Nat → Nat) : eE dA ad zA 3 (0, 7, [10, 0, 0, 0, 2, 1, 2, 0, 0]) = .inr (7, [.ref (ad 7), .int 0, .int 1, .int (-1), .int 0, .long 0, .int 0, .int 0, .int 0]) := by rw [eE_o]; rfl
theorem eEA4 (dA : Nat → ClassId) (ad : Nat → Nat) : eE dA ad zA 4 (0, 7, [11, 0, 0, 0, 2, 1, 2, 0, 0]) = .inr (7, [.ref (ad 8), .int 0, .int 1, .int (-1), .int 0, .long 0, .int 0, .int 0, .int 0]) := by rw [eE_o]; rfl
theorem eEA5 (dA : Nat → ClassId) (ad : Nat → Nat) : eE dA ad zA 5 (0, 7, [12, 0, 0, 0, 2, 1, 2, 0, 0]) = .inr (7, [.ref (ad 9), .int 0, .int 1, .int (-1), .int 0, .long 0, .int 0, .int 0, .int 0]) := by rw [eE_o]; rfl
theorem eEA6 (dA : Nat → ClassId) (ad : Nat → Nat) : eE dA ad zA 6 (1, 64, []) = .inl (dA 6, 64, .inl (fun _ => 0)) := by rfl
theorem eEA7 (dA : Nat → ClassId) (ad : Nat → Nat) : eE dA ad zA 7 (1, 64, []) = .inl (dA 7, 64, .inl (fun _ => 0)) := by rfl
theorem eEA8 (dA : Nat → ClassId) (ad : Nat → Nat) : eE dA ad zA 8 (1, 64, []) = .inl (dA 8, 64, .inl (fun _ => 0)) := by rfl
theorem eEA9 (dA : Nat → ClassId) (ad : Nat → Nat) : eE dA ad zA 9 (1, 64, []) = .inl (dA 9, 64, .inl (fun _ => 0)) := by rfl
theorem eEA10 (dA : Nat → ClassId) (ad : Nat → Nat) : eE dA ad zA 10 (0, 8, [14, 15, 16, 0, 0, 0, 0, 0, 0, 0]) = .inr (8, [.ref (ad 11), .ref (ad 12), .ref (ad 13), .int 0, .int 0, .int (-1), .int 0, .int 0, .int 0, .int 0]) := by rw [eE_o]; rfl
theorem eEA11 (dA : Nat → ClassId) (ad : Nat → Nat) : eE dA ad zA 11 (1, 600, []) = .inl (dA 11, 600, .inl (fun _ => 0)) := by rfl
theorem eEA12 (dA : Nat → ClassId) (ad : Nat → Nat) : eE dA ad zA 12 (1, 64, []) = .inl (dA 12, 64, .inl (fun _ => 0)) := by rfl
theorem eEA13 (dA : Nat → ClassId) (ad : Nat → Nat) : eE dA ad zA 13 (1, 64, []) = .inl (dA 13, 64, .inl (fun _ => 0)) := by rfl
theorem eEA14 (dA : Nat → ClassId) (ad : Nat → Nat) : eE dA ad zA 14 (0, 1, [18]) = .inr (1, [.ref (ad 15)]) := by rw [eE_o]; rfl
theorem eEA15 (dA : Nat → ClassId) (ad : Nat → Nat) : eE dA ad zA 15 (2, 64, []) = .inl (dA 15, 64, .inr (.inl (fun _ => 0))) := by rfl
theorem eEA16 (dA : Nat → ClassId) (ad : Nat → Nat) : eE dA ad zA 16 (0, 0, [20, 21, 22, 0]) = .inr (0, [.ref (ad 17), .ref (ad 18), .ref (ad 19), .int 0]) := by rw [eE_o]; rfl
theorem eEA17 (dA : Nat → ClassId) (ad : Nat → Nat) : eE dA ad zA 17 (1, 8, []) = .inl (dA 17, 8, .inl (fun _ => 0)) := by rfl
theorem eEA18 (dA : Nat → ClassId) (ad : Nat → Nat) : eE dA ad zA 18 (2, 256, []) = .inl (dA 18, 256, .inr (.inl (fun _ => 0))) := by rfl
theorem eEA19 (dA : Nat → ClassId) (ad : Nat → Nat) : eE dA ad zA 19 (1, 256, []) = .inl (dA 19, 256, .inl (fun _ => 0)) := by rfl
theorem eEA20 (dA : Nat → ClassId) (ad : Nat → Nat) : eE dA ad zA 20 (0, 3, [19, 24, 0, 0, 0, 0]) = .inr (3, [.ref (ad 16), .ref (ad 21), .int 0, .int 0, .int 0, .int 0]) := by rw [eE_o]; rfl
theorem eEA21 (dA : Nat → ClassId) (ad : Nat → Nat) : eE dA ad zA 21 (1, 64, []) = .inl (dA 21, 64, .inl (fun _ => 0)) := by rfl
theorem eEA22 (dA : Nat → ClassId) (ad : Nat → Nat) : eE dA ad zA 22 (0, 2, [26, 27, 0, 0, 0, 0, 0]) = .inr (2, [.ref (ad 23), .ref (ad 24), .int 0, .int 0, .int 0, .int 0, .int 0]) := by rw [eE_o]; rfl
theorem eEA23 (dA : Nat → ClassId) (ad : Nat → Nat) : eE dA ad zA 23 (1, 64, []) = .inl (dA 23, 64, .inl (fun _ => 0)) := by rfl
theorem eEA24 (dA : Nat → ClassId) (ad : Nat → Nat) : eE dA ad zA 24 (1, 512, []) = .inl (dA 24, 512, .inl (fun _ => 0)) := by rfl
theorem eEA25 (dA : Nat → ClassId) (ad : Nat → Nat) : eE dA ad zA 25 (0, 5, [19, 29, 30, 31, 32]) = .inr (5, [.ref (ad 16), .ref (ad 26), .ref (ad 27), .ref (ad 28), .ref (ad 29)]) := by rw [eE_o]; rfl
theorem eEA26 (dA : Nat → ClassId) (ad : Nat → Nat) : eE dA ad zA 26 (5, 5, [30, 31, 32, 33, 34]) = .inl (dA 26, 5, .inr (.inr (.inr (.inr (fun k => ([30, 31, 32, 33, 34] : List Nat)[k]?.map ad))))) := by rfl
theorem eEA27 (dA : Nat → ClassId) (ad : Nat → Nat) : eE dA ad zA 27 (1, 16, []) = .inl (dA 27, 16, .inl (fun _ => 0)) := by rfl
theorem eEA28 (dA : Nat → ClassId) (ad : Nat → Nat) : eE dA ad zA 28 (1, 3, []) = .inl (dA 28, 3, .inl (fun _ => 0)) := by rfl
theorem eEA29 (dA : Nat → ClassId) (ad : Nat → Nat) : eE dA ad zA 29 (1, 3, []) = .inl (dA 29, 3, .inl (fun _ => 0)) := by rfl
theorem eEA30 (dA : Nat → ClassId) (ad : Nat → Nat) : eE dA ad zA 30 (0, 3, [19, 38, 0, 0, 0, 0]) = .inr (3, [.ref (ad 16), .ref (ad 35), .int 0, .int 0, .int 0, .int 0]) := by rw [eE_o]; rfl
theorem eEA31 (dA : Nat → ClassId) (ad : Nat → Nat) : eE dA ad zA 31 (0, 3, [19, 39, 0, 0, 0, 0]) = .inr (3, [.ref (ad 16), .ref (ad 36), .int 0, .int 0, .int 0, .int 0]) := by rw [eE_o]; rfl
theorem eEA32 (dA : Nat → ClassId) (ad : Nat → Nat) : eE dA ad zA 32 (0, 3, [19, 40, 0, 0, 0, 0]) = .inr (3, [.ref (ad 16), .ref (ad 37), .int 0, .int 0, .int 0, .int 0]) := by rw [eE_o]; rfl
theorem eEA33 (dA : Nat → ClassId) (ad : Nat → Nat) : eE dA ad zA 33 (0, 3, [19, 41, 0, 0, 0, 0]) = .inr (3, [.ref (ad 16), .ref (ad 38), .int 0, .int 0, .int 0, .int 0]) := by rw [eE_o]; rfl
theorem eEA34 (dA : Nat → ClassId) (ad : Nat → Nat) : eE dA ad zA 34 (0, 3, [19, 42, 0, 0, 0, 0]) = .inr (3, [.ref (ad 16), .ref (ad 39), .int 0, .int 0, .int 0, .int 0]) := by rw [eE_o]; rfl
theorem eEA35 (dA : Nat → ClassId) (ad : Nat → Nat) : eE dA ad zA 35 (1, 64, []) = .inl (dA 35, 64, .inl (fun _ => 0)) := by rfl
theorem eEA36 (dA : Nat → ClassId) (ad : Nat → Nat) : eE dA ad zA 36 (1, 64, []) = .inl (dA 36, 64, .inl (fun _ => 0)) := by rfl
theorem eEA37 (dA : Nat → ClassId) (ad : Nat → Nat) : eE dA ad zA 37 (1, 64, []) = .inl (dA 37, 64, .inl (fun _ => 0)) := by rfl
theorem eEA38 (dA : Nat → ClassId) (ad : Nat → Nat) : eE dA ad zA 38 (1, 64, []) = .inl (dA 38, 64, .inl (fun _ => 0)) := by rfl
theorem eEA39 (dA : Nat → ClassId) (ad : Nat → Nat) : eE dA ad zA 39 (1, 64, []) = .inl (dA 39, 64, .inl (fun _ => 0)) := by rfl
theorem eEA40 (dA : Nat → ClassId) (ad : Nat → Nat) : eE dA ad zA 40 (0, 4, [44, 45, 46, 47, 48]) = .inr (4, [.ref (ad 41), .ref (ad 42), .ref (ad 43), .ref (ad 44), .ref (ad 45)]) := by rw [eE_o]; rfl
theorem eEA41 (dA : Nat → ClassId) (ad : Nat → Nat) : eE dA ad zA 41 (1, 324, []) = .inl (dA 41, 324, .inl (fun _ => 0)) := by rfl
theorem eEA42 (dA : Nat → ClassId) (ad : Nat → Nat) : eE dA ad zA 42 (1, 324, []) = .inl (dA 42, 324, .inl (fun _ => 0)) := by rfl
theorem eEA43 (dA : Nat → ClassId) (ad : Nat → Nat) : eE dA ad zA 43 (1, 324, []) = .inl (dA 43, 324, .inl (fun _ => 0)) := by rfl
theorem eEA44 (dA : Nat → ClassId) (ad : Nat → Nat) : eE dA ad zA 44 (1, 18, []) = .inl (dA 44, 18, .inl (fun _ => 0)) := by rfl
theorem eEA45 (dA : Nat → ClassId) (ad : Nat → Nat) : eE dA ad zA 45 (1, 18, []) = .inl (dA 45, 18, .inl (fun _ => 0)) := by rfl
theorem eEA46 (dA : Nat → ClassId) (ad : Nat → Nat) : eE dA ad zA 46 (0, 6, [50, 0]) = .inr (6, [.ref (ad 47), .int 0]) := by rw [eE_o]; rfl
theorem eEA47 (dA : Nat → ClassId) (ad : Nat → Nat) : eE dA ad zA 47 (1, 1216, []) = .inl (dA 47, 1216, .inl (fun _ => 0)) := by rfl
theorem eEB0 (dA : Nat → ClassId) (ad : Nat → Nat) : eE dA ad zB 0 (0, 10, [4, 5, 6, 7, 1, 8, 0, 0, 0, 0, 0, 0, 0, 0, 0, 0, 9, 10, 0, 0, 11, 12, 0, 13, 14, 15, 16, 0, 0, 0, 0, 0, 17, 18, 19, 20, 21, 22, 23, 24, 25, 26, 0]) = .inr (10, [.ref (ad 1), .ref (ad 2), .ref (ad 3), .ref (ad 4), .long 0, .ref (ad 5), .int 0, .int 0, .int (-1), .int 0, .int 0, .int 0, .int 0, .int 0, .int 0, .int 0, .ref (ad 6), .ref (ad 7), .int 0, .int 0, .ref (ad 8), .ref (ad 9), .int 0, .ref (ad 10), .ref (ad 11), .ref (ad 12), .ref (ad 13), .int 0, .int 0, .int 0, .int 0, .int 0, .ref (ad 14), .ref (ad 15), .ref (ad 16), .ref (ad 17), .ref (ad 18), .ref (ad 19), .ref (ad 20), .ref (ad 21), .ref (ad 22), .ref (ad 23), .int 0]) := by rw [eE_o]; rfl
theorem eEB1 (dA : Nat → ClassId) (ad : Nat → Nat) : eE dA ad zB 1 (1, 4, []) = .inl (dA 1, 4, .inl (fun _ => 0)) := by rfl
theorem eEB2 (dA : Nat → ClassId) (ad : Nat → Nat) : eE dA ad zB 2 (1, 4, []) = .inl (dA 2, 4, .inl (fun _ => 0)) := by rfl
theorem eEB3 (dA : Nat → ClassId) (ad : Nat → Nat) : eE dA ad zB 3 (1, 256, []) = .inl (dA 3, 256, .inl (fun _ => 0)) := by rfl
theorem eEB4 (dA : Nat → ClassId) (ad : Nat → Nat) : eE dA ad zB 4 (2, 64, []) = .inl (dA 4, 64, .inr (.inl (fun _ => 0))) := by rfl
theorem eEB5 (dA : Nat → ClassId) (ad : Nat → Nat) : eE dA ad zB 5 (1, 600, []) = .inl (dA 5, 600, .inl (fun _ => 0)) := by rfl
theorem eEB6 (dA : Nat → ClassId) (ad : Nat → Nat) : eE dA ad zB 6 (1, 64, []) = .inl (dA 6, 64, .inl (fun _ => 0)) := by rfl
theorem eEB7 (dA : Nat → ClassId) (ad : Nat → Nat) : eE dA ad zB 7 (1, 64, []) = .inl (dA 7, 64, .inl (fun _ => 0)) := by rfl
theorem eEB8 (dA : Nat → ClassId) (ad : Nat → Nat) : eE dA ad zB 8 (1, 16, []) = .inl (dA 8, 16, .inl (fun _ => 0)) := by rfl
theorem eEB9 (dA : Nat → ClassId) (ad : Nat → Nat) : eE dA ad zB 9 (1, 64, []) = .inl (dA 9, 64, .inl (fun _ => 0)) := by rfl
theorem eEB10 (dA : Nat → ClassId) (ad : Nat → Nat) : eE dA ad zB 10 (2, 256, []) = .inl (dA 10, 256, .inr (.inl (fun _ => 0))) := by rfl
theorem eEB11 (dA : Nat → ClassId) (ad : Nat → Nat) : eE dA ad zB 11 (1, 8, []) = .inl (dA 11, 8, .inl (fun _ => 0)) := by rfl
theorem eEB12 (dA : Nat → ClassId) (ad : Nat → Nat) : eE dA ad zB 12 (1, 64, []) = .inl (dA 12, 64, .inl (fun _ => 0)) := by rfl
theorem eEB13 (dA : Nat → ClassId) (ad : Nat → Nat) : eE dA ad zB 13 (1, 512, []) = .inl (dA 13, 512, .inl (fun _ => 0)) := by rfl
theorem eEB14 (dA : Nat → ClassId) (ad : Nat → Nat) : eE dA ad zB 14 (1, 64, []) = .inl (dA 14, 64, .inl (fun _ => 0)) := by rfl
theorem eEB15 (dA : Nat → ClassId) (ad : Nat → Nat) : eE dA ad zB 15 (1, 17, []) = .inl (dA 15, 17, .inl (fun _ => 0)) := by rfl
theorem eEB16 (dA : Nat → ClassId) (ad : Nat → Nat) : eE dA ad zB 16 (1, 17, []) = .inl (dA 16, 17, .inl (fun _ => 0)) := by rfl
theorem eEB17 (dA : Nat → ClassId) (ad : Nat → Nat) : eE dA ad zB 17 (1, 400, []) = .inl (dA 17, 400, .inl (fun _ => 0)) := by rfl
theorem eEB18 (dA : Nat → ClassId) (ad : Nat → Nat) : eE dA ad zB 18 (1, 20, []) = .inl (dA 18, 20, .inl (fun _ => 0)) := by rfl
theorem eEB19 (dA : Nat → ClassId) (ad : Nat → Nat) : eE dA ad zB 19 (1, 20, []) = .inl (dA 19, 20, .inl (fun _ => 0)) := by rfl
theorem eEB20 (dA : Nat → ClassId) (ad : Nat → Nat) : eE dA ad zB 20 (2, 256, []) = .inl (dA 20, 256, .inr (.inl (fun _ => 0))) := by rfl
theorem eEB21 (dA : Nat → ClassId) (ad : Nat → Nat) : eE dA ad zB 21 (3, 64, []) = .inl (dA 21, 64, .inl (fun _ => 0)) := by rfl
theorem eEB22 (dA : Nat → ClassId) (ad : Nat → Nat) : eE dA ad zB 22 (3, 64, []) = .inl (dA 22, 64, .inl (fun _ => 0)) := by rfl
theorem eEB23 (dA : Nat → ClassId) (ad : Nat → Nat) : eE dA ad zB 23 (1, 1400, []) = .inl (dA 23, 1400, .inl (fun _ => 0)) := by rfl
theorem up4 (f : Nat → Nat) (a b c d : Nat) : va_up (va_up (va_up (va_up (fun _ => none) 0 (some (f a))) 1 (some (f b))) 2 (some (f c))) 3 (some (f d)) = (fun k => ([a, b, c, d] : List Nat)[k]?.map f) := by
  funext k
  match k with
  | 0 => rfl
  | 1 => rfl
  | 2 => rfl
  | 3 => rfl
  | k + 4 => simp [va_up]
theorem up5 (f : Nat → Nat) (a b c d e : Nat) : va_up (va_up (va_up (va_up (va_up (fun _ => none) 0 (some (f a))) 1 (some (f b))) 2 (some (f c))) 3 (some (f d))) 4 (some (f e)) = (fun k => ([a, b, c, d, e] : List Nat)[k]?.map f) := by
  funext k
  match k with
  | 0 => rfl
  | 1 => rfl
  | 2 => rfl
  | 3 => rfl
  | 4 => rfl
  | k + 5 => simp [va_up]
def allFrom {α : Type} (P : Nat → α → Prop) : Nat → List α → Prop
  | _, [] => True
  | n, a :: l => P n a ∧ allFrom P (n + 1) l
theorem allFrom_at {α : Type} {P : Nat → α → Prop} : ∀ {l : List α} {n : Nat}, allFrom P n l → ∀ (c : Nat) (r : α), l[c]? = some r → P (n + c) r
  | [], _, _, c, r, h => by simp at h
  | a :: l, n, hA, 0, r, h => by
    rw [List.getElem?_cons_zero] at h
    cases h
    exact hA.1
  | a :: l, n, hA, c + 1, r, h => by
    rw [List.getElem?_cons_succ] at h
    have := allFrom_at hA.2 c r h
    rw [show n + 1 + c = n + (c + 1) by omega] at this
    exact this
theorem allFrom_all {α : Type} {P : Nat → α → Prop} {l : List α} (h : allFrom P 0 l) : ∀ (c : Nat) (r : α), l[c]? = some r → P c r := fun c r hr => by
  have := allFrom_at h c r hr
  rw [Nat.zero_add] at this
  exact this
def eTs (sh : eSh) (dA : Nat → ClassId) (t : kT) : Prop := ∀ (c : Nat) (r : Nat × Nat × List Nat), sh[c]? = some r → r.1 ≠ 0 → ∃ k : Nat, t[k]? = some (dA c, eTy r.1)
def fzA : Nat → Nat := fun c => ([0, 1, 40, 42, 44, 46, 41, 43, 45, 47, 2, 3, 4, 5, 6, 7, 8, 9, 10, 11, 12, 13, 14, 15, 16, 17, 18, 19, 20, 21, 22, 24, 26, 28, 30, 23, 25, 27, 29, 31, 32, 33, 34, 35, 36, 37, 38, 39] : List Nat).getD c 0
theorem fzA_inj : ∀ i, i < 48 → ∀ j, j < 48 → fzA i = fzA j → i = j := by decide +kernel
set_option maxRecDepth 100000 in
set_option maxHeartbeats 4000000 in
theorem zA_asm {hE : Nat} {w : va_W} {t : kT} (qE : Q_Ev hE w t) : ∃ (dA : Nat → ClassId) (ad : Nat → Nat), ad 0 = hE ∧ (∀ (c : Nat) (r : Nat × Nat × List Nat), shA[c]? = some r → w[fzA c]? = some (ad c, eE dA ad zA c r)) ∧ eTs shA dA t := by
  obtain ⟨Aq0, Ac0, Aa1, Aw2, At2, Aa3, Aw4, At4, Aa5, Aw6, At6, Aa7, Aw8, At8, Aa9, Aw10, At10, Aa11, Aw12, At12, Aa13, Aw14, At14, Aa15, Aw16, At16, Aq0_19, Ac0_19, Aa17, Aq0_22, Ac0_22, Aa20, Aq0_25, Ac0_25, Aa23, Aq0_28, Ac0_28, Aa26, fA0, fA1, fA2, fA3, fA4, fA5, fA6, fA7, e1_, e2_⟩ := qE
  subst e1_; subst e2_
  obtain ⟨ATpq0, ATpc0, ATpq1, ATpc1, ATpq2, ATpc2, e1_, e2_⟩ := fA0
  subst e1_; subst e2_
  obtain ⟨AMkq0, AMkc0, e1_, e2_⟩ := fA1
  subst e1_; subst e2_
  obtain ⟨AChq0, AChc0, AChq1, AChc1, AChq2, AChc2, e1_, e2_⟩ := fA2
  subst e1_; subst e2_
  obtain ⟨APeq0, APec0, e1_, e2_⟩ := fA3
  subst e1_; subst e2_
  obtain ⟨AMiq0, AMic0, AMiq1, AMic1, e1_, e2_⟩ := fA4
  subst e1_; subst e2_
  obtain ⟨ASeq0, ASec0, ASeq1, ASec1, ASeq2, ASec2, ASeq3, ASec3, ASeq0_6, ASec0_6, ASea4, ASeq0_9, ASec0_9, ASea7, ASeq0_12, ASec0_12, ASea10, ASeq0_15, ASec0_15, ASea13, ASeq0_18, ASec0_18, ASea16, e1_, e2_⟩ := fA5
  subst e1_; subst e2_
  obtain ⟨ARoq0, ARoc0, ARoq1, ARoc1, ARoq2, ARoc2, ARoq3, ARoc3, ARoq4, ARoc4, e1_, e2_⟩ := fA6
  subst e1_; subst e2_
  obtain ⟨AShq0, AShc0, e1_, e2_⟩ := fA7
  subst e1_; subst e2_
  obtain ⟨ad, g0, g1, g2, g3, g4, g5, g6, g7, g8, g9, g10, g11, g12, g13, g14, g15, g16, g17, g18, g19, g20, g21, g22, g23, g24, g25, g26, g27, g28, g29, g30, g31, g32, g33, g34, g35, g36, g37, g38, g39, g40, g41, g42, g43, g44, g45, g46, g47⟩ : ∃ ad : Nat → Nat, ad 0 = hE ∧ ad 1 = Aq0 ∧ ad 2 = Aa17 ∧ ad 3 = Aa20 ∧ ad 4 = Aa23 ∧ ad 5 = Aa26 ∧ ad 6 = Aq0_19 ∧ ad 7 = Aq0_22 ∧ ad 8 = Aq0_25 ∧ ad 9 = Aq0_28 ∧ ad 10 = Aa1 ∧ ad 11 = ATpq0 ∧ ad 12 = ATpq1 ∧ ad 13 = ATpq2 ∧ ad 14 = Aa3 ∧ ad 15 = AMkq0 ∧ ad 16 = Aa5 ∧ ad 17 = AChq0 ∧ ad 18 = AChq1 ∧ ad 19 = AChq2 ∧ ad 20 = Aa7 ∧ ad 21 = APeq0 ∧ ad 22 = Aa9 ∧ ad 23 = AMiq0 ∧ ad 24 = AMiq1 ∧ ad 25 = Aa11 ∧ ad 26 = ASeq0 ∧ ad 27 = ASeq1 ∧ ad 28 = ASeq2 ∧ ad 29 = ASeq3 ∧ ad 30 = ASea4 ∧ ad 31 = ASea7 ∧ ad 32 = ASea10 ∧ ad 33 = ASea13 ∧ ad 34 = ASea16 ∧ ad 35 = ASeq0_6 ∧ ad 36 = ASeq0_9 ∧ ad 37 = ASeq0_12 ∧ ad 38 = ASeq0_15 ∧ ad 39 = ASeq0_18 ∧ ad 40 = Aa13 ∧ ad 41 = ARoq0 ∧ ad 42 = ARoq1 ∧ ad 43 = ARoq2 ∧ ad 44 = ARoq3 ∧ ad 45 = ARoq4 ∧ ad 46 = Aa15 ∧ ad 47 = AShq0 := ⟨fun c => [hE, Aq0, Aa17, Aa20, Aa23, Aa26, Aq0_19, Aq0_22, Aq0_25, Aq0_28, Aa1, ATpq0, ATpq1, ATpq2, Aa3, AMkq0, Aa5, AChq0, AChq1, AChq2, Aa7, APeq0, Aa9, AMiq0, AMiq1, Aa11, ASeq0, ASeq1, ASeq2, ASeq3, ASea4, ASea7, ASea10, ASea13, ASea16, ASeq0_6, ASeq0_9, ASeq0_12, ASeq0_15, ASeq0_18, Aa13, ARoq0, ARoq1, ARoq2, ARoq3, ARoq4, Aa15, AShq0].getD c 0, rfl, rfl, rfl, rfl, rfl, rfl, rfl, rfl, rfl, rfl, rfl, rfl, rfl, rfl, rfl, rfl, rfl, rfl, rfl, rfl, rfl, rfl, rfl, rfl, rfl, rfl, rfl, rfl, rfl, rfl, rfl, rfl, rfl, rfl, rfl, rfl, rfl, rfl, rfl, rfl, rfl, rfl, rfl, rfl, rfl, rfl, rfl, rfl⟩
  obtain ⟨dA, k1, k6, k7, k8, k9, k11, k12, k13, k15, k17, k18, k19, k21, k23, k24, k26, k27, k28, k29, k35, k36, k37, k38, k39, k41, k42, k43, k44, k45, k47⟩ : ∃ dA : Nat → ClassId, dA 1 = Ac0 ∧ dA 6 = Ac0_19 ∧ dA 7 = Ac0_22 ∧ dA 8 = Ac0_25 ∧ dA 9 = Ac0_28 ∧ dA 11 = ATpc0 ∧ dA 12 = ATpc1 ∧ dA 13 = ATpc2 ∧ dA 15 = AMkc0 ∧ dA 17 = AChc0 ∧ dA 18 = AChc1 ∧ dA 19 = AChc2 ∧ dA 21 = APec0 ∧ dA 23 = AMic0 ∧ dA 24 = AMic1 ∧ dA 26 = ASec0 ∧ dA 27 = ASec1 ∧ dA 28 = ASec2 ∧ dA 29 = ASec3 ∧ dA 35 = ASec0_6 ∧ dA 36 = ASec0_9 ∧ dA 37 = ASec0_12 ∧ dA 38 = ASec0_15 ∧ dA 39 = ASec0_18 ∧ dA 41 = ARoc0 ∧ dA 42 = ARoc1 ∧ dA 43 = ARoc2 ∧ dA 44 = ARoc3 ∧ dA 45 = ARoc4 ∧ dA 47 = AShc0 := ⟨fun c => [Ac0, Ac0, Ac0, Ac0, Ac0, Ac0, Ac0_19, Ac0_22, Ac0_25, Ac0_28, Ac0, ATpc0, ATpc1, ATpc2, Ac0, AMkc0, Ac0, AChc0, AChc1, AChc2, Ac0, APec0, Ac0, AMic0, AMic1, Ac0, ASec0, ASec1, ASec2, ASec3, Ac0, Ac0, Ac0, Ac0, Ac0, ASec0_6, ASec0_9, ASec0_12, ASec0_15, ASec0_18, Ac0, ARoc0, ARoc1, ARoc2, ARoc3, ARoc4, Ac0, AShc0].getD c Ac0, rfl, rfl, rfl, rfl, rfl, rfl, rfl, rfl, rfl, rfl, rfl, rfl, rfl, rfl, rfl, rfl, rfl, rfl, rfl, rfl, rfl, rfl, rfl, rfl, rfl, rfl, rfl, rfl, rfl, rfl⟩
  try simp only [List.nil_append, List.cons_append]
  refine ⟨dA, ad, g0, ?_, ?_⟩
  · refine allFrom_all ?_
    refine ⟨?_, ?_, ?_, ?_, ?_, ?_, ?_, ?_, ?_, ?_, ?_, ?_, ?_, ?_, ?_, ?_, ?_, ?_, ?_, ?_, ?_, ?_, ?_, ?_, ?_, ?_, ?_, ?_, ?_, ?_, ?_, ?_, ?_, ?_, ?_, ?_, ?_, ?_, ?_, ?_, ?_, ?_, ?_, ?_, ?_, ?_, ?_, ?_, trivial⟩
    · show _ = some (ad 0, eE dA ad zA 0 (0, 9, [4, 13, 17, 19, 23, 25, 28, 43, 49])); rw [eEA0]; simp only [g0, g1, g10, g14, g16, g20, g22, g25, g40, g46]; rfl
    · show _ = some (ad 1, eE dA ad zA 1 (4, 4, [2, 3, 4, 5])); rw [eEA1, ← up4 ad 2 3 4 5]; simp only [g1, g2, g3, g4, g5, k1]; rfl
    · show _ = some (ad 2, eE dA ad zA 2 (0, 7, [9, 0, 0, 0, 2, 1, 2, 0, 0])); rw [eEA2]; simp only [g2, g6]; rfl
    · show _ = some (ad 3, eE dA ad zA 3 (0, 7, [10, 0, 0, 0, 2, 1, 2, 0, 0])); rw [eEA3]; simp only [g3, g7]; rfl
    · show _ = some (ad 4, eE dA ad zA 4 (0, 7, [11, 0, 0, 0, 2, 1, 2, 0, 0])); rw [eEA4]; simp only [g4, g8]; rfl
    · show _ = some (ad 5, eE dA ad zA 5 (0, 7, [12, 0, 0, 0, 2, 1, 2, 0, 0])); rw [eEA5]; simp only [g5, g9]; rfl
    · show _ = some (ad 6, eE dA ad zA 6 (1, 64, [])); rw [eEA6]; simp only [g6, k6]; rfl
    · show _ = some (ad 7, eE dA ad zA 7 (1, 64, [])); rw [eEA7]; simp only [g7, k7]; rfl
    · show _ = some (ad 8, eE dA ad zA 8 (1, 64, [])); rw [eEA8]; simp only [g8, k8]; rfl
    · show _ = some (ad 9, eE dA ad zA 9 (1, 64, [])); rw [eEA9]; simp only [g9, k9]; rfl
    · show _ = some (ad 10, eE dA ad zA 10 (0, 8, [14, 15, 16, 0, 0, 0, 0, 0, 0, 0])); rw [eEA10]; simp only [g10, g11, g12, g13]; rfl
    · show _ = some (ad 11, eE dA ad zA 11 (1, 600, [])); rw [eEA11]; simp only [g11, k11]; rfl
    · show _ = some (ad 12, eE dA ad zA 12 (1, 64, [])); rw [eEA12]; simp only [g12, k12]; rfl
    · show _ = some (ad 13, eE dA ad zA 13 (1, 64, [])); rw [eEA13]; simp only [g13, k13]; rfl
    · show _ = some (ad 14, eE dA ad zA 14 (0, 1, [18])); rw [eEA14]; simp only [g14, g15]; rfl
    · show _ = some (ad 15, eE dA ad zA 15 (2, 64, [])); rw [eEA15]; simp only [g15, k15]; rfl
    · show _ = some (ad 16, eE dA ad zA 16 (0, 0, [20, 21, 22, 0])); rw [eEA16]; simp only [g16, g17, g18, g19]; rfl
    · show _ = some (ad 17, eE dA ad zA 17 (1, 8, [])); rw [eEA17]; simp only [g17, k17]; rfl
    · show _ = some (ad 18, eE dA ad zA 18 (2, 256, [])); rw [eEA18]; simp only [g18, k18]; rfl
    · show _ = some (ad 19, eE dA ad zA 19 (1, 256, [])); rw [eEA19]; simp only [g19, k19]; rfl
    · show _ = some (ad 20, eE dA ad zA 20 (0, 3, [19, 24, 0, 0, 0, 0])); rw [eEA20]; simp only [g16, g20, g21]; rfl
    · show _ = some (ad 21, eE dA ad zA 21 (1, 64, [])); rw [eEA21]; simp only [g21, k21]; rfl
    · show _ = some (ad 22, eE dA ad zA 22 (0, 2, [26, 27, 0, 0, 0, 0, 0])); rw [eEA22]; simp only [g22, g23, g24]; rfl
    · show _ = some (ad 23, eE dA ad zA 23 (1, 64, [])); rw [eEA23]; simp only [g23, k23]; rfl
    · show _ = some (ad 24, eE dA ad zA 24 (1, 512, [])); rw [eEA24]; simp only [g24, k24]; rfl
    · show _ = some (ad 25, eE dA ad zA 25 (0, 5, [19, 29, 30, 31, 32])); rw [eEA25]; simp only [g16, g25, g26, g27, g28, g29]; rfl
    · show _ = some (ad 26, eE dA ad zA 26 (5, 5, [30, 31, 32, 33, 34])); rw [eEA26, ← up5 ad 30 31 32 33 34]; simp only [g26, g30, g31, g32, g33, g34, k26]; rfl
    · show _ = some (ad 27, eE dA ad zA 27 (1, 16, [])); rw [eEA27]; simp only [g27, k27]; rfl
    · show _ = some (ad 28, eE dA ad zA 28 (1, 3, [])); rw [eEA28]; simp only [g28, k28]; rfl
    · show _ = some (ad 29, eE dA ad zA 29 (1, 3, [])); rw [eEA29]; simp only [g29, k29]; rfl
    · show _ = some (ad 30, eE dA ad zA 30 (0, 3, [19, 38, 0, 0, 0, 0])); rw [eEA30]; simp only [g16, g30, g35]; rfl
    · show _ = some (ad 31, eE dA ad zA 31 (0, 3, [19, 39, 0, 0, 0, 0])); rw [eEA31]; simp only [g16, g31, g36]; rfl
    · show _ = some (ad 32, eE dA ad zA 32 (0, 3, [19, 40, 0, 0, 0, 0])); rw [eEA32]; simp only [g16, g32, g37]; rfl
    · show _ = some (ad 33, eE dA ad zA 33 (0, 3, [19, 41, 0, 0, 0, 0])); rw [eEA33]; simp only [g16, g33, g38]; rfl
    · show _ = some (ad 34, eE dA ad zA 34 (0, 3, [19, 42, 0, 0, 0, 0])); rw [eEA34]; simp only [g16, g34, g39]; rfl
    · show _ = some (ad 35, eE dA ad zA 35 (1, 64, [])); rw [eEA35]; simp only [g35, k35]; rfl
    · show _ = some (ad 36, eE dA ad zA 36 (1, 64, [])); rw [eEA36]; simp only [g36, k36]; rfl
    · show _ = some (ad 37, eE dA ad zA 37 (1, 64, [])); rw [eEA37]; simp only [g37, k37]; rfl
    · show _ = some (ad 38, eE dA ad zA 38 (1, 64, [])); rw [eEA38]; simp only [g38, k38]; rfl
    · show _ = some (ad 39, eE dA ad zA 39 (1, 64, [])); rw [eEA39]; simp only [g39, k39]; rfl
    · show _ = some (ad 40, eE dA ad zA 40 (0, 4, [44, 45, 46, 47, 48])); rw [eEA40]; simp only [g40, g41, g42, g43, g44, g45]; rfl
    · show _ = some (ad 41, eE dA ad zA 41 (1, 324, [])); rw [eEA41]; simp only [g41, k41]; rfl
    · show _ = some (ad 42, eE dA ad zA 42 (1, 324, [])); rw [eEA42]; simp only [g42, k42]; rfl
    · show _ = some (ad 43, eE dA ad zA 43 (1, 324, [])); rw [eEA43]; simp only [g43, k43]; rfl
    · show _ = some (ad 44, eE dA ad zA 44 (1, 18, [])); rw [eEA44]; simp only [g44, k44]; rfl
    · show _ = some (ad 45, eE dA ad zA 45 (1, 18, [])); rw [eEA45]; simp only [g45, k45]; rfl
    · show _ = some (ad 46, eE dA ad zA 46 (0, 6, [50, 0])); rw [eEA46]; simp only [g46, g47]; rfl
    · show _ = some (ad 47, eE dA ad zA 47 (1, 1216, [])); rw [eEA47]; simp only [g47, k47]; rfl
  · refine allFrom_all ?_
    refine ⟨?_, ?_, ?_, ?_, ?_, ?_, ?_, ?_, ?_, ?_, ?_, ?_, ?_, ?_, ?_, ?_, ?_, ?_, ?_, ?_, ?_, ?_, ?_, ?_, ?_, ?_, ?_, ?_, ?_, ?_, ?_, ?_, ?_, ?_, ?_, ?_, ?_, ?_, ?_, ?_, ?_, ?_, ?_, ?_, ?_, ?_, ?_, ?_, trivial⟩
    · exact fun h0 => absurd rfl h0
    · exact fun _ => ⟨0, by show _ = some (dA 1, _); rw [k1]; rfl⟩
    · exact fun h0 => absurd rfl h0
    · exact fun h0 => absurd rfl h0
    · exact fun h0 => absurd rfl h0
    · exact fun h0 => absurd rfl h0
    · exact fun _ => ⟨26, by show _ = some (dA 6, _); rw [k6]; rfl⟩
    · exact fun _ => ⟨27, by show _ = some (dA 7, _); rw [k7]; rfl⟩
    · exact fun _ => ⟨28, by show _ = some (dA 8, _); rw [k8]; rfl⟩
    · exact fun _ => ⟨29, by show _ = some (dA 9, _); rw [k9]; rfl⟩
    · exact fun h0 => absurd rfl h0
    · exact fun _ => ⟨1, by show _ = some (dA 11, _); rw [k11]; rfl⟩
    · exact fun _ => ⟨2, by show _ = some (dA 12, _); rw [k12]; rfl⟩
    · exact fun _ => ⟨3, by show _ = some (dA 13, _); rw [k13]; rfl⟩
    · exact fun h0 => absurd rfl h0
    · exact fun _ => ⟨4, by show _ = some (dA 15, _); rw [k15]; rfl⟩
    · exact fun h0 => absurd rfl h0
    · exact fun _ => ⟨5, by show _ = some (dA 17, _); rw [k17]; rfl⟩
    · exact fun _ => ⟨6, by show _ = some (dA 18, _); rw [k18]; rfl⟩
    · exact fun _ => ⟨7, by show _ = some (dA 19, _); rw [k19]; rfl⟩
    · exact fun h0 => absurd rfl h0
    · exact fun _ => ⟨8, by show _ = some (dA 21, _); rw [k21]; rfl⟩
    · exact fun h0 => absurd rfl h0
    · exact fun _ => ⟨9, by show _ = some (dA 23, _); rw [k23]; rfl⟩
    · exact fun _ => ⟨10, by show _ = some (dA 24, _); rw [k24]; rfl⟩
    · exact fun h0 => absurd rfl h0
    · exact fun _ => ⟨11, by show _ = some (dA 26, _); rw [k26]; rfl⟩
    · exact fun _ => ⟨12, by show _ = some (dA 27, _); rw [k27]; rfl⟩
    · exact fun _ => ⟨13, by show _ = some (dA 28, _); rw [k28]; rfl⟩
    · exact fun _ => ⟨14, by show _ = some (dA 29, _); rw [k29]; rfl⟩
    · exact fun h0 => absurd rfl h0
    · exact fun h0 => absurd rfl h0
    · exact fun h0 => absurd rfl h0
    · exact fun h0 => absurd rfl h0
    · exact fun h0 => absurd rfl h0
    · exact fun _ => ⟨15, by show _ = some (dA 35, _); rw [k35]; rfl⟩
    · exact fun _ => ⟨16, by show _ = some (dA 36, _); rw [k36]; rfl⟩
    · exact fun _ => ⟨17, by show _ = some (dA 37, _); rw [k37]; rfl⟩
    · exact fun _ => ⟨18, by show _ = some (dA 38, _); rw [k38]; rfl⟩
    · exact fun _ => ⟨19, by show _ = some (dA 39, _); rw [k39]; rfl⟩
    · exact fun h0 => absurd rfl h0
    · exact fun _ => ⟨20, by show _ = some (dA 41, _); rw [k41]; rfl⟩
    · exact fun _ => ⟨21, by show _ = some (dA 42, _); rw [k42]; rfl⟩
    · exact fun _ => ⟨22, by show _ = some (dA 43, _); rw [k43]; rfl⟩
    · exact fun _ => ⟨23, by show _ = some (dA 44, _); rw [k44]; rfl⟩
    · exact fun _ => ⟨24, by show _ = some (dA 45, _); rw [k45]; rfl⟩
    · exact fun h0 => absurd rfl h0
    · exact fun _ => ⟨25, by show _ = some (dA 47, _); rw [k47]; rfl⟩
def fzB : Nat → Nat := fun c => ([0, 1, 2, 3, 4, 5, 6, 7, 8, 9, 10, 11, 12, 13, 14, 15, 16, 17, 18, 19, 20, 21, 22, 23] : List Nat).getD c 0
theorem fzB_inj : ∀ i, i < 24 → ∀ j, j < 24 → fzB i = fzB j → i = j := by decide +kernel
set_option maxRecDepth 100000 in
set_option maxHeartbeats 4000000 in
theorem zB_asm {hM : Nat} {w : va_W} {t : kT} (qM : Q_Mo hM w t) : ∃ (dA : Nat → ClassId) (ad : Nat → Nat), ad 0 = hM ∧ (∀ (c : Nat) (r : Nat × Nat × List Nat), shB[c]? = some r → w[fzB c]? = some (ad c, eE dA ad zB c r)) ∧ eTs shB dA t := by
  obtain ⟨Bq0, Bc0, Bq1, Bc1, Bq2, Bc2, Bq3, Bc3, Bq4, Bc4, Bq5, Bc5, Bq6, Bc6, Bq7, Bc7, Bq8, Bc8, Bq9, Bc9, Bq10, Bc10, Bq11, Bc11, Bq12, Bc12, Bq13, Bc13, Bq14, Bc14, Bq15, Bc15, Bq16, Bc16, Bq17, Bc17, Bq18, Bc18, Bq19, Bc19, Bq20, Bc20, Bq21, Bc21, Bq22, Bc22, e1_, e2_⟩ := qM
  subst e1_; subst e2_
  obtain ⟨ad, g0, g1, g2, g3, g4, g5, g6, g7, g8, g9, g10, g11, g12, g13, g14, g15, g16, g17, g18, g19, g20, g21, g22, g23⟩ : ∃ ad : Nat → Nat, ad 0 = hM ∧ ad 1 = Bq0 ∧ ad 2 = Bq1 ∧ ad 3 = Bq2 ∧ ad 4 = Bq3 ∧ ad 5 = Bq4 ∧ ad 6 = Bq5 ∧ ad 7 = Bq6 ∧ ad 8 = Bq7 ∧ ad 9 = Bq8 ∧ ad 10 = Bq9 ∧ ad 11 = Bq10 ∧ ad 12 = Bq11 ∧ ad 13 = Bq12 ∧ ad 14 = Bq13 ∧ ad 15 = Bq14 ∧ ad 16 = Bq15 ∧ ad 17 = Bq16 ∧ ad 18 = Bq17 ∧ ad 19 = Bq18 ∧ ad 20 = Bq19 ∧ ad 21 = Bq20 ∧ ad 22 = Bq21 ∧ ad 23 = Bq22 := ⟨fun c => [hM, Bq0, Bq1, Bq2, Bq3, Bq4, Bq5, Bq6, Bq7, Bq8, Bq9, Bq10, Bq11, Bq12, Bq13, Bq14, Bq15, Bq16, Bq17, Bq18, Bq19, Bq20, Bq21, Bq22].getD c 0, rfl, rfl, rfl, rfl, rfl, rfl, rfl, rfl, rfl, rfl, rfl, rfl, rfl, rfl, rfl, rfl, rfl, rfl, rfl, rfl, rfl, rfl, rfl, rfl⟩
  obtain ⟨dA, k1, k2, k3, k4, k5, k6, k7, k8, k9, k10, k11, k12, k13, k14, k15, k16, k17, k18, k19, k20, k21, k22, k23⟩ : ∃ dA : Nat → ClassId, dA 1 = Bc0 ∧ dA 2 = Bc1 ∧ dA 3 = Bc2 ∧ dA 4 = Bc3 ∧ dA 5 = Bc4 ∧ dA 6 = Bc5 ∧ dA 7 = Bc6 ∧ dA 8 = Bc7 ∧ dA 9 = Bc8 ∧ dA 10 = Bc9 ∧ dA 11 = Bc10 ∧ dA 12 = Bc11 ∧ dA 13 = Bc12 ∧ dA 14 = Bc13 ∧ dA 15 = Bc14 ∧ dA 16 = Bc15 ∧ dA 17 = Bc16 ∧ dA 18 = Bc17 ∧ dA 19 = Bc18 ∧ dA 20 = Bc19 ∧ dA 21 = Bc20 ∧ dA 22 = Bc21 ∧ dA 23 = Bc22 := ⟨fun c => [Bc0, Bc0, Bc1, Bc2, Bc3, Bc4, Bc5, Bc6, Bc7, Bc8, Bc9, Bc10, Bc11, Bc12, Bc13, Bc14, Bc15, Bc16, Bc17, Bc18, Bc19, Bc20, Bc21, Bc22].getD c Bc0, rfl, rfl, rfl, rfl, rfl, rfl, rfl, rfl, rfl, rfl, rfl, rfl, rfl, rfl, rfl, rfl, rfl, rfl, rfl, rfl, rfl, rfl, rfl⟩
  try simp only [List.nil_append, List.cons_append]
  refine ⟨dA, ad, g0, ?_, ?_⟩
  · refine allFrom_all ?_
    refine ⟨?_, ?_, ?_, ?_, ?_, ?_, ?_, ?_, ?_, ?_, ?_, ?_, ?_, ?_, ?_, ?_, ?_, ?_, ?_, ?_, ?_, ?_, ?_, ?_, trivial⟩
    · show _ = some (ad 0, eE dA ad zB 0 (0, 10, [4, 5, 6, 7, 1, 8, 0, 0, 0, 0, 0, 0, 0, 0, 0, 0, 9, 10, 0, 0, 11, 12, 0, 13, 14, 15, 16, 0, 0, 0, 0, 0, 17, 18, 19, 20, 21, 22, 23, 24, 25, 26, 0])); rw [eEB0]; simp only [g0, g1, g2, g3, g4, g5, g6, g7, g8, g9, g10, g11, g12, g13, g14, g15, g16, g17, g18, g19, g20, g21, g22, g23]; rfl
    · show _ = some (ad 1, eE dA ad zB 1 (1, 4, [])); rw [eEB1]; simp only [g1, k1]; rfl
    · show _ = some (ad 2, eE dA ad zB 2 (1, 4, [])); rw [eEB2]; simp only [g2, k2]; rfl
    · show _ = some (ad 3, eE dA ad zB 3 (1, 256, [])); rw [eEB3]; simp only [g3, k3]; rfl
    · show _ = some (ad 4, eE dA ad zB 4 (2, 64, [])); rw [eEB4]; simp only [g4, k4]; rfl
    · show _ = some (ad 5, eE dA ad zB 5 (1, 600, [])); rw [eEB5]; simp only [g5, k5]; rfl
    · show _ = some (ad 6, eE dA ad zB 6 (1, 64, [])); rw [eEB6]; simp only [g6, k6]; rfl
    · show _ = some (ad 7, eE dA ad zB 7 (1, 64, [])); rw [eEB7]; simp only [g7, k7]; rfl
    · show _ = some (ad 8, eE dA ad zB 8 (1, 16, [])); rw [eEB8]; simp only [g8, k8]; rfl
    · show _ = some (ad 9, eE dA ad zB 9 (1, 64, [])); rw [eEB9]; simp only [g9, k9]; rfl
    · show _ = some (ad 10, eE dA ad zB 10 (2, 256, [])); rw [eEB10]; simp only [g10, k10]; rfl
    · show _ = some (ad 11, eE dA ad zB 11 (1, 8, [])); rw [eEB11]; simp only [g11, k11]; rfl
    · show _ = some (ad 12, eE dA ad zB 12 (1, 64, [])); rw [eEB12]; simp only [g12, k12]; rfl
    · show _ = some (ad 13, eE dA ad zB 13 (1, 512, [])); rw [eEB13]; simp only [g13, k13]; rfl
    · show _ = some (ad 14, eE dA ad zB 14 (1, 64, [])); rw [eEB14]; simp only [g14, k14]; rfl
    · show _ = some (ad 15, eE dA ad zB 15 (1, 17, [])); rw [eEB15]; simp only [g15, k15]; rfl
    · show _ = some (ad 16, eE dA ad zB 16 (1, 17, [])); rw [eEB16]; simp only [g16, k16]; rfl
    · show _ = some (ad 17, eE dA ad zB 17 (1, 400, [])); rw [eEB17]; simp only [g17, k17]; rfl
    · show _ = some (ad 18, eE dA ad zB 18 (1, 20, [])); rw [eEB18]; simp only [g18, k18]; rfl
    · show _ = some (ad 19, eE dA ad zB 19 (1, 20, [])); rw [eEB19]; simp only [g19, k19]; rfl
    · show _ = some (ad 20, eE dA ad zB 20 (2, 256, [])); rw [eEB20]; simp only [g20, k20]; rfl
    · show _ = some (ad 21, eE dA ad zB 21 (3, 64, [])); rw [eEB21]; simp only [g21, k21]; rfl
    · show _ = some (ad 22, eE dA ad zB 22 (3, 64, [])); rw [eEB22]; simp only [g22, k22]; rfl
    · show _ = some (ad 23, eE dA ad zB 23 (1, 1400, [])); rw [eEB23]; simp only [g23, k23]; rfl
  · refine allFrom_all ?_
    refine ⟨?_, ?_, ?_, ?_, ?_, ?_, ?_, ?_, ?_, ?_, ?_, ?_, ?_, ?_, ?_, ?_, ?_, ?_, ?_, ?_, ?_, ?_, ?_, ?_, trivial⟩
    · exact fun h0 => absurd rfl h0
    · exact fun _ => ⟨0, by show _ = some (dA 1, _); rw [k1]; rfl⟩
    · exact fun _ => ⟨1, by show _ = some (dA 2, _); rw [k2]; rfl⟩
    · exact fun _ => ⟨2, by show _ = some (dA 3, _); rw [k3]; rfl⟩
    · exact fun _ => ⟨3, by show _ = some (dA 4, _); rw [k4]; rfl⟩
    · exact fun _ => ⟨4, by show _ = some (dA 5, _); rw [k5]; rfl⟩
    · exact fun _ => ⟨5, by show _ = some (dA 6, _); rw [k6]; rfl⟩
    · exact fun _ => ⟨6, by show _ = some (dA 7, _); rw [k7]; rfl⟩
    · exact fun _ => ⟨7, by show _ = some (dA 8, _); rw [k8]; rfl⟩
    · exact fun _ => ⟨8, by show _ = some (dA 9, _); rw [k9]; rfl⟩
    · exact fun _ => ⟨9, by show _ = some (dA 10, _); rw [k10]; rfl⟩
    · exact fun _ => ⟨10, by show _ = some (dA 11, _); rw [k11]; rfl⟩
    · exact fun _ => ⟨11, by show _ = some (dA 12, _); rw [k12]; rfl⟩
    · exact fun _ => ⟨12, by show _ = some (dA 13, _); rw [k13]; rfl⟩
    · exact fun _ => ⟨13, by show _ = some (dA 14, _); rw [k14]; rfl⟩
    · exact fun _ => ⟨14, by show _ = some (dA 15, _); rw [k15]; rfl⟩
    · exact fun _ => ⟨15, by show _ = some (dA 16, _); rw [k16]; rfl⟩
    · exact fun _ => ⟨16, by show _ = some (dA 17, _); rw [k17]; rfl⟩
    · exact fun _ => ⟨17, by show _ = some (dA 18, _); rw [k18]; rfl⟩
    · exact fun _ => ⟨18, by show _ = some (dA 19, _); rw [k19]; rfl⟩
    · exact fun _ => ⟨19, by show _ = some (dA 20, _); rw [k20]; rfl⟩
    · exact fun _ => ⟨20, by show _ = some (dA 21, _); rw [k21]; rfl⟩
    · exact fun _ => ⟨21, by show _ = some (dA 22, _); rw [k22]; rfl⟩
    · exact fun _ => ⟨22, by show _ = some (dA 23, _); rw [k23]; rfl⟩
