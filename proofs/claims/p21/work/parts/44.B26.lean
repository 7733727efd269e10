theorem bit_x : ∀ s : Fin 256, ∀ j : Fin 8, bt (s.val : Int) (j.val : Int) = true → 0 ≤ ixor (s.val : Int) (ishl 1 (j.val : Int)) ∧ ixor (s.val : Int) (ishl 1 (j.val : Int)) < (s.val : Int) := by decide +kernel
theorem bitX {s j : Int} (h1 : 0 ≤ s ∧ s < 256) (h2 : 0 ≤ j ∧ j < 8) (h : bt s j = true) : 0 ≤ ixor s (ishl 1 j) ∧ ixor s (ishl 1 j) < s := fin2 (P := fun s j => bt s j = true → 0 ≤ ixor s (ishl 1 j) ∧ ixor s (ishl 1 j) < s) bit_x h1.1 h1.2 h2.1 h2.2 h
theorem Qch.fr1 {σ σ' : eS} {n z : Int} {op : Int → Int → Prop} (h : Qch σ n op σ' z) : fr rgS σ σ' := by
  rcases h with q | q
  · exact q.2.2.mono (fun c k y => by simp only [rgS]; omega)
  · exact q.2.2.1.mono (fun c k y => by simp only [rgS]; omega)
