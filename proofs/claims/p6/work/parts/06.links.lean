theorem wd1 {w : Cond} (i : Nat) (h : nth tables_1_1 i = some w) (g : goodWord w = true) : w ∈ eTbl := eTbl_mk (List.mem_append_right _ (by unfold tables_1; exact List.mem_append_left _ (nth_mem h))) g
theorem wd2 {w : Cond} (i : Nat) (h : nth tables_1_2 i = some w) (g : goodWord w = true) : w ∈ eTbl := eTbl_mk (List.mem_append_right _ (by unfold tables_1; exact List.mem_append_right _ (List.mem_append_left _ (nth_mem h)))) g
theorem wd3 {w : Cond} (i : Nat) (h : nth tables_1_3 i = some w) (g : goodWord w = true) : w ∈ eTbl := eTbl_mk (List.mem_append_right _ (by unfold tables_1; exact List.mem_append_right _ (List.mem_append_right _ (List.mem_append_left _ (nth_mem h))))) g
theorem wd4 {w : Cond} (i : Nat) (h : nth tables_1_4 i = some w) (g : goodWord w = true) : w ∈ eTbl := eTbl_mk (List.mem_append_right _ (by unfold tables_1; exact List.mem_append_right _ (List.mem_append_right _ (List.mem_append_right _ (List.mem_append_left _ (nth_mem h)))))) g
theorem wd5 {w : Cond} (i : Nat) (h : nth tables_1_5 i = some w) (g : goodWord w = true) : w ∈ eTbl := eTbl_mk (List.mem_append_right _ (by unfold tables_1; exact List.mem_append_right _ (List.mem_append_right _ (List.mem_append_right _ (List.mem_append_right _ (List.mem_append_left _ (nth_mem h))))))) g
theorem wd6 {w : Cond} (i : Nat) (h : nth tables_1_6 i = some w) (g : goodWord w = true) : w ∈ eTbl := eTbl_mk (List.mem_append_right _ (by unfold tables_1; exact List.mem_append_right _ (List.mem_append_right _ (List.mem_append_right _ (List.mem_append_right _ (List.mem_append_right _ ((nth_mem h)))))))) g
theorem ws1 {y : MethodName} {n : Nat} (i : Nat) (h : nth lw_privs_1 i = some (y, n)) : Cond.selects y.cls y y ∈ eTbl := eTbl_mk (List.mem_append_left _ (List.mem_map.mpr ⟨(y, n), (by unfold lw_privs; exact List.mem_append_left _ (nth_mem h)), rfl⟩)) rfl
theorem ws2 {y : MethodName} {n : Nat} (i : Nat) (h : nth lw_privs_2 i = some (y, n)) : Cond.selects y.cls y y ∈ eTbl := eTbl_mk (List.mem_append_left _ (List.mem_map.mpr ⟨(y, n), (by unfold lw_privs; exact List.mem_append_right _ (List.mem_append_left _ (nth_mem h))), rfl⟩)) rfl
theorem ws3 {y : MethodName} {n : Nat} (i : Nat) (h : nth lw_privs_3 i = some (y, n)) : Cond.selects y.cls y y ∈ eTbl := eTbl_mk (List.mem_append_left _ (List.mem_map.mpr ⟨(y, n), (by unfold lw_privs; exact List.mem_append_right _ (List.mem_append_right _ (List.mem_append_left _ (nth_mem h)))), rfl⟩)) rfl
theorem ws4 {y : MethodName} {n : Nat} (i : Nat) (h : nth lw_privs_4 i = some (y, n)) : Cond.selects y.cls y y ∈ eTbl := eTbl_mk (List.mem_append_left _ (List.mem_map.mpr ⟨(y, n), (by unfold lw_privs; exact List.mem_append_right _ (List.mem_append_right _ (List.mem_append_right _ (List.mem_append_left _ (nth_mem h))))), rfl⟩)) rfl
theorem ws5 {y : MethodName} {n : Nat} (i : Nat) (h : nth lw_privs_5 i = some (y, n)) : Cond.selects y.cls y y ∈ eTbl := eTbl_mk (List.mem_append_left _ (List.mem_map.mpr ⟨(y, n), (by unfold lw_privs; exact List.mem_append_right _ (List.mem_append_right _ (List.mem_append_right _ (List.mem_append_right _ (List.mem_append_left _ (nth_mem h)))))), rfl⟩)) rfl
theorem ws6 {y : MethodName} {n : Nat} (i : Nat) (h : nth lw_privs_6 i = some (y, n)) : Cond.selects y.cls y y ∈ eTbl := eTbl_mk (List.mem_append_left _ (List.mem_map.mpr ⟨(y, n), (by unfold lw_privs; exact List.mem_append_right _ (List.mem_append_right _ (List.mem_append_right _ (List.mem_append_right _ (List.mem_append_right _ ((nth_mem h))))))), rfl⟩)) rfl
def eTyOf : List (Nat → FieldType) := [tyX0, tyX2, tyX3, tyX5, tyX6, tyX7, tyX8, tyX9, tyX10, tyX11, tyX12]
theorem eCl_in : ∀ {ci : Nat} {q : vw_C}, eCl[ci]? = some q → ∀ w ∈ u_ws q.1 q.2.1 q.2.2, w ∈ eTbl := by
  intro ci q hq
  match ci, hq with
  | 0, hq =>
    cases hq
    intro w hw
    obtain ⟨k, hk, rfl⟩ := List.mem_map.mp hw
    have hk : k < 4 := List.mem_range.mp hk
    match k, hk with
    | 0, _ => exact (wd1 94 rfl rfl)
    | 1, _ => exact (wd1 96 rfl rfl)
    | 2, _ => exact (wd1 98 rfl rfl)
    | 3, _ => exact (wd1 100 rfl rfl)
    | k + 4, h => exact absurd h (by omega)
  | 1, hq =>
    cases hq
    intro w hw
    obtain ⟨k, hk, rfl⟩ := List.mem_map.mp hw
    have hk : k < 1 := List.mem_range.mp hk
    match k, hk with
    | 0, _ => exact (wd1 77 rfl rfl)
    | k + 1, h => exact absurd h (by omega)
  | 2, hq =>
    cases hq
    intro w hw
    obtain ⟨k, hk, rfl⟩ := List.mem_map.mp hw
    have hk : k < 7 := List.mem_range.mp hk
    match k, hk with
    | 0, _ => exact (wd1 154 rfl rfl)
    | 1, _ => exact (wd1 156 rfl rfl)
    | 2, _ => exact (wd1 158 rfl rfl)
    | 3, _ => exact (wd1 160 rfl rfl)
    | 4, _ => exact (wd1 162 rfl rfl)
    | 5, _ => exact (wd1 164 rfl rfl)
    | 6, _ => exact (wd1 166 rfl rfl)
    | k + 7, h => exact absurd h (by omega)
  | 3, hq =>
    cases hq
    intro w hw
    obtain ⟨k, hk, rfl⟩ := List.mem_map.mp hw
    have hk : k < 6 := List.mem_range.mp hk
    match k, hk with
    | 0, _ => exact (wd1 120 rfl rfl)
    | 1, _ => exact (wd1 122 rfl rfl)
    | 2, _ => exact (wd1 124 rfl rfl)
    | 3, _ => exact (wd1 126 rfl rfl)
    | 4, _ => exact (wd1 128 rfl rfl)
    | 5, _ => exact (wd1 130 rfl rfl)
    | k + 6, h => exact absurd h (by omega)
  | 4, hq =>
    cases hq
    intro w hw
    obtain ⟨k, hk, rfl⟩ := List.mem_map.mp hw
    have hk : k < 5 := List.mem_range.mp hk
    match k, hk with
    | 0, _ => exact (wd1 205 rfl rfl)
    | 1, _ => exact (wd1 207 rfl rfl)
    | 2, _ => exact (wd1 209 rfl rfl)
    | 3, _ => exact (wd1 211 rfl rfl)
    | 4, _ => exact (wd1 213 rfl rfl)
    | k + 5, h => exact absurd h (by omega)
  | 5, hq =>
    cases hq
    intro w hw
    obtain ⟨k, hk, rfl⟩ := List.mem_map.mp hw
    have hk : k < 5 := List.mem_range.mp hk
    match k, hk with
    | 0, _ => exact (wd1 183 rfl rfl)
    | 1, _ => exact (wd1 185 rfl rfl)
    | 2, _ => exact (wd1 187 rfl rfl)
    | 3, _ => exact (wd1 189 rfl rfl)
    | 4, _ => exact (wd1 191 rfl rfl)
    | k + 5, h => exact absurd h (by omega)
  | 6, hq =>
    cases hq
    intro w hw
    obtain ⟨k, hk, rfl⟩ := List.mem_map.mp hw
    have hk : k < 2 := List.mem_range.mp hk
    match k, hk with
    | 0, _ => exact (wd1 226 rfl rfl)
    | 1, _ => exact (wd1 228 rfl rfl)
    | k + 2, h => exact absurd h (by omega)
  | 7, hq =>
    cases hq
    intro w hw
    obtain ⟨k, hk, rfl⟩ := List.mem_map.mp hw
    have hk : k < 9 := List.mem_range.mp hk
    match k, hk with
    | 0, _ => exact (wd2 31 rfl rfl)
    | 1, _ => exact (wd2 33 rfl rfl)
    | 2, _ => exact (wd2 35 rfl rfl)
    | 3, _ => exact (wd2 37 rfl rfl)
    | 4, _ => exact (wd2 39 rfl rfl)
    | 5, _ => exact (wd2 41 rfl rfl)
    | 6, _ => exact (wd2 43 rfl rfl)
    | 7, _ => exact (wd2 45 rfl rfl)
    | 8, _ => exact (wd2 47 rfl rfl)
    | k + 9, h => exact absurd h (by omega)
  | 8, hq =>
    cases hq
    intro w hw
    obtain ⟨k, hk, rfl⟩ := List.mem_map.mp hw
    have hk : k < 10 := List.mem_range.mp hk
    match k, hk with
    | 0, _ => exact (wd1 48 rfl rfl)
    | 1, _ => exact (wd1 50 rfl rfl)
    | 2, _ => exact (wd1 52 rfl rfl)
    | 3, _ => exact (wd1 54 rfl rfl)
    | 4, _ => exact (wd1 56 rfl rfl)
    | 5, _ => exact (wd1 58 rfl rfl)
    | 6, _ => exact (wd1 60 rfl rfl)
    | 7, _ => exact (wd1 62 rfl rfl)
    | 8, _ => exact (wd1 64 rfl rfl)
    | 9, _ => exact (wd1 66 rfl rfl)
    | k + 10, h => exact absurd h (by omega)
  | 9, hq =>
    cases hq
    intro w hw
    obtain ⟨k, hk, rfl⟩ := List.mem_map.mp hw
    have hk : k < 9 := List.mem_range.mp hk
    match k, hk with
    | 0, _ => exact (wd2 59 rfl rfl)
    | 1, _ => exact (wd2 61 rfl rfl)
    | 2, _ => exact (wd2 63 rfl rfl)
    | 3, _ => exact (wd2 65 rfl rfl)
    | 4, _ => exact (wd2 67 rfl rfl)
    | 5, _ => exact (wd2 69 rfl rfl)
    | 6, _ => exact (wd2 71 rfl rfl)
    | 7, _ => exact (wd2 73 rfl rfl)
    | 8, _ => exact (wd2 75 rfl rfl)
    | k + 9, h => exact absurd h (by omega)
  | 10, hq =>
    cases hq
    intro w hw
    obtain ⟨k, hk, rfl⟩ := List.mem_map.mp hw
    have hk : k < 43 := List.mem_range.mp hk
    match k, hk with
    | 0, _ => exact (wd5 34 rfl rfl)
    | 1, _ => exact (wd5 36 rfl rfl)
    | 2, _ => exact (wd5 38 rfl rfl)
    | 3, _ => exact (wd5 40 rfl rfl)
    | 4, _ => exact (wd5 42 rfl rfl)
    | 5, _ => exact (wd5 44 rfl rfl)
    | 6, _ => exact (wd5 46 rfl rfl)
    | 7, _ => exact (wd5 48 rfl rfl)
    | 8, _ => exact (wd5 50 rfl rfl)
    | 9, _ => exact (wd5 52 rfl rfl)
    | 10, _ => exact (wd5 54 rfl rfl)
    | 11, _ => exact (wd5 56 rfl rfl)
    | 12, _ => exact (wd5 58 rfl rfl)
    | 13, _ => exact (wd5 60 rfl rfl)
    | 14, _ => exact (wd5 62 rfl rfl)
    | 15, _ => exact (wd5 64 rfl rfl)
    | 16, _ => exact (wd5 66 rfl rfl)
    | 17, _ => exact (wd5 68 rfl rfl)
    | 18, _ => exact (wd5 70 rfl rfl)
    | 19, _ => exact (wd5 72 rfl rfl)
    | 20, _ => exact (wd5 74 rfl rfl)
    | 21, _ => exact (wd5 76 rfl rfl)
    | 22, _ => exact (wd5 78 rfl rfl)
    | 23, _ => exact (wd5 80 rfl rfl)
    | 24, _ => exact (wd5 82 rfl rfl)
    | 25, _ => exact (wd5 84 rfl rfl)
    | 26, _ => exact (wd5 86 rfl rfl)
    | 27, _ => exact (wd5 88 rfl rfl)
    | 28, _ => exact (wd5 90 rfl rfl)
    | 29, _ => exact (wd5 92 rfl rfl)
    | 30, _ => exact (wd5 94 rfl rfl)
    | 31, _ => exact (wd5 96 rfl rfl)
    | 32, _ => exact (wd5 98 rfl rfl)
    | 33, _ => exact (wd5 100 rfl rfl)
    | 34, _ => exact (wd5 102 rfl rfl)
    | 35, _ => exact (wd5 104 rfl rfl)
    | 36, _ => exact (wd5 106 rfl rfl)
    | 37, _ => exact (wd5 108 rfl rfl)
    | 38, _ => exact (wd5 110 rfl rfl)
    | 39, _ => exact (wd5 112 rfl rfl)
    | 40, _ => exact (wd5 114 rfl rfl)
    | 41, _ => exact (wd5 116 rfl rfl)
    | 42, _ => exact (wd5 118 rfl rfl)
    | k + 43, h => exact absurd h (by omega)
  | n + 11, hq => simp [eCl] at hq
theorem eCl_ty : ∀ ci, ci < 11 → ∀ q, eCl[ci]? = some q → ∀ k, k < q.2.2 → parseFieldDescriptor (q.2.1 k).2.2.1 = some ((eTyOf.getD ci (fun _ => .int)) k) := by
  intro ci h q hq
  match ci, h, hq with
  | 0, _, hq => cases hq; exact tyX0_ok
  | 1, _, hq => cases hq; exact tyX2_ok
  | 2, _, hq => cases hq; exact tyX3_ok
  | 3, _, hq => cases hq; exact tyX5_ok
  | 4, _, hq => cases hq; exact tyX6_ok
  | 5, _, hq => cases hq; exact tyX7_ok
  | 6, _, hq => cases hq; exact tyX8_ok
  | 7, _, hq => cases hq; exact tyX9_ok
  | 8, _, hq => cases hq; exact tyX10_ok
  | 9, _, hq => cases hq; exact tyX11_ok
  | 10, _, hq => cases hq; exact tyX12_ok
theorem eCl_nm : ∀ ci, ci < 11 → ∀ q, eCl[ci]? = some q → ∀ a, a < q.2.2 → ∀ b, b < q.2.2 → a ≠ b → (q.2.1 a).2.1 ≠ (q.2.1 b).2.1 := by
  intro ci h q hq
  match ci, h, hq with
  | 0, _, hq => cases hq; exact nmX0
  | 1, _, hq => cases hq; exact nmX2
  | 2, _, hq => cases hq; exact nmX3
  | 3, _, hq => cases hq; exact nmX5
  | 4, _, hq => cases hq; exact nmX6
  | 5, _, hq => cases hq; exact nmX7
  | 6, _, hq => cases hq; exact nmX8
  | 7, _, hq => cases hq; exact nmX9
  | 8, _, hq => cases hq; exact nmX10
  | 9, _, hq => cases hq; exact nmX11
  | 10, _, hq => cases hq; exact nmX12
def eFk (own : String) (x ci k : Nat) (kz : Int) : Prop := ∃ q : vw_C, eCl[ci]? = some q ∧ Cond.fieldLink own x (q.2.1 k).1 (q.2.1 k).2.1 (q.2.1 k).2.2.1 ∈ eTbl ∧ k < q.2.2 ∧ ci < 11 ∧ kz = (k : Int)
theorem fl_X0_9 : eFk RX0 9 0 0 0 := ⟨(RX0, TX0, 4), rfl, (wd1 87 rfl rfl), Nat.le_of_ble_eq_true rfl, Nat.le_of_ble_eq_true rfl, rfl⟩
theorem fl_X0_15 : eFk RX0 15 0 1 1 := ⟨(RX0, TX0, 4), rfl, (wd1 91 rfl rfl), Nat.le_of_ble_eq_true rfl, Nat.le_of_ble_eq_true rfl, rfl⟩
theorem fl_X0_19 : eFk RX0 19 0 2 2 := ⟨(RX0, TX0, 4), rfl, (wd1 92 rfl rfl), Nat.le_of_ble_eq_true rfl, Nat.le_of_ble_eq_true rfl, rfl⟩
theorem fl_X0_22 : eFk RX0 22 0 3 3 := ⟨(RX0, TX0, 4), rfl, (wd1 93 rfl rfl), Nat.le_of_ble_eq_true rfl, Nat.le_of_ble_eq_true rfl, rfl⟩
theorem fl_X10_11 : eFk RX10 11 8 0 0 := ⟨(RX10, TX10, 10), rfl, (wd1 35 rfl rfl), Nat.le_of_ble_eq_true rfl, Nat.le_of_ble_eq_true rfl, rfl⟩
theorem fl_X10_15 : eFk RX10 15 8 1 1 := ⟨(RX10, TX10, 10), rfl, (wd1 36 rfl rfl), Nat.le_of_ble_eq_true rfl, Nat.le_of_ble_eq_true rfl, rfl⟩
theorem fl_X10_18 : eFk RX10 18 8 2 2 := ⟨(RX10, TX10, 10), rfl, (wd1 37 rfl rfl), Nat.le_of_ble_eq_true rfl, Nat.le_of_ble_eq_true rfl, rfl⟩
theorem fl_X10_21 : eFk RX10 21 8 3 3 := ⟨(RX10, TX10, 10), rfl, (wd1 38 rfl rfl), Nat.le_of_ble_eq_true rfl, Nat.le_of_ble_eq_true rfl, rfl⟩
theorem fl_X10_25 : eFk RX10 25 8 4 4 := ⟨(RX10, TX10, 10), rfl, (wd1 40 rfl rfl), Nat.le_of_ble_eq_true rfl, Nat.le_of_ble_eq_true rfl, rfl⟩
theorem fl_X10_28 : eFk RX10 28 8 5 5 := ⟨(RX10, TX10, 10), rfl, (wd1 42 rfl rfl), Nat.le_of_ble_eq_true rfl, Nat.le_of_ble_eq_true rfl, rfl⟩
theorem fl_X10_31 : eFk RX10 31 8 6 6 := ⟨(RX10, TX10, 10), rfl, (wd1 44 rfl rfl), Nat.le_of_ble_eq_true rfl, Nat.le_of_ble_eq_true rfl, rfl⟩
theorem fl_X10_34 : eFk RX10 34 8 7 7 := ⟨(RX10, TX10, 10), rfl, (wd1 45 rfl rfl), Nat.le_of_ble_eq_true rfl, Nat.le_of_ble_eq_true rfl, rfl⟩
theorem fl_X10_37 : eFk RX10 37 8 8 8 := ⟨(RX10, TX10, 10), rfl, (wd1 46 rfl rfl), Nat.le_of_ble_eq_true rfl, Nat.le_of_ble_eq_true rfl, rfl⟩
theorem fl_X10_40 : eFk RX10 40 8 9 9 := ⟨(RX10, TX10, 10), rfl, (wd1 47 rfl rfl), Nat.le_of_ble_eq_true rfl, Nat.le_of_ble_eq_true rfl, rfl⟩
theorem fl_X10_53 : eFk RX10 53 7 1 1 := ⟨(RX9, TX9, 9), rfl, (wd2 7 rfl rfl), Nat.le_of_ble_eq_true rfl, Nat.le_of_ble_eq_true rfl, rfl⟩
theorem fl_X10_107 : eFk RX10 107 7 0 0 := ⟨(RX9, TX9, 9), rfl, (wd2 1 rfl rfl), Nat.le_of_ble_eq_true rfl, Nat.le_of_ble_eq_true rfl, rfl⟩
theorem fl_X11_11 : eFk RX11 11 9 0 0 := ⟨(RX11, TX11, 9), rfl, (wd2 50 rfl rfl), Nat.le_of_ble_eq_true rfl, Nat.le_of_ble_eq_true rfl, rfl⟩
theorem fl_X11_18 : eFk RX11 18 9 1 1 := ⟨(RX11, TX11, 9), rfl, (wd2 51 rfl rfl), Nat.le_of_ble_eq_true rfl, Nat.le_of_ble_eq_true rfl, rfl⟩
theorem fl_X11_25 : eFk RX11 25 9 2 2 := ⟨(RX11, TX11, 9), rfl, (wd2 52 rfl rfl), Nat.le_of_ble_eq_true rfl, Nat.le_of_ble_eq_true rfl, rfl⟩
theorem fl_X11_32 : eFk RX11 32 9 3 3 := ⟨(RX11, TX11, 9), rfl, (wd2 53 rfl rfl), Nat.le_of_ble_eq_true rfl, Nat.le_of_ble_eq_true rfl, rfl⟩
theorem fl_X11_41 : eFk RX11 41 9 4 4 := ⟨(RX11, TX11, 9), rfl, (wd2 54 rfl rfl), Nat.le_of_ble_eq_true rfl, Nat.le_of_ble_eq_true rfl, rfl⟩
theorem fl_X11_48 : eFk RX11 48 9 5 5 := ⟨(RX11, TX11, 9), rfl, (wd2 55 rfl rfl), Nat.le_of_ble_eq_true rfl, Nat.le_of_ble_eq_true rfl, rfl⟩
theorem fl_X11_55 : eFk RX11 55 9 6 6 := ⟨(RX11, TX11, 9), rfl, (wd2 56 rfl rfl), Nat.le_of_ble_eq_true rfl, Nat.le_of_ble_eq_true rfl, rfl⟩
theorem fl_X11_62 : eFk RX11 62 9 7 7 := ⟨(RX11, TX11, 9), rfl, (wd2 57 rfl rfl), Nat.le_of_ble_eq_true rfl, Nat.le_of_ble_eq_true rfl, rfl⟩
theorem fl_X11_69 : eFk RX11 69 9 8 8 := ⟨(RX11, TX11, 9), rfl, (wd2 58 rfl rfl), Nat.le_of_ble_eq_true rfl, Nat.le_of_ble_eq_true rfl, rfl⟩
theorem fl_X11_82 : eFk RX11 82 8 3 3 := ⟨(RX10, TX10, 10), rfl, (wd1 39 rfl rfl), Nat.le_of_ble_eq_true rfl, Nat.le_of_ble_eq_true rfl, rfl⟩
theorem fl_X11_97 : eFk RX11 97 8 4 4 := ⟨(RX10, TX10, 10), rfl, (wd1 41 rfl rfl), Nat.le_of_ble_eq_true rfl, Nat.le_of_ble_eq_true rfl, rfl⟩
theorem fl_X11_100 : eFk RX11 100 8 5 5 := ⟨(RX10, TX10, 10), rfl, (wd1 43 rfl rfl), Nat.le_of_ble_eq_true rfl, Nat.le_of_ble_eq_true rfl, rfl⟩
theorem fl_X11_103 : eFk RX11 103 7 1 1 := ⟨(RX9, TX9, 9), rfl, (wd2 8 rfl rfl), Nat.le_of_ble_eq_true rfl, Nat.le_of_ble_eq_true rfl, rfl⟩
theorem fl_X11_106 : eFk RX11 106 7 2 2 := ⟨(RX9, TX9, 9), rfl, (wd2 12 rfl rfl), Nat.le_of_ble_eq_true rfl, Nat.le_of_ble_eq_true rfl, rfl⟩
theorem fl_X11_109 : eFk RX11 109 7 3 3 := ⟨(RX9, TX9, 9), rfl, (wd2 15 rfl rfl), Nat.le_of_ble_eq_true rfl, Nat.le_of_ble_eq_true rfl, rfl⟩
theorem fl_X11_133 : eFk RX11 133 7 0 0 := ⟨(RX9, TX9, 9), rfl, (wd2 0 rfl rfl), Nat.le_of_ble_eq_true rfl, Nat.le_of_ble_eq_true rfl, rfl⟩
theorem fl_X11_191 : eFk RX11 191 2 0 0 := ⟨(RX3, TX3, 7), rfl, (wd1 141 rfl rfl), Nat.le_of_ble_eq_true rfl, Nat.le_of_ble_eq_true rfl, rfl⟩
theorem fl_X11_227 : eFk RX11 227 0 0 0 := ⟨(RX0, TX0, 4), rfl, (wd1 90 rfl rfl), Nat.le_of_ble_eq_true rfl, Nat.le_of_ble_eq_true rfl, rfl⟩
theorem fl_X11_247 : eFk RX11 247 7 6 6 := ⟨(RX9, TX9, 9), rfl, (wd2 24 rfl rfl), Nat.le_of_ble_eq_true rfl, Nat.le_of_ble_eq_true rfl, rfl⟩
theorem fl_X11_254 : eFk RX11 254 7 7 7 := ⟨(RX9, TX9, 9), rfl, (wd2 27 rfl rfl), Nat.le_of_ble_eq_true rfl, Nat.le_of_ble_eq_true rfl, rfl⟩
theorem fl_X11_257 : eFk RX11 257 7 8 8 := ⟨(RX9, TX9, 9), rfl, (wd2 30 rfl rfl), Nat.le_of_ble_eq_true rfl, Nat.le_of_ble_eq_true rfl, rfl⟩
theorem fl_X11_260 : eFk RX11 260 7 4 4 := ⟨(RX9, TX9, 9), rfl, (wd2 18 rfl rfl), Nat.le_of_ble_eq_true rfl, Nat.le_of_ble_eq_true rfl, rfl⟩
theorem fl_X11_266 : eFk RX11 266 7 5 5 := ⟨(RX9, TX9, 9), rfl, (wd2 21 rfl rfl), Nat.le_of_ble_eq_true rfl, Nat.le_of_ble_eq_true rfl, rfl⟩
theorem fl_X11_290 : eFk RX11 290 6 1 1 := ⟨(RX8, TX8, 2), rfl, (wd1 225 rfl rfl), Nat.le_of_ble_eq_true rfl, Nat.le_of_ble_eq_true rfl, rfl⟩
theorem fl_X11_291 : eFk RX11 291 6 0 0 := ⟨(RX8, TX8, 2), rfl, (wd1 223 rfl rfl), Nat.le_of_ble_eq_true rfl, Nat.le_of_ble_eq_true rfl, rfl⟩
theorem fl_X11_297 : eFk RX11 297 3 3 3 := ⟨(RX5, TX5, 6), rfl, (wd1 114 rfl rfl), Nat.le_of_ble_eq_true rfl, Nat.le_of_ble_eq_true rfl, rfl⟩
theorem fl_X11_315 : eFk RX11 315 2 2 2 := ⟨(RX3, TX3, 7), rfl, (wd1 144 rfl rfl), Nat.le_of_ble_eq_true rfl, Nat.le_of_ble_eq_true rfl, rfl⟩
theorem fl_X11_318 : eFk RX11 318 2 5 5 := ⟨(RX3, TX3, 7), rfl, (wd1 151 rfl rfl), Nat.le_of_ble_eq_true rfl, Nat.le_of_ble_eq_true rfl, rfl⟩
theorem fl_X11_321 : eFk RX11 321 2 6 6 := ⟨(RX3, TX3, 7), rfl, (wd1 153 rfl rfl), Nat.le_of_ble_eq_true rfl, Nat.le_of_ble_eq_true rfl, rfl⟩
theorem fl_X11_324 : eFk RX11 324 2 3 3 := ⟨(RX3, TX3, 7), rfl, (wd1 146 rfl rfl), Nat.le_of_ble_eq_true rfl, Nat.le_of_ble_eq_true rfl, rfl⟩
theorem fl_X11_328 : eFk RX11 328 3 5 5 := ⟨(RX5, TX5, 6), rfl, (wd1 119 rfl rfl), Nat.le_of_ble_eq_true rfl, Nat.le_of_ble_eq_true rfl, rfl⟩
theorem fl_X12_7 : eFk RX12 7 10 0 0 := ⟨(RX12, TX12, 43), rfl, (wd4 231 rfl rfl), Nat.le_of_ble_eq_true rfl, Nat.le_of_ble_eq_true rfl, rfl⟩
theorem fl_X12_13 : eFk RX12 13 10 1 1 := ⟨(RX12, TX12, 43), rfl, (wd4 232 rfl rfl), Nat.le_of_ble_eq_true rfl, Nat.le_of_ble_eq_true rfl, rfl⟩
theorem fl_X12_16 : eFk RX12 16 10 2 2 := ⟨(RX12, TX12, 43), rfl, (wd4 233 rfl rfl), Nat.le_of_ble_eq_true rfl, Nat.le_of_ble_eq_true rfl, rfl⟩
theorem fl_X12_19 : eFk RX12 19 10 3 3 := ⟨(RX12, TX12, 43), rfl, (wd4 234 rfl rfl), Nat.le_of_ble_eq_true rfl, Nat.le_of_ble_eq_true rfl, rfl⟩
theorem fl_X12_23 : eFk RX12 23 10 5 5 := ⟨(RX12, TX12, 43), rfl, (wd4 236 rfl rfl), Nat.le_of_ble_eq_true rfl, Nat.le_of_ble_eq_true rfl, rfl⟩
theorem fl_X12_26 : eFk RX12 26 10 8 8 := ⟨(RX12, TX12, 43), rfl, (wd4 239 rfl rfl), Nat.le_of_ble_eq_true rfl, Nat.le_of_ble_eq_true rfl, rfl⟩
theorem fl_X12_30 : eFk RX12 30 10 16 16 := ⟨(RX12, TX12, 43), rfl, (wd5 7 rfl rfl), Nat.le_of_ble_eq_true rfl, Nat.le_of_ble_eq_true rfl, rfl⟩
theorem fl_X12_33 : eFk RX12 33 10 17 17 := ⟨(RX12, TX12, 43), rfl, (wd5 8 rfl rfl), Nat.le_of_ble_eq_true rfl, Nat.le_of_ble_eq_true rfl, rfl⟩
theorem fl_X12_36 : eFk RX12 36 10 20 20 := ⟨(RX12, TX12, 43), rfl, (wd5 11 rfl rfl), Nat.le_of_ble_eq_true rfl, Nat.le_of_ble_eq_true rfl, rfl⟩
theorem fl_X12_39 : eFk RX12 39 10 21 21 := ⟨(RX12, TX12, 43), rfl, (wd5 12 rfl rfl), Nat.le_of_ble_eq_true rfl, Nat.le_of_ble_eq_true rfl, rfl⟩
theorem fl_X12_42 : eFk RX12 42 10 23 23 := ⟨(RX12, TX12, 43), rfl, (wd5 14 rfl rfl), Nat.le_of_ble_eq_true rfl, Nat.le_of_ble_eq_true rfl, rfl⟩
theorem fl_X12_45 : eFk RX12 45 10 24 24 := ⟨(RX12, TX12, 43), rfl, (wd5 15 rfl rfl), Nat.le_of_ble_eq_true rfl, Nat.le_of_ble_eq_true rfl, rfl⟩
theorem fl_X12_48 : eFk RX12 48 10 25 25 := ⟨(RX12, TX12, 43), rfl, (wd5 16 rfl rfl), Nat.le_of_ble_eq_true rfl, Nat.le_of_ble_eq_true rfl, rfl⟩
theorem fl_X12_51 : eFk RX12 51 10 26 26 := ⟨(RX12, TX12, 43), rfl, (wd5 17 rfl rfl), Nat.le_of_ble_eq_true rfl, Nat.le_of_ble_eq_true rfl, rfl⟩
theorem fl_X12_54 : eFk RX12 54 10 32 32 := ⟨(RX12, TX12, 43), rfl, (wd5 23 rfl rfl), Nat.le_of_ble_eq_true rfl, Nat.le_of_ble_eq_true rfl, rfl⟩
theorem fl_X12_57 : eFk RX12 57 10 33 33 := ⟨(RX12, TX12, 43), rfl, (wd5 24 rfl rfl), Nat.le_of_ble_eq_true rfl, Nat.le_of_ble_eq_true rfl, rfl⟩
theorem fl_X12_60 : eFk RX12 60 10 34 34 := ⟨(RX12, TX12, 43), rfl, (wd5 25 rfl rfl), Nat.le_of_ble_eq_true rfl, Nat.le_of_ble_eq_true rfl, rfl⟩
theorem fl_X12_63 : eFk RX12 63 10 35 35 := ⟨(RX12, TX12, 43), rfl, (wd5 26 rfl rfl), Nat.le_of_ble_eq_true rfl, Nat.le_of_ble_eq_true rfl, rfl⟩
theorem fl_X12_66 : eFk RX12 66 10 36 36 := ⟨(RX12, TX12, 43), rfl, (wd5 27 rfl rfl), Nat.le_of_ble_eq_true rfl, Nat.le_of_ble_eq_true rfl, rfl⟩
theorem fl_X12_69 : eFk RX12 69 10 37 37 := ⟨(RX12, TX12, 43), rfl, (wd5 28 rfl rfl), Nat.le_of_ble_eq_true rfl, Nat.le_of_ble_eq_true rfl, rfl⟩
theorem fl_X12_72 : eFk RX12 72 10 38 38 := ⟨(RX12, TX12, 43), rfl, (wd5 29 rfl rfl), Nat.le_of_ble_eq_true rfl, Nat.le_of_ble_eq_true rfl, rfl⟩
theorem fl_X12_75 : eFk RX12 75 10 39 39 := ⟨(RX12, TX12, 43), rfl, (wd5 30 rfl rfl), Nat.le_of_ble_eq_true rfl, Nat.le_of_ble_eq_true rfl, rfl⟩
theorem fl_X12_79 : eFk RX12 79 10 40 40 := ⟨(RX12, TX12, 43), rfl, (wd5 31 rfl rfl), Nat.le_of_ble_eq_true rfl, Nat.le_of_ble_eq_true rfl, rfl⟩
theorem fl_X12_82 : eFk RX12 82 10 41 41 := ⟨(RX12, TX12, 43), rfl, (wd5 32 rfl rfl), Nat.le_of_ble_eq_true rfl, Nat.le_of_ble_eq_true rfl, rfl⟩
theorem fl_X12_85 : eFk RX12 85 10 4 4 := ⟨(RX12, TX12, 43), rfl, (wd4 235 rfl rfl), Nat.le_of_ble_eq_true rfl, Nat.le_of_ble_eq_true rfl, rfl⟩
theorem fl_X12_125 : eFk RX12 125 10 6 6 := ⟨(RX12, TX12, 43), rfl, (wd4 237 rfl rfl), Nat.le_of_ble_eq_true rfl, Nat.le_of_ble_eq_true rfl, rfl⟩
theorem fl_X12_132 : eFk RX12 132 10 13 13 := ⟨(RX12, TX12, 43), rfl, (wd5 4 rfl rfl), Nat.le_of_ble_eq_true rfl, Nat.le_of_ble_eq_true rfl, rfl⟩
theorem fl_X12_138 : eFk RX12 138 10 12 12 := ⟨(RX12, TX12, 43), rfl, (wd5 3 rfl rfl), Nat.le_of_ble_eq_true rfl, Nat.le_of_ble_eq_true rfl, rfl⟩
theorem fl_X12_141 : eFk RX12 141 10 14 14 := ⟨(RX12, TX12, 43), rfl, (wd5 5 rfl rfl), Nat.le_of_ble_eq_true rfl, Nat.le_of_ble_eq_true rfl, rfl⟩
theorem fl_X12_144 : eFk RX12 144 10 15 15 := ⟨(RX12, TX12, 43), rfl, (wd5 6 rfl rfl), Nat.le_of_ble_eq_true rfl, Nat.le_of_ble_eq_true rfl, rfl⟩
theorem fl_X12_147 : eFk RX12 147 10 11 11 := ⟨(RX12, TX12, 43), rfl, (wd5 2 rfl rfl), Nat.le_of_ble_eq_true rfl, Nat.le_of_ble_eq_true rfl, rfl⟩
theorem fl_X12_154 : eFk RX12 154 10 9 9 := ⟨(RX12, TX12, 43), rfl, (wd5 0 rfl rfl), Nat.le_of_ble_eq_true rfl, Nat.le_of_ble_eq_true rfl, rfl⟩
theorem fl_X12_157 : eFk RX12 157 10 10 10 := ⟨(RX12, TX12, 43), rfl, (wd5 1 rfl rfl), Nat.le_of_ble_eq_true rfl, Nat.le_of_ble_eq_true rfl, rfl⟩
theorem fl_X12_167 : eFk RX12 167 10 18 18 := ⟨(RX12, TX12, 43), rfl, (wd5 9 rfl rfl), Nat.le_of_ble_eq_true rfl, Nat.le_of_ble_eq_true rfl, rfl⟩
theorem fl_X12_170 : eFk RX12 170 10 19 19 := ⟨(RX12, TX12, 43), rfl, (wd5 10 rfl rfl), Nat.le_of_ble_eq_true rfl, Nat.le_of_ble_eq_true rfl, rfl⟩
theorem fl_X12_189 : eFk RX12 189 10 7 7 := ⟨(RX12, TX12, 43), rfl, (wd4 238 rfl rfl), Nat.le_of_ble_eq_true rfl, Nat.le_of_ble_eq_true rfl, rfl⟩
theorem fl_X12_234 : eFk RX12 234 10 22 22 := ⟨(RX12, TX12, 43), rfl, (wd5 13 rfl rfl), Nat.le_of_ble_eq_true rfl, Nat.le_of_ble_eq_true rfl, rfl⟩
theorem fl_X12_273 : eFk RX12 273 10 27 27 := ⟨(RX12, TX12, 43), rfl, (wd5 18 rfl rfl), Nat.le_of_ble_eq_true rfl, Nat.le_of_ble_eq_true rfl, rfl⟩
theorem fl_X12_276 : eFk RX12 276 10 28 28 := ⟨(RX12, TX12, 43), rfl, (wd5 19 rfl rfl), Nat.le_of_ble_eq_true rfl, Nat.le_of_ble_eq_true rfl, rfl⟩
theorem fl_X12_279 : eFk RX12 279 10 29 29 := ⟨(RX12, TX12, 43), rfl, (wd5 20 rfl rfl), Nat.le_of_ble_eq_true rfl, Nat.le_of_ble_eq_true rfl, rfl⟩
theorem fl_X12_282 : eFk RX12 282 10 30 30 := ⟨(RX12, TX12, 43), rfl, (wd5 21 rfl rfl), Nat.le_of_ble_eq_true rfl, Nat.le_of_ble_eq_true rfl, rfl⟩
theorem fl_X12_357 : eFk RX12 357 10 42 42 := ⟨(RX12, TX12, 43), rfl, (wd5 33 rfl rfl), Nat.le_of_ble_eq_true rfl, Nat.le_of_ble_eq_true rfl, rfl⟩
theorem fl_X12_363 : eFk RX12 363 10 31 31 := ⟨(RX12, TX12, 43), rfl, (wd5 22 rfl rfl), Nat.le_of_ble_eq_true rfl, Nat.le_of_ble_eq_true rfl, rfl⟩
theorem fl_X2_9 : eFk RX2 9 1 0 0 := ⟨(RX2, TX2, 1), rfl, (wd1 76 rfl rfl), Nat.le_of_ble_eq_true rfl, Nat.le_of_ble_eq_true rfl, rfl⟩
theorem fl_X2_15 : eFk RX2 15 7 2 2 := ⟨(RX9, TX9, 9), rfl, (wd2 10 rfl rfl), Nat.le_of_ble_eq_true rfl, Nat.le_of_ble_eq_true rfl, rfl⟩
theorem fl_X2_31 : eFk RX2 31 7 1 1 := ⟨(RX9, TX9, 9), rfl, (wd2 5 rfl rfl), Nat.le_of_ble_eq_true rfl, Nat.le_of_ble_eq_true rfl, rfl⟩
theorem fl_X2_34 : eFk RX2 34 7 0 0 := ⟨(RX9, TX9, 9), rfl, (wd1 238 rfl rfl), Nat.le_of_ble_eq_true rfl, Nat.le_of_ble_eq_true rfl, rfl⟩
theorem fl_X3_9 : eFk RX3 9 2 0 0 := ⟨(RX3, TX3, 7), rfl, (wd1 139 rfl rfl), Nat.le_of_ble_eq_true rfl, Nat.le_of_ble_eq_true rfl, rfl⟩
theorem fl_X3_15 : eFk RX3 15 2 1 1 := ⟨(RX3, TX3, 7), rfl, (wd1 142 rfl rfl), Nat.le_of_ble_eq_true rfl, Nat.le_of_ble_eq_true rfl, rfl⟩
theorem fl_X3_18 : eFk RX3 18 2 2 2 := ⟨(RX3, TX3, 7), rfl, (wd1 143 rfl rfl), Nat.le_of_ble_eq_true rfl, Nat.le_of_ble_eq_true rfl, rfl⟩
theorem fl_X3_22 : eFk RX3 22 2 3 3 := ⟨(RX3, TX3, 7), rfl, (wd1 145 rfl rfl), Nat.le_of_ble_eq_true rfl, Nat.le_of_ble_eq_true rfl, rfl⟩
theorem fl_X3_25 : eFk RX3 25 2 4 4 := ⟨(RX3, TX3, 7), rfl, (wd1 147 rfl rfl), Nat.le_of_ble_eq_true rfl, Nat.le_of_ble_eq_true rfl, rfl⟩
theorem fl_X3_28 : eFk RX3 28 2 5 5 := ⟨(RX3, TX3, 7), rfl, (wd1 149 rfl rfl), Nat.le_of_ble_eq_true rfl, Nat.le_of_ble_eq_true rfl, rfl⟩
theorem fl_X3_31 : eFk RX3 31 2 6 6 := ⟨(RX3, TX3, 7), rfl, (wd1 152 rfl rfl), Nat.le_of_ble_eq_true rfl, Nat.le_of_ble_eq_true rfl, rfl⟩
theorem fl_X5_9 : eFk RX5 9 3 1 1 := ⟨(RX5, TX5, 6), rfl, (wd1 110 rfl rfl), Nat.le_of_ble_eq_true rfl, Nat.le_of_ble_eq_true rfl, rfl⟩
theorem fl_X5_15 : eFk RX5 15 3 2 2 := ⟨(RX5, TX5, 6), rfl, (wd1 111 rfl rfl), Nat.le_of_ble_eq_true rfl, Nat.le_of_ble_eq_true rfl, rfl⟩
theorem fl_X5_19 : eFk RX5 19 3 3 3 := ⟨(RX5, TX5, 6), rfl, (wd1 112 rfl rfl), Nat.le_of_ble_eq_true rfl, Nat.le_of_ble_eq_true rfl, rfl⟩
theorem fl_X5_22 : eFk RX5 22 3 4 4 := ⟨(RX5, TX5, 6), rfl, (wd1 115 rfl rfl), Nat.le_of_ble_eq_true rfl, Nat.le_of_ble_eq_true rfl, rfl⟩
theorem fl_X5_25 : eFk RX5 25 3 5 5 := ⟨(RX5, TX5, 6), rfl, (wd1 117 rfl rfl), Nat.le_of_ble_eq_true rfl, Nat.le_of_ble_eq_true rfl, rfl⟩
theorem fl_X5_28 : eFk RX5 28 3 0 0 := ⟨(RX5, TX5, 6), rfl, (wd1 109 rfl rfl), Nat.le_of_ble_eq_true rfl, Nat.le_of_ble_eq_true rfl, rfl⟩
theorem fl_X5_32 : eFk RX5 32 7 0 0 := ⟨(RX9, TX9, 9), rfl, (wd1 237 rfl rfl), Nat.le_of_ble_eq_true rfl, Nat.le_of_ble_eq_true rfl, rfl⟩
theorem fl_X5_41 : eFk RX5 41 7 1 1 := ⟨(RX9, TX9, 9), rfl, (wd2 4 rfl rfl), Nat.le_of_ble_eq_true rfl, Nat.le_of_ble_eq_true rfl, rfl⟩
theorem fl_X5_42 : eFk RX5 42 7 3 3 := ⟨(RX9, TX9, 9), rfl, (wd2 14 rfl rfl), Nat.le_of_ble_eq_true rfl, Nat.le_of_ble_eq_true rfl, rfl⟩
theorem fl_X5_66 : eFk RX5 66 0 0 0 := ⟨(RX0, TX0, 4), rfl, (wd1 88 rfl rfl), Nat.le_of_ble_eq_true rfl, Nat.le_of_ble_eq_true rfl, rfl⟩
theorem fl_X6_11 : eFk RX6 11 4 0 0 := ⟨(RX6, TX6, 5), rfl, (wd1 200 rfl rfl), Nat.le_of_ble_eq_true rfl, Nat.le_of_ble_eq_true rfl, rfl⟩
theorem fl_X6_15 : eFk RX6 15 4 1 1 := ⟨(RX6, TX6, 5), rfl, (wd1 201 rfl rfl), Nat.le_of_ble_eq_true rfl, Nat.le_of_ble_eq_true rfl, rfl⟩
theorem fl_X6_18 : eFk RX6 18 4 2 2 := ⟨(RX6, TX6, 5), rfl, (wd1 202 rfl rfl), Nat.le_of_ble_eq_true rfl, Nat.le_of_ble_eq_true rfl, rfl⟩
theorem fl_X6_21 : eFk RX6 21 4 3 3 := ⟨(RX6, TX6, 5), rfl, (wd1 203 rfl rfl), Nat.le_of_ble_eq_true rfl, Nat.le_of_ble_eq_true rfl, rfl⟩
theorem fl_X6_24 : eFk RX6 24 4 4 4 := ⟨(RX6, TX6, 5), rfl, (wd1 204 rfl rfl), Nat.le_of_ble_eq_true rfl, Nat.le_of_ble_eq_true rfl, rfl⟩
theorem fl_X6_31 : eFk RX6 31 7 1 1 := ⟨(RX9, TX9, 9), rfl, (wd2 3 rfl rfl), Nat.le_of_ble_eq_true rfl, Nat.le_of_ble_eq_true rfl, rfl⟩
theorem fl_X6_45 : eFk RX6 45 7 5 5 := ⟨(RX9, TX9, 9), rfl, (wd2 20 rfl rfl), Nat.le_of_ble_eq_true rfl, Nat.le_of_ble_eq_true rfl, rfl⟩
theorem fl_X6_49 : eFk RX6 49 7 4 4 := ⟨(RX9, TX9, 9), rfl, (wd2 17 rfl rfl), Nat.le_of_ble_eq_true rfl, Nat.le_of_ble_eq_true rfl, rfl⟩
theorem fl_X6_59 : eFk RX6 59 7 0 0 := ⟨(RX9, TX9, 9), rfl, (wd1 239 rfl rfl), Nat.le_of_ble_eq_true rfl, Nat.le_of_ble_eq_true rfl, rfl⟩
theorem fl_X6_62 : eFk RX6 62 7 2 2 := ⟨(RX9, TX9, 9), rfl, (wd2 11 rfl rfl), Nat.le_of_ble_eq_true rfl, Nat.le_of_ble_eq_true rfl, rfl⟩
theorem fl_X7_13 : eFk RX7 13 5 1 1 := ⟨(RX7, TX7, 5), rfl, (wd1 179 rfl rfl), Nat.le_of_ble_eq_true rfl, Nat.le_of_ble_eq_true rfl, rfl⟩
theorem fl_X7_17 : eFk RX7 17 5 2 2 := ⟨(RX7, TX7, 5), rfl, (wd1 180 rfl rfl), Nat.le_of_ble_eq_true rfl, Nat.le_of_ble_eq_true rfl, rfl⟩
theorem fl_X7_21 : eFk RX7 21 5 3 3 := ⟨(RX7, TX7, 5), rfl, (wd1 181 rfl rfl), Nat.le_of_ble_eq_true rfl, Nat.le_of_ble_eq_true rfl, rfl⟩
theorem fl_X7_24 : eFk RX7 24 5 4 4 := ⟨(RX7, TX7, 5), rfl, (wd1 182 rfl rfl), Nat.le_of_ble_eq_true rfl, Nat.le_of_ble_eq_true rfl, rfl⟩
theorem fl_X7_27 : eFk RX7 27 5 0 0 := ⟨(RX7, TX7, 5), rfl, (wd1 178 rfl rfl), Nat.le_of_ble_eq_true rfl, Nat.le_of_ble_eq_true rfl, rfl⟩
theorem fl_X7_34 : eFk RX7 34 7 7 7 := ⟨(RX9, TX9, 9), rfl, (wd2 26 rfl rfl), Nat.le_of_ble_eq_true rfl, Nat.le_of_ble_eq_true rfl, rfl⟩
theorem fl_X7_52 : eFk RX7 52 7 6 6 := ⟨(RX9, TX9, 9), rfl, (wd2 23 rfl rfl), Nat.le_of_ble_eq_true rfl, Nat.le_of_ble_eq_true rfl, rfl⟩
theorem fl_X7_60 : eFk RX7 60 3 3 3 := ⟨(RX5, TX5, 6), rfl, (wd1 113 rfl rfl), Nat.le_of_ble_eq_true rfl, Nat.le_of_ble_eq_true rfl, rfl⟩
theorem fl_X7_71 : eFk RX7 71 3 4 4 := ⟨(RX5, TX5, 6), rfl, (wd1 116 rfl rfl), Nat.le_of_ble_eq_true rfl, Nat.le_of_ble_eq_true rfl, rfl⟩
theorem fl_X7_74 : eFk RX7 74 7 8 8 := ⟨(RX9, TX9, 9), rfl, (wd2 29 rfl rfl), Nat.le_of_ble_eq_true rfl, Nat.le_of_ble_eq_true rfl, rfl⟩
theorem fl_X7_83 : eFk RX7 83 3 5 5 := ⟨(RX5, TX5, 6), rfl, (wd1 118 rfl rfl), Nat.le_of_ble_eq_true rfl, Nat.le_of_ble_eq_true rfl, rfl⟩
theorem fl_X7_89 : eFk RX7 89 7 1 1 := ⟨(RX9, TX9, 9), rfl, (wd2 6 rfl rfl), Nat.le_of_ble_eq_true rfl, Nat.le_of_ble_eq_true rfl, rfl⟩
theorem fl_X7_106 : eFk RX7 106 0 0 0 := ⟨(RX0, TX0, 4), rfl, (wd1 89 rfl rfl), Nat.le_of_ble_eq_true rfl, Nat.le_of_ble_eq_true rfl, rfl⟩
theorem fl_X8_11 : eFk RX8 11 6 0 0 := ⟨(RX8, TX8, 2), rfl, (wd1 222 rfl rfl), Nat.le_of_ble_eq_true rfl, Nat.le_of_ble_eq_true rfl, rfl⟩
theorem fl_X8_15 : eFk RX8 15 6 1 1 := ⟨(RX8, TX8, 2), rfl, (wd1 224 rfl rfl), Nat.le_of_ble_eq_true rfl, Nat.le_of_ble_eq_true rfl, rfl⟩
theorem fl_X8_19 : eFk RX8 19 2 5 5 := ⟨(RX3, TX3, 7), rfl, (wd1 150 rfl rfl), Nat.le_of_ble_eq_true rfl, Nat.le_of_ble_eq_true rfl, rfl⟩
theorem fl_X8_24 : eFk RX8 24 2 0 0 := ⟨(RX3, TX3, 7), rfl, (wd1 140 rfl rfl), Nat.le_of_ble_eq_true rfl, Nat.le_of_ble_eq_true rfl, rfl⟩
theorem fl_X8_34 : eFk RX8 34 2 4 4 := ⟨(RX3, TX3, 7), rfl, (wd1 148 rfl rfl), Nat.le_of_ble_eq_true rfl, Nat.le_of_ble_eq_true rfl, rfl⟩
theorem fl_X9_9 : eFk RX9 9 7 0 0 := ⟨(RX9, TX9, 9), rfl, (wd1 236 rfl rfl), Nat.le_of_ble_eq_true rfl, Nat.le_of_ble_eq_true rfl, rfl⟩
theorem fl_X9_15 : eFk RX9 15 7 1 1 := ⟨(RX9, TX9, 9), rfl, (wd2 2 rfl rfl), Nat.le_of_ble_eq_true rfl, Nat.le_of_ble_eq_true rfl, rfl⟩
theorem fl_X9_19 : eFk RX9 19 7 2 2 := ⟨(RX9, TX9, 9), rfl, (wd2 9 rfl rfl), Nat.le_of_ble_eq_true rfl, Nat.le_of_ble_eq_true rfl, rfl⟩
theorem fl_X9_22 : eFk RX9 22 7 3 3 := ⟨(RX9, TX9, 9), rfl, (wd2 13 rfl rfl), Nat.le_of_ble_eq_true rfl, Nat.le_of_ble_eq_true rfl, rfl⟩
theorem fl_X9_25 : eFk RX9 25 7 4 4 := ⟨(RX9, TX9, 9), rfl, (wd2 16 rfl rfl), Nat.le_of_ble_eq_true rfl, Nat.le_of_ble_eq_true rfl, rfl⟩
theorem fl_X9_29 : eFk RX9 29 7 5 5 := ⟨(RX9, TX9, 9), rfl, (wd2 19 rfl rfl), Nat.le_of_ble_eq_true rfl, Nat.le_of_ble_eq_true rfl, rfl⟩
theorem fl_X9_33 : eFk RX9 33 7 6 6 := ⟨(RX9, TX9, 9), rfl, (wd2 22 rfl rfl), Nat.le_of_ble_eq_true rfl, Nat.le_of_ble_eq_true rfl, rfl⟩
theorem fl_X9_36 : eFk RX9 36 7 7 7 := ⟨(RX9, TX9, 9), rfl, (wd2 25 rfl rfl), Nat.le_of_ble_eq_true rfl, Nat.le_of_ble_eq_true rfl, rfl⟩
theorem fl_X9_39 : eFk RX9 39 7 8 8 := ⟨(RX9, TX9, 9), rfl, (wd2 28 rfl rfl), Nat.le_of_ble_eq_true rfl, Nat.le_of_ble_eq_true rfl, rfl⟩
theorem kc_X10_113 : Cond.constantLong RX10 113 (Int64.ofInt (999999)) ∈ eTbl := (wd2 173 rfl rfl)
theorem kc_X4_9 : Cond.constantLong RX4 9 (Int64.ofInt (-1)) ∈ eTbl := (wd2 177 rfl rfl)
theorem kc_X10_119 : Cond.constantLong RX10 119 (Int64.ofInt (99999999)) ∈ eTbl := (wd2 183 rfl rfl)
theorem kc_J13_314 : Cond.constantLong RJ13 314 (Int64.ofInt (6148914691236517205)) ∈ eTbl := (wd2 225 rfl rfl)
theorem kc_J13_316 : Cond.constantLong RJ13 316 (Int64.ofInt (3689348814741910323)) ∈ eTbl := (wd2 226 rfl rfl)
theorem kc_J13_318 : Cond.constantLong RJ13 318 (Int64.ofInt (1085102592571150095)) ∈ eTbl := (wd2 227 rfl rfl)
theorem kc_X1_11 : Cond.constantLong RX1 11 (Int64.ofInt (255)) ∈ eTbl := (wd3 5 rfl rfl)
theorem kc_J6_265 : Cond.constant RJ6 265 (Int32.ofInt (1431655765)) ∈ eTbl := (wd3 12 rfl rfl)
theorem kc_J6_266 : Cond.constant RJ6 266 (Int32.ofInt (858993459)) ∈ eTbl := (wd3 13 rfl rfl)
theorem kc_J6_267 : Cond.constant RJ6 267 (Int32.ofInt (252645135)) ∈ eTbl := (wd3 14 rfl rfl)
theorem kc_X2_21 : Cond.constantLong RX2 21 (Int64.ofInt (1000000000)) ∈ eTbl := (wd3 47 rfl rfl)
theorem kc_X2_29 : Cond.constantLong RX2 29 (Int64.ofInt (-1)) ∈ eTbl := (wd3 49 rfl rfl)
theorem kc_X2_42 : Cond.constantLong RX2 42 (Int64.ofInt (1000000000000000)) ∈ eTbl := (wd3 53 rfl rfl)
theorem kc_X2_56 : Cond.constantLong RX2 56 (Int64.ofInt (999999)) ∈ eTbl := (wd3 63 rfl rfl)
theorem kc_X2_69 : Cond.constantLong RX2 69 (Int64.ofInt (99999999)) ∈ eTbl := (wd3 68 rfl rfl)
theorem kc_X0_36 : Cond.constantLong RX0 36 (Int64.ofInt (9223372036854775807)) ∈ eTbl := (wd3 128 rfl rfl)
theorem kc_X0_44 : Cond.constantLong RX0 44 (Int64.ofInt (-1)) ∈ eTbl := (wd3 131 rfl rfl)
theorem kc_X1_13 : Cond.constantLong RX1 13 (Int64.ofInt (72340172838076673)) ∈ eTbl := (wd3 153 rfl rfl)
theorem kc_X1_15 : Cond.constantLong RX1 15 (Int64.ofInt (-1)) ∈ eTbl := (wd3 154 rfl rfl)
theorem kc_X5_101 : Cond.constantLong RX5 101 (Int64.ofInt (-1)) ∈ eTbl := (wd3 167 rfl rfl)
theorem kc_X11_335 : Cond.constant RX11 335 (Int32.ofInt (99999999)) ∈ eTbl := (wd4 9 rfl rfl)
theorem kc_X11_238 : Cond.constantLong RX11 238 (Int64.ofInt (-1)) ∈ eTbl := (wd4 37 rfl rfl)
theorem kc_X0_67 : Cond.constantLong RX0 67 (Int64.ofInt (-2)) ∈ eTbl := (wd4 51 rfl rfl)
theorem kc_X12_97 : Cond.constantLong RX12 97 (Int64.ofInt (3)) ∈ eTbl := (wd5 133 rfl rfl)
theorem kc_X12_150 : Cond.constantLong RX12 150 (Int64.ofInt (48)) ∈ eTbl := (wd5 173 rfl rfl)
theorem kc_X12_152 : Cond.constantLong RX12 152 (Int64.ofInt (57)) ∈ eTbl := (wd5 174 rfl rfl)
theorem kc_X12_93 : Cond.constantLong RX12 93 (Int64.ofInt (999999)) ∈ eTbl := (wd5 198 rfl rfl)
theorem kc_X12_95 : Cond.constantLong RX12 95 (Int64.ofInt (99999999)) ∈ eTbl := (wd5 203 rfl rfl)
theorem kc_X12_215 : Cond.constantLong RX12 215 (Int64.ofInt (9999)) ∈ eTbl := (wd6 4 rfl rfl)
theorem kc_X12_224 : Cond.constantLong RX12 224 (Int64.ofInt (1000000000)) ∈ eTbl := (wd6 5 rfl rfl)
theorem kc_X12_217 : Cond.constantLong RX12 217 (Int64.ofInt (1000000000000000)) ∈ eTbl := (wd6 9 rfl rfl)
theorem kc_X12_219 : Cond.constantLong RX12 219 (Int64.ofInt (-1)) ∈ eTbl := (wd6 10 rfl rfl)
theorem kc_X12_229 : Cond.constantLong RX12 229 (Int64.ofInt (5)) ∈ eTbl := (wd6 19 rfl rfl)
theorem kc_X12_239 : Cond.constantLong RX12 239 (Int64.ofInt (9223372036854775807)) ∈ eTbl := (wd6 69 rfl rfl)
theorem kc_X12_270 : Cond.constant RX12 270 (Int32.ofInt (799999992)) ∈ eTbl := (wd6 76 rfl rfl)
theorem kc_X12_306 : Cond.constantLong RX12 306 (Int64.ofInt (2)) ∈ eTbl := (wd6 94 rfl rfl)
theorem kc_X12_318 : Cond.constantLong RX12 318 (Int64.ofInt (4)) ∈ eTbl := (wd6 127 rfl rfl)
theorem kc_X12_353 : Cond.constantLong RX12 353 (Int64.ofInt (10)) ∈ eTbl := (wd6 188 rfl rfl)
theorem kc_X12_355 : Cond.constantLong RX12 355 (Int64.ofInt (-2)) ∈ eTbl := (wd6 193 rfl rfl)
def eLkV (own : String) (x : Nat) (y : MethodName) (n : Nat) : Prop := Cond.methodLink own x y ∈ eTbl ∧ Cond.initialized y.cls ∈ eTbl ∧ Cond.instanceMethod y ∈ eTbl ∧ Cond.selects y.cls y y ∈ eTbl ∧ y.cls ≠ "java/lang/invoke/MethodHandle" ∧ y.cls ≠ "java/lang/invoke/VarHandle" ∧ (parseMethodDescriptor y.desc).map (fun d => d.parameters.length) = some n
def eLkS (own : String) (x : Nat) (y : MethodName) (n : Nat) : Prop := Cond.methodLink own x y ∈ eTbl ∧ Cond.initialized y.cls ∈ eTbl ∧ Cond.static y ∈ eTbl ∧ y.cls ≠ "java/lang/invoke/MethodHandle" ∧ y.cls ≠ "java/lang/invoke/VarHandle" ∧ (parseMethodDescriptor y.desc).map (fun d => d.parameters.length) = some n
theorem yp_yJ13_bitCount_95d88 : yJ13_bitCount_95d88.cls ≠ "java/lang/invoke/MethodHandle" ∧ yJ13_bitCount_95d88.cls ≠ "java/lang/invoke/VarHandle" ∧ (parseMethodDescriptor yJ13_bitCount_95d88.desc).map (fun d => d.parameters.length) = some 1 := by decide +kernel
theorem yp_yJ6_bitCount_0f7a4 : yJ6_bitCount_0f7a4.cls ≠ "java/lang/invoke/MethodHandle" ∧ yJ6_bitCount_0f7a4.cls ≠ "java/lang/invoke/VarHandle" ∧ (parseMethodDescriptor yJ6_bitCount_0f7a4.desc).map (fun d => d.parameters.length) = some 1 := by decide +kernel
theorem yp_yJ7_fill_53178 : yJ7_fill_53178.cls ≠ "java/lang/invoke/MethodHandle" ∧ yJ7_fill_53178.cls ≠ "java/lang/invoke/VarHandle" ∧ (parseMethodDescriptor yJ7_fill_53178.desc).map (fun d => d.parameters.length) = some 2 := by decide +kernel
theorem yp_yJ9_max_7cf53 : yJ9_max_7cf53.cls ≠ "java/lang/invoke/MethodHandle" ∧ yJ9_max_7cf53.cls ≠ "java/lang/invoke/VarHandle" ∧ (parseMethodDescriptor yJ9_max_7cf53.desc).map (fun d => d.parameters.length) = some 2 := by decide +kernel
theorem yp_yJ9_max_f86c9 : yJ9_max_f86c9.cls ≠ "java/lang/invoke/MethodHandle" ∧ yJ9_max_f86c9.cls ≠ "java/lang/invoke/VarHandle" ∧ (parseMethodDescriptor yJ9_max_f86c9.desc).map (fun d => d.parameters.length) = some 2 := by decide +kernel
theorem yp_yJ9_min_7cf53 : yJ9_min_7cf53.cls ≠ "java/lang/invoke/MethodHandle" ∧ yJ9_min_7cf53.cls ≠ "java/lang/invoke/VarHandle" ∧ (parseMethodDescriptor yJ9_min_7cf53.desc).map (fun d => d.parameters.length) = some 2 := by decide +kernel
theorem yp_yJ9_min_f86c9 : yJ9_min_f86c9.cls ≠ "java/lang/invoke/MethodHandle" ∧ yJ9_min_f86c9.cls ≠ "java/lang/invoke/VarHandle" ∧ (parseMethodDescriptor yJ9_min_f86c9.desc).map (fun d => d.parameters.length) = some 2 := by decide +kernel
theorem yp_yX0_countAll : yX0_countAll.cls ≠ "java/lang/invoke/MethodHandle" ∧ yX0_countAll.cls ≠ "java/lang/invoke/VarHandle" ∧ (parseMethodDescriptor yX0_countAll.desc).map (fun d => d.parameters.length) = some 2 := by decide +kernel
theorem yp_yX0_findFirst : yX0_findFirst.cls ≠ "java/lang/invoke/MethodHandle" ∧ yX0_findFirst.cls ≠ "java/lang/invoke/VarHandle" ∧ (parseMethodDescriptor yX0_findFirst.desc).map (fun d => d.parameters.length) = some 2 := by decide +kernel
theorem yp_yX0_findRichest : yX0_findRichest.cls ≠ "java/lang/invoke/MethodHandle" ∧ yX0_findRichest.cls ≠ "java/lang/invoke/VarHandle" ∧ (parseMethodDescriptor yX0_findRichest.desc).map (fun d => d.parameters.length) = some 3 := by decide +kernel
theorem yp_yX0_greatestLeast : yX0_greatestLeast.cls ≠ "java/lang/invoke/MethodHandle" ∧ yX0_greatestLeast.cls ≠ "java/lang/invoke/VarHandle" ∧ (parseMethodDescriptor yX0_greatestLeast.desc).map (fun d => d.parameters.length) = some 3 := by decide +kernel
theorem yp_yX0_multiplyAll : yX0_multiplyAll.cls ≠ "java/lang/invoke/MethodHandle" ∧ yX0_multiplyAll.cls ≠ "java/lang/invoke/VarHandle" ∧ (parseMethodDescriptor yX0_multiplyAll.desc).map (fun d => d.parameters.length) = some 2 := by decide +kernel
theorem yp_yX0_multiplySet : yX0_multiplySet.cls ≠ "java/lang/invoke/MethodHandle" ∧ yX0_multiplySet.cls ≠ "java/lang/invoke/VarHandle" ∧ (parseMethodDescriptor yX0_multiplySet.desc).map (fun d => d.parameters.length) = some 3 := by decide +kernel
theorem yp_yX0_nextColumn : yX0_nextColumn.cls ≠ "java/lang/invoke/MethodHandle" ∧ yX0_nextColumn.cls ≠ "java/lang/invoke/VarHandle" ∧ (parseMethodDescriptor yX0_nextColumn.desc).map (fun d => d.parameters.length) = some 4 := by decide +kernel
theorem yp_yX0_richestColumn : yX0_richestColumn.cls ≠ "java/lang/invoke/MethodHandle" ∧ yX0_richestColumn.cls ≠ "java/lang/invoke/VarHandle" ∧ (parseMethodDescriptor yX0_richestColumn.desc).map (fun d => d.parameters.length) = some 5 := by decide +kernel
theorem yp_yX0_sumUp : yX0_sumUp.cls ≠ "java/lang/invoke/MethodHandle" ∧ yX0_sumUp.cls ≠ "java/lang/invoke/VarHandle" ∧ (parseMethodDescriptor yX0_sumUp.desc).map (fun d => d.parameters.length) = some 3 := by decide +kernel
theorem yp_yX10_areCells : yX10_areCells.cls ≠ "java/lang/invoke/MethodHandle" ∧ yX10_areCells.cls ≠ "java/lang/invoke/VarHandle" ∧ (parseMethodDescriptor yX10_areCells.desc).map (fun d => d.parameters.length) = some 1 := by decide +kernel
theorem yp_yX10_checkEnd : yX10_checkEnd.cls ≠ "java/lang/invoke/MethodHandle" ∧ yX10_checkEnd.cls ≠ "java/lang/invoke/VarHandle" ∧ (parseMethodDescriptor yX10_checkEnd.desc).map (fun d => d.parameters.length) = some 0 := by decide +kernel
theorem yp_yX10_closeRow : yX10_closeRow.cls ≠ "java/lang/invoke/MethodHandle" ∧ yX10_closeRow.cls ≠ "java/lang/invoke/VarHandle" ∧ (parseMethodDescriptor yX10_closeRow.desc).map (fun d => d.parameters.length) = some 0 := by decide +kernel
theorem yp_yX10_commonBelow : yX10_commonBelow.cls ≠ "java/lang/invoke/MethodHandle" ∧ yX10_commonBelow.cls ≠ "java/lang/invoke/VarHandle" ∧ (parseMethodDescriptor yX10_commonBelow.desc).map (fun d => d.parameters.length) = some 0 := by decide +kernel
theorem yp_yX10_countDigits : yX10_countDigits.cls ≠ "java/lang/invoke/MethodHandle" ∧ yX10_countDigits.cls ≠ "java/lang/invoke/VarHandle" ∧ (parseMethodDescriptor yX10_countDigits.desc).map (fun d => d.parameters.length) = some 0 := by decide +kernel
theorem yp_yX10_drop : yX10_drop.cls ≠ "java/lang/invoke/MethodHandle" ∧ yX10_drop.cls ≠ "java/lang/invoke/VarHandle" ∧ (parseMethodDescriptor yX10_drop.desc).map (fun d => d.parameters.length) = some 0 := by decide +kernel
theorem yp_yX10_fail : yX10_fail.cls ≠ "java/lang/invoke/MethodHandle" ∧ yX10_fail.cls ≠ "java/lang/invoke/VarHandle" ∧ (parseMethodDescriptor yX10_fail.desc).map (fun d => d.parameters.length) = some 2 := by decide +kernel
theorem yp_yX10_fill : yX10_fill.cls ≠ "java/lang/invoke/MethodHandle" ∧ yX10_fill.cls ≠ "java/lang/invoke/VarHandle" ∧ (parseMethodDescriptor yX10_fill.desc).map (fun d => d.parameters.length) = some 1 := by decide +kernel
theorem yp_yX10_hasRoom : yX10_hasRoom.cls ≠ "java/lang/invoke/MethodHandle" ∧ yX10_hasRoom.cls ≠ "java/lang/invoke/VarHandle" ∧ (parseMethodDescriptor yX10_hasRoom.desc).map (fun d => d.parameters.length) = some 0 := by decide +kernel
theorem yp_yX10_isBlank : yX10_isBlank.cls ≠ "java/lang/invoke/MethodHandle" ∧ yX10_isBlank.cls ≠ "java/lang/invoke/VarHandle" ∧ (parseMethodDescriptor yX10_isBlank.desc).map (fun d => d.parameters.length) = some 1 := by decide +kernel
theorem yp_yX10_isDigit : yX10_isDigit.cls ≠ "java/lang/invoke/MethodHandle" ∧ yX10_isDigit.cls ≠ "java/lang/invoke/VarHandle" ∧ (parseMethodDescriptor yX10_isDigit.desc).map (fun d => d.parameters.length) = some 1 := by decide +kernel
theorem yp_yX10_isSign : yX10_isSign.cls ≠ "java/lang/invoke/MethodHandle" ∧ yX10_isSign.cls ≠ "java/lang/invoke/VarHandle" ∧ (parseMethodDescriptor yX10_isSign.desc).map (fun d => d.parameters.length) = some 2 := by decide +kernel
theorem yp_yX10_keepFraction : yX10_keepFraction.cls ≠ "java/lang/invoke/MethodHandle" ∧ yX10_keepFraction.cls ≠ "java/lang/invoke/VarHandle" ∧ (parseMethodDescriptor yX10_keepFraction.desc).map (fun d => d.parameters.length) = some 2 := by decide +kernel
theorem yp_yX10_putNumber : yX10_putNumber.cls ≠ "java/lang/invoke/MethodHandle" ∧ yX10_putNumber.cls ≠ "java/lang/invoke/VarHandle" ∧ (parseMethodDescriptor yX10_putNumber.desc).map (fun d => d.parameters.length) = some 1 := by decide +kernel
theorem yp_yX10_readDivisor : yX10_readDivisor.cls ≠ "java/lang/invoke/MethodHandle" ∧ yX10_readDivisor.cls ≠ "java/lang/invoke/VarHandle" ∧ (parseMethodDescriptor yX10_readDivisor.desc).map (fun d => d.parameters.length) = some 0 := by decide +kernel
theorem yp_yX10_readFraction : yX10_readFraction.cls ≠ "java/lang/invoke/MethodHandle" ∧ yX10_readFraction.cls ≠ "java/lang/invoke/VarHandle" ∧ (parseMethodDescriptor yX10_readFraction.desc).map (fun d => d.parameters.length) = some 0 := by decide +kernel
theorem yp_yX10_readInto : yX10_readInto.cls ≠ "java/lang/invoke/MethodHandle" ∧ yX10_readInto.cls ≠ "java/lang/invoke/VarHandle" ∧ (parseMethodDescriptor yX10_readInto.desc).map (fun d => d.parameters.length) = some 1 := by decide +kernel
theorem yp_yX10_readNumber : yX10_readNumber.cls ≠ "java/lang/invoke/MethodHandle" ∧ yX10_readNumber.cls ≠ "java/lang/invoke/VarHandle" ∧ (parseMethodDescriptor yX10_readNumber.desc).map (fun d => d.parameters.length) = some 0 := by decide +kernel
theorem yp_yX10_readPiece : yX10_readPiece.cls ≠ "java/lang/invoke/MethodHandle" ∧ yX10_readPiece.cls ≠ "java/lang/invoke/VarHandle" ∧ (parseMethodDescriptor yX10_readPiece.desc).map (fun d => d.parameters.length) = some 0 := by decide +kernel
theorem yp_yX10_skipBlanks : yX10_skipBlanks.cls ≠ "java/lang/invoke/MethodHandle" ∧ yX10_skipBlanks.cls ≠ "java/lang/invoke/VarHandle" ∧ (parseMethodDescriptor yX10_skipBlanks.desc).map (fun d => d.parameters.length) = some 0 := by decide +kernel
theorem yp_yX11_areLike : yX11_areLike.cls ≠ "java/lang/invoke/MethodHandle" ∧ yX11_areLike.cls ≠ "java/lang/invoke/VarHandle" ∧ (parseMethodDescriptor yX11_areLike.desc).map (fun d => d.parameters.length) = some 3 := by decide +kernel
theorem yp_yX11_best : yX11_best.cls ≠ "java/lang/invoke/MethodHandle" ∧ yX11_best.cls ≠ "java/lang/invoke/VarHandle" ∧ (parseMethodDescriptor yX11_best.desc).map (fun d => d.parameters.length) = some 2 := by decide +kernel
theorem yp_yX11_bound : yX11_bound.cls ≠ "java/lang/invoke/MethodHandle" ∧ yX11_bound.cls ≠ "java/lang/invoke/VarHandle" ∧ (parseMethodDescriptor yX11_bound.desc).map (fun d => d.parameters.length) = some 2 := by decide +kernel
theorem yp_yX11_cell : yX11_cell.cls ≠ "java/lang/invoke/MethodHandle" ∧ yX11_cell.cls ≠ "java/lang/invoke/VarHandle" ∧ (parseMethodDescriptor yX11_cell.desc).map (fun d => d.parameters.length) = some 3 := by decide +kernel
theorem yp_yX11_draw : yX11_draw.cls ≠ "java/lang/invoke/MethodHandle" ∧ yX11_draw.cls ≠ "java/lang/invoke/VarHandle" ∧ (parseMethodDescriptor yX11_draw.desc).map (fun d => d.parameters.length) = some 1 := by decide +kernel
theorem yp_yX11_end : yX11_end.cls ≠ "java/lang/invoke/MethodHandle" ∧ yX11_end.cls ≠ "java/lang/invoke/VarHandle" ∧ (parseMethodDescriptor yX11_end.desc).map (fun d => d.parameters.length) = some 1 := by decide +kernel
theorem yp_yX11_evenSlot : yX11_evenSlot.cls ≠ "java/lang/invoke/MethodHandle" ∧ yX11_evenSlot.cls ≠ "java/lang/invoke/VarHandle" ∧ (parseMethodDescriptor yX11_evenSlot.desc).map (fun d => d.parameters.length) = some 1 := by decide +kernel
theorem yp_yX11_fault : yX11_fault.cls ≠ "java/lang/invoke/MethodHandle" ∧ yX11_fault.cls ≠ "java/lang/invoke/VarHandle" ∧ (parseMethodDescriptor yX11_fault.desc).map (fun d => d.parameters.length) = some 1 := by decide +kernel
theorem yp_yX11_feed : yX11_feed.cls ≠ "java/lang/invoke/MethodHandle" ∧ yX11_feed.cls ≠ "java/lang/invoke/VarHandle" ∧ (parseMethodDescriptor yX11_feed.desc).map (fun d => d.parameters.length) = some 5 := by decide +kernel
theorem yp_yX11_filledSlot : yX11_filledSlot.cls ≠ "java/lang/invoke/MethodHandle" ∧ yX11_filledSlot.cls ≠ "java/lang/invoke/VarHandle" ∧ (parseMethodDescriptor yX11_filledSlot.desc).map (fun d => d.parameters.length) = some 1 := by decide +kernel
theorem yp_yX11_isCell : yX11_isCell.cls ≠ "java/lang/invoke/MethodHandle" ∧ yX11_isCell.cls ≠ "java/lang/invoke/VarHandle" ∧ (parseMethodDescriptor yX11_isCell.desc).map (fun d => d.parameters.length) = some 1 := by decide +kernel
theorem yp_yX11_isRule : yX11_isRule.cls ≠ "java/lang/invoke/MethodHandle" ∧ yX11_isRule.cls ≠ "java/lang/invoke/VarHandle" ∧ (parseMethodDescriptor yX11_isRule.desc).map (fun d => d.parameters.length) = some 1 := by decide +kernel
theorem yp_yX11_isShare : yX11_isShare.cls ≠ "java/lang/invoke/MethodHandle" ∧ yX11_isShare.cls ≠ "java/lang/invoke/VarHandle" ∧ (parseMethodDescriptor yX11_isShare.desc).map (fun d => d.parameters.length) = some 2 := by decide +kernel
theorem yp_yX11_job : yX11_job.cls ≠ "java/lang/invoke/MethodHandle" ∧ yX11_job.cls ≠ "java/lang/invoke/VarHandle" ∧ (parseMethodDescriptor yX11_job.desc).map (fun d => d.parameters.length) = some 2 := by decide +kernel
theorem yp_yX11_joint : yX11_joint.cls ≠ "java/lang/invoke/MethodHandle" ∧ yX11_joint.cls ≠ "java/lang/invoke/VarHandle" ∧ (parseMethodDescriptor yX11_joint.desc).map (fun d => d.parameters.length) = some 5 := by decide +kernel
theorem yp_yX11_keepParts : yX11_keepParts.cls ≠ "java/lang/invoke/MethodHandle" ∧ yX11_keepParts.cls ≠ "java/lang/invoke/VarHandle" ∧ (parseMethodDescriptor yX11_keepParts.desc).map (fun d => d.parameters.length) = some 1 := by decide +kernel
theorem yp_yX11_kept : yX11_kept.cls ≠ "java/lang/invoke/MethodHandle" ∧ yX11_kept.cls ≠ "java/lang/invoke/VarHandle" ∧ (parseMethodDescriptor yX11_kept.desc).map (fun d => d.parameters.length) = some 1 := by decide +kernel
theorem yp_yX11_kin : yX11_kin.cls ≠ "java/lang/invoke/MethodHandle" ∧ yX11_kin.cls ≠ "java/lang/invoke/VarHandle" ∧ (parseMethodDescriptor yX11_kin.desc).map (fun d => d.parameters.length) = some 2 := by decide +kernel
theorem yp_yX11_lack : yX11_lack.cls ≠ "java/lang/invoke/MethodHandle" ∧ yX11_lack.cls ≠ "java/lang/invoke/VarHandle" ∧ (parseMethodDescriptor yX11_lack.desc).map (fun d => d.parameters.length) = some 3 := by decide +kernel
theorem yp_yX11_look : yX11_look.cls ≠ "java/lang/invoke/MethodHandle" ∧ yX11_look.cls ≠ "java/lang/invoke/VarHandle" ∧ (parseMethodDescriptor yX11_look.desc).map (fun d => d.parameters.length) = some 2 := by decide +kernel
theorem yp_yX11_mix : yX11_mix.cls ≠ "java/lang/invoke/MethodHandle" ∧ yX11_mix.cls ≠ "java/lang/invoke/VarHandle" ∧ (parseMethodDescriptor yX11_mix.desc).map (fun d => d.parameters.length) = some 7 := by decide +kernel
theorem yp_yX11_mixing : yX11_mixing.cls ≠ "java/lang/invoke/MethodHandle" ∧ yX11_mixing.cls ≠ "java/lang/invoke/VarHandle" ∧ (parseMethodDescriptor yX11_mixing.desc).map (fun d => d.parameters.length) = some 1 := by decide +kernel
theorem yp_yX11_most : yX11_most.cls ≠ "java/lang/invoke/MethodHandle" ∧ yX11_most.cls ≠ "java/lang/invoke/VarHandle" ∧ (parseMethodDescriptor yX11_most.desc).map (fun d => d.parameters.length) = some 2 := by decide +kernel
theorem yp_yX11_out : yX11_out.cls ≠ "java/lang/invoke/MethodHandle" ∧ yX11_out.cls ≠ "java/lang/invoke/VarHandle" ∧ (parseMethodDescriptor yX11_out.desc).map (fun d => d.parameters.length) = some 1 := by decide +kernel
theorem yp_yX11_paired : yX11_paired.cls ≠ "java/lang/invoke/MethodHandle" ∧ yX11_paired.cls ≠ "java/lang/invoke/VarHandle" ∧ (parseMethodDescriptor yX11_paired.desc).map (fun d => d.parameters.length) = some 3 := by decide +kernel
theorem yp_yX11_part : yX11_part.cls ≠ "java/lang/invoke/MethodHandle" ∧ yX11_part.cls ≠ "java/lang/invoke/VarHandle" ∧ (parseMethodDescriptor yX11_part.desc).map (fun d => d.parameters.length) = some 2 := by decide +kernel
theorem yp_yX11_peel : yX11_peel.cls ≠ "java/lang/invoke/MethodHandle" ∧ yX11_peel.cls ≠ "java/lang/invoke/VarHandle" ∧ (parseMethodDescriptor yX11_peel.desc).map (fun d => d.parameters.length) = some 2 := by decide +kernel
theorem yp_yX11_permanent : yX11_permanent.cls ≠ "java/lang/invoke/MethodHandle" ∧ yX11_permanent.cls ≠ "java/lang/invoke/VarHandle" ∧ (parseMethodDescriptor yX11_permanent.desc).map (fun d => d.parameters.length) = some 1 := by decide +kernel
theorem yp_yX11_rounded : yX11_rounded.cls ≠ "java/lang/invoke/MethodHandle" ∧ yX11_rounded.cls ≠ "java/lang/invoke/VarHandle" ∧ (parseMethodDescriptor yX11_rounded.desc).map (fun d => d.parameters.length) = some 3 := by decide +kernel
theorem yp_yX11_shop : yX11_shop.cls ≠ "java/lang/invoke/MethodHandle" ∧ yX11_shop.cls ≠ "java/lang/invoke/VarHandle" ∧ (parseMethodDescriptor yX11_shop.desc).map (fun d => d.parameters.length) = some 2 := by decide +kernel
theorem yp_yX11_show : yX11_show.cls ≠ "java/lang/invoke/MethodHandle" ∧ yX11_show.cls ≠ "java/lang/invoke/VarHandle" ∧ (parseMethodDescriptor yX11_show.desc).map (fun d => d.parameters.length) = some 0 := by decide +kernel
theorem yp_yX11_slotAt : yX11_slotAt.cls ≠ "java/lang/invoke/MethodHandle" ∧ yX11_slotAt.cls ≠ "java/lang/invoke/VarHandle" ∧ (parseMethodDescriptor yX11_slotAt.desc).map (fun d => d.parameters.length) = some 1 := by decide +kernel
theorem yp_yX11_sought : yX11_sought.cls ≠ "java/lang/invoke/MethodHandle" ∧ yX11_sought.cls ≠ "java/lang/invoke/VarHandle" ∧ (parseMethodDescriptor yX11_sought.desc).map (fun d => d.parameters.length) = some 2 := by decide +kernel
theorem yp_yX11_table : yX11_table.cls ≠ "java/lang/invoke/MethodHandle" ∧ yX11_table.cls ≠ "java/lang/invoke/VarHandle" ∧ (parseMethodDescriptor yX11_table.desc).map (fun d => d.parameters.length) = some 1 := by decide +kernel
theorem yp_yX11_times : yX11_times.cls ≠ "java/lang/invoke/MethodHandle" ∧ yX11_times.cls ≠ "java/lang/invoke/VarHandle" ∧ (parseMethodDescriptor yX11_times.desc).map (fun d => d.parameters.length) = some 3 := by decide +kernel
theorem yp_yX11_turn : yX11_turn.cls ≠ "java/lang/invoke/MethodHandle" ∧ yX11_turn.cls ≠ "java/lang/invoke/VarHandle" ∧ (parseMethodDescriptor yX11_turn.desc).map (fun d => d.parameters.length) = some 4 := by decide +kernel
theorem yp_yX11_uneven : yX11_uneven.cls ≠ "java/lang/invoke/MethodHandle" ∧ yX11_uneven.cls ≠ "java/lang/invoke/VarHandle" ∧ (parseMethodDescriptor yX11_uneven.desc).map (fun d => d.parameters.length) = some 1 := by decide +kernel
theorem yp_yX11_ways : yX11_ways.cls ≠ "java/lang/invoke/MethodHandle" ∧ yX11_ways.cls ≠ "java/lang/invoke/VarHandle" ∧ (parseMethodDescriptor yX11_ways.desc).map (fun d => d.parameters.length) = some 2 := by decide +kernel
theorem yp_yX11_weight : yX11_weight.cls ≠ "java/lang/invoke/MethodHandle" ∧ yX11_weight.cls ≠ "java/lang/invoke/VarHandle" ∧ (parseMethodDescriptor yX11_weight.desc).map (fun d => d.parameters.length) = some 2 := by decide +kernel
theorem yp_yX11_widest : yX11_widest.cls ≠ "java/lang/invoke/MethodHandle" ∧ yX11_widest.cls ≠ "java/lang/invoke/VarHandle" ∧ (parseMethodDescriptor yX11_widest.desc).map (fun d => d.parameters.length) = some 1 := by decide +kernel
theorem yp_yX11_works : yX11_works.cls ≠ "java/lang/invoke/MethodHandle" ∧ yX11_works.cls ≠ "java/lang/invoke/VarHandle" ∧ (parseMethodDescriptor yX11_works.desc).map (fun d => d.parameters.length) = some 2 := by decide +kernel
theorem yp_yX12_aboveNought : yX12_aboveNought.cls ≠ "java/lang/invoke/MethodHandle" ∧ yX12_aboveNought.cls ≠ "java/lang/invoke/VarHandle" ∧ (parseMethodDescriptor yX12_aboveNought.desc).map (fun d => d.parameters.length) = some 1 := by decide +kernel
theorem yp_yX12_at : yX12_at.cls ≠ "java/lang/invoke/MethodHandle" ∧ yX12_at.cls ≠ "java/lang/invoke/VarHandle" ∧ (parseMethodDescriptor yX12_at.desc).map (fun d => d.parameters.length) = some 3 := by decide +kernel
theorem yp_yX12_behind : yX12_behind.cls ≠ "java/lang/invoke/MethodHandle" ∧ yX12_behind.cls ≠ "java/lang/invoke/VarHandle" ∧ (parseMethodDescriptor yX12_behind.desc).map (fun d => d.parameters.length) = some 3 := by decide +kernel
theorem yp_yX12_best : yX12_best.cls ≠ "java/lang/invoke/MethodHandle" ∧ yX12_best.cls ≠ "java/lang/invoke/VarHandle" ∧ (parseMethodDescriptor yX12_best.desc).map (fun d => d.parameters.length) = some 2 := by decide +kernel
theorem yp_yX12_bits : yX12_bits.cls ≠ "java/lang/invoke/MethodHandle" ∧ yX12_bits.cls ≠ "java/lang/invoke/VarHandle" ∧ (parseMethodDescriptor yX12_bits.desc).map (fun d => d.parameters.length) = some 1 := by decide +kernel
theorem yp_yX12_bound : yX12_bound.cls ≠ "java/lang/invoke/MethodHandle" ∧ yX12_bound.cls ≠ "java/lang/invoke/VarHandle" ∧ (parseMethodDescriptor yX12_bound.desc).map (fun d => d.parameters.length) = some 2 := by decide +kernel
theorem yp_yX12_cell : yX12_cell.cls ≠ "java/lang/invoke/MethodHandle" ∧ yX12_cell.cls ≠ "java/lang/invoke/VarHandle" ∧ (parseMethodDescriptor yX12_cell.desc).map (fun d => d.parameters.length) = some 3 := by decide +kernel
theorem yp_yX12_choose : yX12_choose.cls ≠ "java/lang/invoke/MethodHandle" ∧ yX12_choose.cls ≠ "java/lang/invoke/VarHandle" ∧ (parseMethodDescriptor yX12_choose.desc).map (fun d => d.parameters.length) = some 1 := by decide +kernel
theorem yp_yX12_chooseGreatest : yX12_chooseGreatest.cls ≠ "java/lang/invoke/MethodHandle" ∧ yX12_chooseGreatest.cls ≠ "java/lang/invoke/VarHandle" ∧ (parseMethodDescriptor yX12_chooseGreatest.desc).map (fun d => d.parameters.length) = some 1 := by decide +kernel
theorem yp_yX12_columnOf : yX12_columnOf.cls ≠ "java/lang/invoke/MethodHandle" ∧ yX12_columnOf.cls ≠ "java/lang/invoke/VarHandle" ∧ (parseMethodDescriptor yX12_columnOf.desc).map (fun d => d.parameters.length) = some 2 := by decide +kernel
theorem yp_yX12_common : yX12_common.cls ≠ "java/lang/invoke/MethodHandle" ∧ yX12_common.cls ≠ "java/lang/invoke/VarHandle" ∧ (parseMethodDescriptor yX12_common.desc).map (fun d => d.parameters.length) = some 2 := by decide +kernel
theorem yp_yX12_cut : yX12_cut.cls ≠ "java/lang/invoke/MethodHandle" ∧ yX12_cut.cls ≠ "java/lang/invoke/VarHandle" ∧ (parseMethodDescriptor yX12_cut.desc).map (fun d => d.parameters.length) = some 2 := by decide +kernel
theorem yp_yX12_draw : yX12_draw.cls ≠ "java/lang/invoke/MethodHandle" ∧ yX12_draw.cls ≠ "java/lang/invoke/VarHandle" ∧ (parseMethodDescriptor yX12_draw.desc).map (fun d => d.parameters.length) = some 1 := by decide +kernel
theorem yp_yX12_edge : yX12_edge.cls ≠ "java/lang/invoke/MethodHandle" ∧ yX12_edge.cls ≠ "java/lang/invoke/VarHandle" ∧ (parseMethodDescriptor yX12_edge.desc).map (fun d => d.parameters.length) = some 4 := by decide +kernel
theorem yp_yX12_end : yX12_end.cls ≠ "java/lang/invoke/MethodHandle" ∧ yX12_end.cls ≠ "java/lang/invoke/VarHandle" ∧ (parseMethodDescriptor yX12_end.desc).map (fun d => d.parameters.length) = some 1 := by decide +kernel
theorem yp_yX12_fails : yX12_fails.cls ≠ "java/lang/invoke/MethodHandle" ∧ yX12_fails.cls ≠ "java/lang/invoke/VarHandle" ∧ (parseMethodDescriptor yX12_fails.desc).map (fun d => d.parameters.length) = some 1 := by decide +kernel
theorem yp_yX12_fault : yX12_fault.cls ≠ "java/lang/invoke/MethodHandle" ∧ yX12_fault.cls ≠ "java/lang/invoke/VarHandle" ∧ (parseMethodDescriptor yX12_fault.desc).map (fun d => d.parameters.length) = some 1 := by decide +kernel
theorem yp_yX12_feed : yX12_feed.cls ≠ "java/lang/invoke/MethodHandle" ∧ yX12_feed.cls ≠ "java/lang/invoke/VarHandle" ∧ (parseMethodDescriptor yX12_feed.desc).map (fun d => d.parameters.length) = some 5 := by decide +kernel
theorem yp_yX12_fewest : yX12_fewest.cls ≠ "java/lang/invoke/MethodHandle" ∧ yX12_fewest.cls ≠ "java/lang/invoke/VarHandle" ∧ (parseMethodDescriptor yX12_fewest.desc).map (fun d => d.parameters.length) = some 1 := by decide +kernel
theorem yp_yX12_four : yX12_four.cls ≠ "java/lang/invoke/MethodHandle" ∧ yX12_four.cls ≠ "java/lang/invoke/VarHandle" ∧ (parseMethodDescriptor yX12_four.desc).map (fun d => d.parameters.length) = some 1 := by decide +kernel
theorem yp_yX12_groupsOf : yX12_groupsOf.cls ≠ "java/lang/invoke/MethodHandle" ∧ yX12_groupsOf.cls ≠ "java/lang/invoke/VarHandle" ∧ (parseMethodDescriptor yX12_groupsOf.desc).map (fun d => d.parameters.length) = some 1 := by decide +kernel
theorem yp_yX12_grown : yX12_grown.cls ≠ "java/lang/invoke/MethodHandle" ∧ yX12_grown.cls ≠ "java/lang/invoke/VarHandle" ∧ (parseMethodDescriptor yX12_grown.desc).map (fun d => d.parameters.length) = some 2 := by decide +kernel
theorem yp_yX12_isCell : yX12_isCell.cls ≠ "java/lang/invoke/MethodHandle" ∧ yX12_isCell.cls ≠ "java/lang/invoke/VarHandle" ∧ (parseMethodDescriptor yX12_isCell.desc).map (fun d => d.parameters.length) = some 3 := by decide +kernel
theorem yp_yX12_isChosen : yX12_isChosen.cls ≠ "java/lang/invoke/MethodHandle" ∧ yX12_isChosen.cls ≠ "java/lang/invoke/VarHandle" ∧ (parseMethodDescriptor yX12_isChosen.desc).map (fun d => d.parameters.length) = some 3 := by decide +kernel
theorem yp_yX12_isEven : yX12_isEven.cls ≠ "java/lang/invoke/MethodHandle" ∧ yX12_isEven.cls ≠ "java/lang/invoke/VarHandle" ∧ (parseMethodDescriptor yX12_isEven.desc).map (fun d => d.parameters.length) = some 1 := by decide +kernel
theorem yp_yX12_isIn : yX12_isIn.cls ≠ "java/lang/invoke/MethodHandle" ∧ yX12_isIn.cls ≠ "java/lang/invoke/VarHandle" ∧ (parseMethodDescriptor yX12_isIn.desc).map (fun d => d.parameters.length) = some 3 := by decide +kernel
theorem yp_yX12_isJob : yX12_isJob.cls ≠ "java/lang/invoke/MethodHandle" ∧ yX12_isJob.cls ≠ "java/lang/invoke/VarHandle" ∧ (parseMethodDescriptor yX12_isJob.desc).map (fun d => d.parameters.length) = some 1 := by decide +kernel
theorem yp_yX12_isKept : yX12_isKept.cls ≠ "java/lang/invoke/MethodHandle" ∧ yX12_isKept.cls ≠ "java/lang/invoke/VarHandle" ∧ (parseMethodDescriptor yX12_isKept.desc).map (fun d => d.parameters.length) = some 1 := by decide +kernel
theorem yp_yX12_isKeptRow : yX12_isKeptRow.cls ≠ "java/lang/invoke/MethodHandle" ∧ yX12_isKeptRow.cls ≠ "java/lang/invoke/VarHandle" ∧ (parseMethodDescriptor yX12_isKeptRow.desc).map (fun d => d.parameters.length) = some 1 := by decide +kernel
theorem yp_yX12_isLeast : yX12_isLeast.cls ≠ "java/lang/invoke/MethodHandle" ∧ yX12_isLeast.cls ≠ "java/lang/invoke/VarHandle" ∧ (parseMethodDescriptor yX12_isLeast.desc).map (fun d => d.parameters.length) = some 1 := by decide +kernel
theorem yp_yX12_isLeft : yX12_isLeft.cls ≠ "java/lang/invoke/MethodHandle" ∧ yX12_isLeft.cls ≠ "java/lang/invoke/VarHandle" ∧ (parseMethodDescriptor yX12_isLeft.desc).map (fun d => d.parameters.length) = some 0 := by decide +kernel
theorem yp_yX12_isNumber : yX12_isNumber.cls ≠ "java/lang/invoke/MethodHandle" ∧ yX12_isNumber.cls ≠ "java/lang/invoke/VarHandle" ∧ (parseMethodDescriptor yX12_isNumber.desc).map (fun d => d.parameters.length) = some 0 := by decide +kernel
theorem yp_yX12_isOpen : yX12_isOpen.cls ≠ "java/lang/invoke/MethodHandle" ∧ yX12_isOpen.cls ≠ "java/lang/invoke/VarHandle" ∧ (parseMethodDescriptor yX12_isOpen.desc).map (fun d => d.parameters.length) = some 5 := by decide +kernel
theorem yp_yX12_isOver : yX12_isOver.cls ≠ "java/lang/invoke/MethodHandle" ∧ yX12_isOver.cls ≠ "java/lang/invoke/VarHandle" ∧ (parseMethodDescriptor yX12_isOver.desc).map (fun d => d.parameters.length) = some 1 := by decide +kernel
theorem yp_yX12_isPart : yX12_isPart.cls ≠ "java/lang/invoke/MethodHandle" ∧ yX12_isPart.cls ≠ "java/lang/invoke/VarHandle" ∧ (parseMethodDescriptor yX12_isPart.desc).map (fun d => d.parameters.length) = some 2 := by decide +kernel
theorem yp_yX12_isPartThere : yX12_isPartThere.cls ≠ "java/lang/invoke/MethodHandle" ∧ yX12_isPartThere.cls ≠ "java/lang/invoke/VarHandle" ∧ (parseMethodDescriptor yX12_isPartThere.desc).map (fun d => d.parameters.length) = some 1 := by decide +kernel
theorem yp_yX12_isRule : yX12_isRule.cls ≠ "java/lang/invoke/MethodHandle" ∧ yX12_isRule.cls ≠ "java/lang/invoke/VarHandle" ∧ (parseMethodDescriptor yX12_isRule.desc).map (fun d => d.parameters.length) = some 1 := by decide +kernel
theorem yp_yX12_isSlot : yX12_isSlot.cls ≠ "java/lang/invoke/MethodHandle" ∧ yX12_isSlot.cls ≠ "java/lang/invoke/VarHandle" ∧ (parseMethodDescriptor yX12_isSlot.desc).map (fun d => d.parameters.length) = some 1 := by decide +kernel
theorem yp_yX12_isSummed : yX12_isSummed.cls ≠ "java/lang/invoke/MethodHandle" ∧ yX12_isSummed.cls ≠ "java/lang/invoke/VarHandle" ∧ (parseMethodDescriptor yX12_isSummed.desc).map (fun d => d.parameters.length) = some 3 := by decide +kernel
theorem yp_yX12_isTable : yX12_isTable.cls ≠ "java/lang/invoke/MethodHandle" ∧ yX12_isTable.cls ≠ "java/lang/invoke/VarHandle" ∧ (parseMethodDescriptor yX12_isTable.desc).map (fun d => d.parameters.length) = some 1 := by decide +kernel
theorem yp_yX12_isWay : yX12_isWay.cls ≠ "java/lang/invoke/MethodHandle" ∧ yX12_isWay.cls ≠ "java/lang/invoke/VarHandle" ∧ (parseMethodDescriptor yX12_isWay.desc).map (fun d => d.parameters.length) = some 0 := by decide +kernel
theorem yp_yX12_job : yX12_job.cls ≠ "java/lang/invoke/MethodHandle" ∧ yX12_job.cls ≠ "java/lang/invoke/VarHandle" ∧ (parseMethodDescriptor yX12_job.desc).map (fun d => d.parameters.length) = some 2 := by decide +kernel
theorem yp_yX12_joined : yX12_joined.cls ≠ "java/lang/invoke/MethodHandle" ∧ yX12_joined.cls ≠ "java/lang/invoke/VarHandle" ∧ (parseMethodDescriptor yX12_joined.desc).map (fun d => d.parameters.length) = some 3 := by decide +kernel
theorem yp_yX12_joint : yX12_joint.cls ≠ "java/lang/invoke/MethodHandle" ∧ yX12_joint.cls ≠ "java/lang/invoke/VarHandle" ∧ (parseMethodDescriptor yX12_joint.desc).map (fun d => d.parameters.length) = some 5 := by decide +kernel
theorem yp_yX12_keepsAll : yX12_keepsAll.cls ≠ "java/lang/invoke/MethodHandle" ∧ yX12_keepsAll.cls ≠ "java/lang/invoke/VarHandle" ∧ (parseMethodDescriptor yX12_keepsAll.desc).map (fun d => d.parameters.length) = some 3 := by decide +kernel
theorem yp_yX12_kept : yX12_kept.cls ≠ "java/lang/invoke/MethodHandle" ∧ yX12_kept.cls ≠ "java/lang/invoke/VarHandle" ∧ (parseMethodDescriptor yX12_kept.desc).map (fun d => d.parameters.length) = some 1 := by decide +kernel
theorem yp_yX12_kin : yX12_kin.cls ≠ "java/lang/invoke/MethodHandle" ∧ yX12_kin.cls ≠ "java/lang/invoke/VarHandle" ∧ (parseMethodDescriptor yX12_kin.desc).map (fun d => d.parameters.length) = some 2 := by decide +kernel
theorem yp_yX12_lack : yX12_lack.cls ≠ "java/lang/invoke/MethodHandle" ∧ yX12_lack.cls ≠ "java/lang/invoke/VarHandle" ∧ (parseMethodDescriptor yX12_lack.desc).map (fun d => d.parameters.length) = some 3 := by decide +kernel
theorem yp_yX12_laysBounds : yX12_laysBounds.cls ≠ "java/lang/invoke/MethodHandle" ∧ yX12_laysBounds.cls ≠ "java/lang/invoke/VarHandle" ∧ (parseMethodDescriptor yX12_laysBounds.desc).map (fun d => d.parameters.length) = some 1 := by decide +kernel
theorem yp_yX12_laysCan : yX12_laysCan.cls ≠ "java/lang/invoke/MethodHandle" ∧ yX12_laysCan.cls ≠ "java/lang/invoke/VarHandle" ∧ (parseMethodDescriptor yX12_laysCan.desc).map (fun d => d.parameters.length) = some 2 := by decide +kernel
theorem yp_yX12_lies : yX12_lies.cls ≠ "java/lang/invoke/MethodHandle" ∧ yX12_lies.cls ≠ "java/lang/invoke/VarHandle" ∧ (parseMethodDescriptor yX12_lies.desc).map (fun d => d.parameters.length) = some 3 := by decide +kernel
theorem yp_yX12_look : yX12_look.cls ≠ "java/lang/invoke/MethodHandle" ∧ yX12_look.cls ≠ "java/lang/invoke/VarHandle" ∧ (parseMethodDescriptor yX12_look.desc).map (fun d => d.parameters.length) = some 2 := by decide +kernel
theorem yp_yX12_mix : yX12_mix.cls ≠ "java/lang/invoke/MethodHandle" ∧ yX12_mix.cls ≠ "java/lang/invoke/VarHandle" ∧ (parseMethodDescriptor yX12_mix.desc).map (fun d => d.parameters.length) = some 7 := by decide +kernel
theorem yp_yX12_mixing : yX12_mixing.cls ≠ "java/lang/invoke/MethodHandle" ∧ yX12_mixing.cls ≠ "java/lang/invoke/VarHandle" ∧ (parseMethodDescriptor yX12_mixing.desc).map (fun d => d.parameters.length) = some 1 := by decide +kernel
theorem yp_yX12_most : yX12_most.cls ≠ "java/lang/invoke/MethodHandle" ∧ yX12_most.cls ≠ "java/lang/invoke/VarHandle" ∧ (parseMethodDescriptor yX12_most.desc).map (fun d => d.parameters.length) = some 2 := by decide +kernel
theorem yp_yX12_next : yX12_next.cls ≠ "java/lang/invoke/MethodHandle" ∧ yX12_next.cls ≠ "java/lang/invoke/VarHandle" ∧ (parseMethodDescriptor yX12_next.desc).map (fun d => d.parameters.length) = some 0 := by decide +kernel
theorem yp_yX12_one : yX12_one.cls ≠ "java/lang/invoke/MethodHandle" ∧ yX12_one.cls ≠ "java/lang/invoke/VarHandle" ∧ (parseMethodDescriptor yX12_one.desc).map (fun d => d.parameters.length) = some 1 := by decide +kernel
theorem yp_yX12_out : yX12_out.cls ≠ "java/lang/invoke/MethodHandle" ∧ yX12_out.cls ≠ "java/lang/invoke/VarHandle" ∧ (parseMethodDescriptor yX12_out.desc).map (fun d => d.parameters.length) = some 1 := by decide +kernel
theorem yp_yX12_paired : yX12_paired.cls ≠ "java/lang/invoke/MethodHandle" ∧ yX12_paired.cls ≠ "java/lang/invoke/VarHandle" ∧ (parseMethodDescriptor yX12_paired.desc).map (fun d => d.parameters.length) = some 3 := by decide +kernel
theorem yp_yX12_part : yX12_part.cls ≠ "java/lang/invoke/MethodHandle" ∧ yX12_part.cls ≠ "java/lang/invoke/VarHandle" ∧ (parseMethodDescriptor yX12_part.desc).map (fun d => d.parameters.length) = some 2 := by decide +kernel
theorem yp_yX12_peel : yX12_peel.cls ≠ "java/lang/invoke/MethodHandle" ∧ yX12_peel.cls ≠ "java/lang/invoke/VarHandle" ∧ (parseMethodDescriptor yX12_peel.desc).map (fun d => d.parameters.length) = some 2 := by decide +kernel
theorem yp_yX12_peels : yX12_peels.cls ≠ "java/lang/invoke/MethodHandle" ∧ yX12_peels.cls ≠ "java/lang/invoke/VarHandle" ∧ (parseMethodDescriptor yX12_peels.desc).map (fun d => d.parameters.length) = some 1 := by decide +kernel
theorem yp_yX12_permanent : yX12_permanent.cls ≠ "java/lang/invoke/MethodHandle" ∧ yX12_permanent.cls ≠ "java/lang/invoke/VarHandle" ∧ (parseMethodDescriptor yX12_permanent.desc).map (fun d => d.parameters.length) = some 1 := by decide +kernel
theorem yp_yX12_readFraction : yX12_readFraction.cls ≠ "java/lang/invoke/MethodHandle" ∧ yX12_readFraction.cls ≠ "java/lang/invoke/VarHandle" ∧ (parseMethodDescriptor yX12_readFraction.desc).map (fun d => d.parameters.length) = some 1 := by decide +kernel
theorem yp_yX12_readRow : yX12_readRow.cls ≠ "java/lang/invoke/MethodHandle" ∧ yX12_readRow.cls ≠ "java/lang/invoke/VarHandle" ∧ (parseMethodDescriptor yX12_readRow.desc).map (fun d => d.parameters.length) = some 0 := by decide +kernel
theorem yp_yX12_rounded : yX12_rounded.cls ≠ "java/lang/invoke/MethodHandle" ∧ yX12_rounded.cls ≠ "java/lang/invoke/VarHandle" ∧ (parseMethodDescriptor yX12_rounded.desc).map (fun d => d.parameters.length) = some 3 := by decide +kernel
theorem yp_yX12_rowOf : yX12_rowOf.cls ≠ "java/lang/invoke/MethodHandle" ∧ yX12_rowOf.cls ≠ "java/lang/invoke/VarHandle" ∧ (parseMethodDescriptor yX12_rowOf.desc).map (fun d => d.parameters.length) = some 2 := by decide +kernel
theorem yp_yX12_ruleOf : yX12_ruleOf.cls ≠ "java/lang/invoke/MethodHandle" ∧ yX12_ruleOf.cls ≠ "java/lang/invoke/VarHandle" ∧ (parseMethodDescriptor yX12_ruleOf.desc).map (fun d => d.parameters.length) = some 2 := by decide +kernel
theorem yp_yX12_says : yX12_says.cls ≠ "java/lang/invoke/MethodHandle" ∧ yX12_says.cls ≠ "java/lang/invoke/VarHandle" ∧ (parseMethodDescriptor yX12_says.desc).map (fun d => d.parameters.length) = some 1 := by decide +kernel
theorem yp_yX12_see : yX12_see.cls ≠ "java/lang/invoke/MethodHandle" ∧ yX12_see.cls ≠ "java/lang/invoke/VarHandle" ∧ (parseMethodDescriptor yX12_see.desc).map (fun d => d.parameters.length) = some 1 := by decide +kernel
theorem yp_yX12_shop : yX12_shop.cls ≠ "java/lang/invoke/MethodHandle" ∧ yX12_shop.cls ≠ "java/lang/invoke/VarHandle" ∧ (parseMethodDescriptor yX12_shop.desc).map (fun d => d.parameters.length) = some 2 := by decide +kernel
theorem yp_yX12_show : yX12_show.cls ≠ "java/lang/invoke/MethodHandle" ∧ yX12_show.cls ≠ "java/lang/invoke/VarHandle" ∧ (parseMethodDescriptor yX12_show.desc).map (fun d => d.parameters.length) = some 0 := by decide +kernel
theorem yp_yX12_sought : yX12_sought.cls ≠ "java/lang/invoke/MethodHandle" ∧ yX12_sought.cls ≠ "java/lang/invoke/VarHandle" ∧ (parseMethodDescriptor yX12_sought.desc).map (fun d => d.parameters.length) = some 2 := by decide +kernel
theorem yp_yX12_table : yX12_table.cls ≠ "java/lang/invoke/MethodHandle" ∧ yX12_table.cls ≠ "java/lang/invoke/VarHandle" ∧ (parseMethodDescriptor yX12_table.desc).map (fun d => d.parameters.length) = some 1 := by decide +kernel
theorem yp_yX12_takes : yX12_takes.cls ≠ "java/lang/invoke/MethodHandle" ∧ yX12_takes.cls ≠ "java/lang/invoke/VarHandle" ∧ (parseMethodDescriptor yX12_takes.desc).map (fun d => d.parameters.length) = some 2 := by decide +kernel
theorem yp_yX12_times : yX12_times.cls ≠ "java/lang/invoke/MethodHandle" ∧ yX12_times.cls ≠ "java/lang/invoke/VarHandle" ∧ (parseMethodDescriptor yX12_times.desc).map (fun d => d.parameters.length) = some 3 := by decide +kernel
theorem yp_yX12_together : yX12_together.cls ≠ "java/lang/invoke/MethodHandle" ∧ yX12_together.cls ≠ "java/lang/invoke/VarHandle" ∧ (parseMethodDescriptor yX12_together.desc).map (fun d => d.parameters.length) = some 2 := by decide +kernel
theorem yp_yX12_turn : yX12_turn.cls ≠ "java/lang/invoke/MethodHandle" ∧ yX12_turn.cls ≠ "java/lang/invoke/VarHandle" ∧ (parseMethodDescriptor yX12_turn.desc).map (fun d => d.parameters.length) = some 4 := by decide +kernel
theorem yp_yX12_uneven : yX12_uneven.cls ≠ "java/lang/invoke/MethodHandle" ∧ yX12_uneven.cls ≠ "java/lang/invoke/VarHandle" ∧ (parseMethodDescriptor yX12_uneven.desc).map (fun d => d.parameters.length) = some 1 := by decide +kernel
theorem yp_yX12_up : yX12_up.cls ≠ "java/lang/invoke/MethodHandle" ∧ yX12_up.cls ≠ "java/lang/invoke/VarHandle" ∧ (parseMethodDescriptor yX12_up.desc).map (fun d => d.parameters.length) = some 2 := by decide +kernel
theorem yp_yX12_ways : yX12_ways.cls ≠ "java/lang/invoke/MethodHandle" ∧ yX12_ways.cls ≠ "java/lang/invoke/VarHandle" ∧ (parseMethodDescriptor yX12_ways.desc).map (fun d => d.parameters.length) = some 2 := by decide +kernel
theorem yp_yX12_weight : yX12_weight.cls ≠ "java/lang/invoke/MethodHandle" ∧ yX12_weight.cls ≠ "java/lang/invoke/VarHandle" ∧ (parseMethodDescriptor yX12_weight.desc).map (fun d => d.parameters.length) = some 2 := by decide +kernel
theorem yp_yX12_widest : yX12_widest.cls ≠ "java/lang/invoke/MethodHandle" ∧ yX12_widest.cls ≠ "java/lang/invoke/VarHandle" ∧ (parseMethodDescriptor yX12_widest.desc).map (fun d => d.parameters.length) = some 1 := by decide +kernel
theorem yp_yX12_worked : yX12_worked.cls ≠ "java/lang/invoke/MethodHandle" ∧ yX12_worked.cls ≠ "java/lang/invoke/VarHandle" ∧ (parseMethodDescriptor yX12_worked.desc).map (fun d => d.parameters.length) = some 2 := by decide +kernel
theorem yp_yX12_works : yX12_works.cls ≠ "java/lang/invoke/MethodHandle" ∧ yX12_works.cls ≠ "java/lang/invoke/VarHandle" ∧ (parseMethodDescriptor yX12_works.desc).map (fun d => d.parameters.length) = some 2 := by decide +kernel
theorem yp_yX12_worksOn : yX12_worksOn.cls ≠ "java/lang/invoke/MethodHandle" ∧ yX12_worksOn.cls ≠ "java/lang/invoke/VarHandle" ∧ (parseMethodDescriptor yX12_worksOn.desc).map (fun d => d.parameters.length) = some 1 := by decide +kernel
theorem yp_yX1_columnsOf : yX1_columnsOf.cls ≠ "java/lang/invoke/MethodHandle" ∧ yX1_columnsOf.cls ≠ "java/lang/invoke/VarHandle" ∧ (parseMethodDescriptor yX1_columnsOf.desc).map (fun d => d.parameters.length) = some 3 := by decide +kernel
theorem yp_yX1_countGroups : yX1_countGroups.cls ≠ "java/lang/invoke/MethodHandle" ∧ yX1_countGroups.cls ≠ "java/lang/invoke/VarHandle" ∧ (parseMethodDescriptor yX1_countGroups.desc).map (fun d => d.parameters.length) = some 2 := by decide +kernel
theorem yp_yX1_groupOf : yX1_groupOf.cls ≠ "java/lang/invoke/MethodHandle" ∧ yX1_groupOf.cls ≠ "java/lang/invoke/VarHandle" ∧ (parseMethodDescriptor yX1_groupOf.desc).map (fun d => d.parameters.length) = some 3 := by decide +kernel
theorem yp_yX1_kinOf : yX1_kinOf.cls ≠ "java/lang/invoke/MethodHandle" ∧ yX1_kinOf.cls ≠ "java/lang/invoke/VarHandle" ∧ (parseMethodDescriptor yX1_kinOf.desc).map (fun d => d.parameters.length) = some 3 := by decide +kernel
theorem yp_yX1_leastFullPower : yX1_leastFullPower.cls ≠ "java/lang/invoke/MethodHandle" ∧ yX1_leastFullPower.cls ≠ "java/lang/invoke/VarHandle" ∧ (parseMethodDescriptor yX1_leastFullPower.desc).map (fun d => d.parameters.length) = some 3 := by decide +kernel
theorem yp_yX1_of : yX1_of.cls ≠ "java/lang/invoke/MethodHandle" ∧ yX1_of.cls ≠ "java/lang/invoke/VarHandle" ∧ (parseMethodDescriptor yX1_of.desc).map (fun d => d.parameters.length) = some 3 := by decide +kernel
theorem yp_yX1_product : yX1_product.cls ≠ "java/lang/invoke/MethodHandle" ∧ yX1_product.cls ≠ "java/lang/invoke/VarHandle" ∧ (parseMethodDescriptor yX1_product.desc).map (fun d => d.parameters.length) = some 3 := by decide +kernel
theorem yp_yX1_reachedFrom : yX1_reachedFrom.cls ≠ "java/lang/invoke/MethodHandle" ∧ yX1_reachedFrom.cls ≠ "java/lang/invoke/VarHandle" ∧ (parseMethodDescriptor yX1_reachedFrom.desc).map (fun d => d.parameters.length) = some 3 := by decide +kernel
theorem yp_yX1_rowOf : yX1_rowOf.cls ≠ "java/lang/invoke/MethodHandle" ∧ yX1_rowOf.cls ≠ "java/lang/invoke/VarHandle" ∧ (parseMethodDescriptor yX1_rowOf.desc).map (fun d => d.parameters.length) = some 2 := by decide +kernel
theorem yp_yX1_rowsMostLacking : yX1_rowsMostLacking.cls ≠ "java/lang/invoke/MethodHandle" ∧ yX1_rowsMostLacking.cls ≠ "java/lang/invoke/VarHandle" ∧ (parseMethodDescriptor yX1_rowsMostLacking.desc).map (fun d => d.parameters.length) = some 2 := by decide +kernel
theorem yp_yX1_rowsOf : yX1_rowsOf.cls ≠ "java/lang/invoke/MethodHandle" ∧ yX1_rowsOf.cls ≠ "java/lang/invoke/VarHandle" ∧ (parseMethodDescriptor yX1_rowsOf.desc).map (fun d => d.parameters.length) = some 3 := by decide +kernel
theorem yp_yX1_through : yX1_through.cls ≠ "java/lang/invoke/MethodHandle" ∧ yX1_through.cls ≠ "java/lang/invoke/VarHandle" ∧ (parseMethodDescriptor yX1_through.desc).map (fun d => d.parameters.length) = some 3 := by decide +kernel
theorem yp_yX2_areCells : yX2_areCells.cls ≠ "java/lang/invoke/MethodHandle" ∧ yX2_areCells.cls ≠ "java/lang/invoke/VarHandle" ∧ (parseMethodDescriptor yX2_areCells.desc).map (fun d => d.parameters.length) = some 2 := by decide +kernel
theorem yp_yX2_bring : yX2_bring.cls ≠ "java/lang/invoke/MethodHandle" ∧ yX2_bring.cls ≠ "java/lang/invoke/VarHandle" ∧ (parseMethodDescriptor yX2_bring.desc).map (fun d => d.parameters.length) = some 3 := by decide +kernel
theorem yp_yX2_makeMixture : yX2_makeMixture.cls ≠ "java/lang/invoke/MethodHandle" ∧ yX2_makeMixture.cls ≠ "java/lang/invoke/VarHandle" ∧ (parseMethodDescriptor yX2_makeMixture.desc).map (fun d => d.parameters.length) = some 7 := by decide +kernel
theorem yp_yX2_makeProduct : yX2_makeProduct.cls ≠ "java/lang/invoke/MethodHandle" ∧ yX2_makeProduct.cls ≠ "java/lang/invoke/VarHandle" ∧ (parseMethodDescriptor yX2_makeProduct.desc).map (fun d => d.parameters.length) = some 3 := by decide +kernel
theorem yp_yX2_makeTurned : yX2_makeTurned.cls ≠ "java/lang/invoke/MethodHandle" ∧ yX2_makeTurned.cls ≠ "java/lang/invoke/VarHandle" ∧ (parseMethodDescriptor yX2_makeTurned.desc).map (fun d => d.parameters.length) = some 4 := by decide +kernel
theorem yp_yX2_multiplied : yX2_multiplied.cls ≠ "java/lang/invoke/MethodHandle" ∧ yX2_multiplied.cls ≠ "java/lang/invoke/VarHandle" ∧ (parseMethodDescriptor yX2_multiplied.desc).map (fun d => d.parameters.length) = some 2 := by decide +kernel
theorem yp_yX2_sharedDivisor : yX2_sharedDivisor.cls ≠ "java/lang/invoke/MethodHandle" ∧ yX2_sharedDivisor.cls ≠ "java/lang/invoke/VarHandle" ∧ (parseMethodDescriptor yX2_sharedDivisor.desc).map (fun d => d.parameters.length) = some 2 := by decide +kernel
theorem yp_yX2_turnedFrom : yX2_turnedFrom.cls ≠ "java/lang/invoke/MethodHandle" ∧ yX2_turnedFrom.cls ≠ "java/lang/invoke/VarHandle" ∧ (parseMethodDescriptor yX2_turnedFrom.desc).map (fun d => d.parameters.length) = some 5 := by decide +kernel
theorem yp_yX3_add : yX3_add.cls ≠ "java/lang/invoke/MethodHandle" ∧ yX3_add.cls ≠ "java/lang/invoke/VarHandle" ∧ (parseMethodDescriptor yX3_add.desc).map (fun d => d.parameters.length) = some 2 := by decide +kernel
theorem yp_yX3_columnOf : yX3_columnOf.cls ≠ "java/lang/invoke/MethodHandle" ∧ yX3_columnOf.cls ≠ "java/lang/invoke/VarHandle" ∧ (parseMethodDescriptor yX3_columnOf.desc).map (fun d => d.parameters.length) = some 2 := by decide +kernel
theorem yp_yX3_commonestColumn : yX3_commonestColumn.cls ≠ "java/lang/invoke/MethodHandle" ∧ yX3_commonestColumn.cls ≠ "java/lang/invoke/VarHandle" ∧ (parseMethodDescriptor yX3_commonestColumn.desc).map (fun d => d.parameters.length) = some 1 := by decide +kernel
theorem yp_yX3_countColumns : yX3_countColumns.cls ≠ "java/lang/invoke/MethodHandle" ∧ yX3_countColumns.cls ≠ "java/lang/invoke/VarHandle" ∧ (parseMethodDescriptor yX3_countColumns.desc).map (fun d => d.parameters.length) = some 1 := by decide +kernel
theorem yp_yX3_countMoves : yX3_countMoves.cls ≠ "java/lang/invoke/MethodHandle" ∧ yX3_countMoves.cls ≠ "java/lang/invoke/VarHandle" ∧ (parseMethodDescriptor yX3_countMoves.desc).map (fun d => d.parameters.length) = some 1 := by decide +kernel
theorem yp_yX3_countPieces : yX3_countPieces.cls ≠ "java/lang/invoke/MethodHandle" ∧ yX3_countPieces.cls ≠ "java/lang/invoke/VarHandle" ∧ (parseMethodDescriptor yX3_countPieces.desc).map (fun d => d.parameters.length) = some 1 := by decide +kernel
theorem yp_yX3_hasJob : yX3_hasJob.cls ≠ "java/lang/invoke/MethodHandle" ∧ yX3_hasJob.cls ≠ "java/lang/invoke/VarHandle" ∧ (parseMethodDescriptor yX3_hasJob.desc).map (fun d => d.parameters.length) = some 1 := by decide +kernel
theorem yp_yX3_hasPart : yX3_hasPart.cls ≠ "java/lang/invoke/MethodHandle" ∧ yX3_hasPart.cls ≠ "java/lang/invoke/VarHandle" ∧ (parseMethodDescriptor yX3_hasPart.desc).map (fun d => d.parameters.length) = some 1 := by decide +kernel
theorem yp_yX3_hasRow : yX3_hasRow.cls ≠ "java/lang/invoke/MethodHandle" ∧ yX3_hasRow.cls ≠ "java/lang/invoke/VarHandle" ∧ (parseMethodDescriptor yX3_hasRow.desc).map (fun d => d.parameters.length) = some 1 := by decide +kernel
theorem yp_yX3_inLeastTerms : yX3_inLeastTerms.cls ≠ "java/lang/invoke/MethodHandle" ∧ yX3_inLeastTerms.cls ≠ "java/lang/invoke/VarHandle" ∧ (parseMethodDescriptor yX3_inLeastTerms.desc).map (fun d => d.parameters.length) = some 2 := by decide +kernel
theorem yp_yX3_lastHour : yX3_lastHour.cls ≠ "java/lang/invoke/MethodHandle" ∧ yX3_lastHour.cls ≠ "java/lang/invoke/VarHandle" ∧ (parseMethodDescriptor yX3_lastHour.desc).map (fun d => d.parameters.length) = some 1 := by decide +kernel
theorem yp_yX3_machineOf : yX3_machineOf.cls ≠ "java/lang/invoke/MethodHandle" ∧ yX3_machineOf.cls ≠ "java/lang/invoke/VarHandle" ∧ (parseMethodDescriptor yX3_machineOf.desc).map (fun d => d.parameters.length) = some 2 := by decide +kernel
theorem yp_yX3_partAt : yX3_partAt.cls ≠ "java/lang/invoke/MethodHandle" ∧ yX3_partAt.cls ≠ "java/lang/invoke/VarHandle" ∧ (parseMethodDescriptor yX3_partAt.desc).map (fun d => d.parameters.length) = some 1 := by decide +kernel
theorem yp_yX3_start : yX3_start.cls ≠ "java/lang/invoke/MethodHandle" ∧ yX3_start.cls ≠ "java/lang/invoke/VarHandle" ∧ (parseMethodDescriptor yX3_start.desc).map (fun d => d.parameters.length) = some 4 := by decide +kernel
theorem yp_yX3_weightOf : yX3_weightOf.cls ≠ "java/lang/invoke/MethodHandle" ∧ yX3_weightOf.cls ≠ "java/lang/invoke/VarHandle" ∧ (parseMethodDescriptor yX3_weightOf.desc).map (fun d => d.parameters.length) = some 2 := by decide +kernel
theorem yp_yX3_weightOfBoth : yX3_weightOfBoth.cls ≠ "java/lang/invoke/MethodHandle" ∧ yX3_weightOfBoth.cls ≠ "java/lang/invoke/VarHandle" ∧ (parseMethodDescriptor yX3_weightOfBoth.desc).map (fun d => d.parameters.length) = some 4 := by decide +kernel
theorem yp_yX4_greatestDivisor : yX4_greatestDivisor.cls ≠ "java/lang/invoke/MethodHandle" ∧ yX4_greatestDivisor.cls ≠ "java/lang/invoke/VarHandle" ∧ (parseMethodDescriptor yX4_greatestDivisor.desc).map (fun d => d.parameters.length) = some 2 := by decide +kernel
theorem yp_yX4_leastMultiple : yX4_leastMultiple.cls ≠ "java/lang/invoke/MethodHandle" ∧ yX4_leastMultiple.cls ≠ "java/lang/invoke/VarHandle" ∧ (parseMethodDescriptor yX4_leastMultiple.desc).map (fun d => d.parameters.length) = some 3 := by decide +kernel
theorem yp_yX5_choiceNumber : yX5_choiceNumber.cls ≠ "java/lang/invoke/MethodHandle" ∧ yX5_choiceNumber.cls ≠ "java/lang/invoke/VarHandle" ∧ (parseMethodDescriptor yX5_choiceNumber.desc).map (fun d => d.parameters.length) = some 0 := by decide +kernel
theorem yp_yX5_choose : yX5_choose.cls ≠ "java/lang/invoke/MethodHandle" ∧ yX5_choose.cls ≠ "java/lang/invoke/VarHandle" ∧ (parseMethodDescriptor yX5_choose.desc).map (fun d => d.parameters.length) = some 1 := by decide +kernel
theorem yp_yX5_leastPlace : yX5_leastPlace.cls ≠ "java/lang/invoke/MethodHandle" ∧ yX5_leastPlace.cls ≠ "java/lang/invoke/VarHandle" ∧ (parseMethodDescriptor yX5_leastPlace.desc).map (fun d => d.parameters.length) = some 0 := by decide +kernel
theorem yp_yX5_startLike : yX5_startLike.cls ≠ "java/lang/invoke/MethodHandle" ∧ yX5_startLike.cls ≠ "java/lang/invoke/VarHandle" ∧ (parseMethodDescriptor yX5_startLike.desc).map (fun d => d.parameters.length) = some 1 := by decide +kernel
theorem yp_yX5_startShop : yX5_startShop.cls ≠ "java/lang/invoke/MethodHandle" ∧ yX5_startShop.cls ≠ "java/lang/invoke/VarHandle" ∧ (parseMethodDescriptor yX5_startShop.desc).map (fun d => d.parameters.length) = some 1 := by decide +kernel
theorem yp_yX5_startTable : yX5_startTable.cls ≠ "java/lang/invoke/MethodHandle" ∧ yX5_startTable.cls ≠ "java/lang/invoke/VarHandle" ∧ (parseMethodDescriptor yX5_startTable.desc).map (fun d => d.parameters.length) = some 1 := by decide +kernel
theorem yp_yX5_takePart : yX5_takePart.cls ≠ "java/lang/invoke/MethodHandle" ∧ yX5_takePart.cls ≠ "java/lang/invoke/VarHandle" ∧ (parseMethodDescriptor yX5_takePart.desc).map (fun d => d.parameters.length) = some 1 := by decide +kernel
theorem yp_yX6_findWay : yX6_findWay.cls ≠ "java/lang/invoke/MethodHandle" ∧ yX6_findWay.cls ≠ "java/lang/invoke/VarHandle" ∧ (parseMethodDescriptor yX6_findWay.desc).map (fun d => d.parameters.length) = some 2 := by decide +kernel
theorem yp_yX6_flowAlong : yX6_flowAlong.cls ≠ "java/lang/invoke/MethodHandle" ∧ yX6_flowAlong.cls ≠ "java/lang/invoke/VarHandle" ∧ (parseMethodDescriptor yX6_flowAlong.desc).map (fun d => d.parameters.length) = some 2 := by decide +kernel
theorem yp_yX6_isOpen : yX6_isOpen.cls ≠ "java/lang/invoke/MethodHandle" ∧ yX6_isOpen.cls ≠ "java/lang/invoke/VarHandle" ∧ (parseMethodDescriptor yX6_isOpen.desc).map (fun d => d.parameters.length) = some 2 := by decide +kernel
theorem yp_yX6_lay : yX6_lay.cls ≠ "java/lang/invoke/MethodHandle" ∧ yX6_lay.cls ≠ "java/lang/invoke/VarHandle" ∧ (parseMethodDescriptor yX6_lay.desc).map (fun d => d.parameters.length) = some 1 := by decide +kernel
theorem yp_yX6_lessen : yX6_lessen.cls ≠ "java/lang/invoke/MethodHandle" ∧ yX6_lessen.cls ≠ "java/lang/invoke/VarHandle" ∧ (parseMethodDescriptor yX6_lessen.desc).map (fun d => d.parameters.length) = some 1 := by decide +kernel
theorem yp_yX6_meetLow : yX6_meetLow.cls ≠ "java/lang/invoke/MethodHandle" ∧ yX6_meetLow.cls ≠ "java/lang/invoke/VarHandle" ∧ (parseMethodDescriptor yX6_meetLow.desc).map (fun d => d.parameters.length) = some 2 := by decide +kernel
theorem yp_yX6_meetLows : yX6_meetLows.cls ≠ "java/lang/invoke/MethodHandle" ∧ yX6_meetLows.cls ≠ "java/lang/invoke/VarHandle" ∧ (parseMethodDescriptor yX6_meetLows.desc).map (fun d => d.parameters.length) = some 1 := by decide +kernel
theorem yp_yX6_round : yX6_round.cls ≠ "java/lang/invoke/MethodHandle" ∧ yX6_round.cls ≠ "java/lang/invoke/VarHandle" ∧ (parseMethodDescriptor yX6_round.desc).map (fun d => d.parameters.length) = some 1 := by decide +kernel
theorem yp_yX6_setBounds : yX6_setBounds.cls ≠ "java/lang/invoke/MethodHandle" ∧ yX6_setBounds.cls ≠ "java/lang/invoke/VarHandle" ∧ (parseMethodDescriptor yX6_setBounds.desc).map (fun d => d.parameters.length) = some 4 := by decide +kernel
theorem yp_yX7_addWeight : yX7_addWeight.cls ≠ "java/lang/invoke/MethodHandle" ∧ yX7_addWeight.cls ≠ "java/lang/invoke/VarHandle" ∧ (parseMethodDescriptor yX7_addWeight.desc).map (fun d => d.parameters.length) = some 1 := by decide +kernel
theorem yp_yX7_countAbove : yX7_countAbove.cls ≠ "java/lang/invoke/MethodHandle" ∧ yX7_countAbove.cls ≠ "java/lang/invoke/VarHandle" ∧ (parseMethodDescriptor yX7_countAbove.desc).map (fun d => d.parameters.length) = some 2 := by decide +kernel
theorem yp_yX7_countFewest : yX7_countFewest.cls ≠ "java/lang/invoke/MethodHandle" ∧ yX7_countFewest.cls ≠ "java/lang/invoke/VarHandle" ∧ (parseMethodDescriptor yX7_countFewest.desc).map (fun d => d.parameters.length) = some 1 := by decide +kernel
theorem yp_yX7_finish : yX7_finish.cls ≠ "java/lang/invoke/MethodHandle" ∧ yX7_finish.cls ≠ "java/lang/invoke/VarHandle" ∧ (parseMethodDescriptor yX7_finish.desc).map (fun d => d.parameters.length) = some 2 := by decide +kernel
theorem yp_yX7_isNewStep : yX7_isNewStep.cls ≠ "java/lang/invoke/MethodHandle" ∧ yX7_isNewStep.cls ≠ "java/lang/invoke/VarHandle" ∧ (parseMethodDescriptor yX7_isNewStep.desc).map (fun d => d.parameters.length) = some 2 := by decide +kernel
theorem yp_yX7_leastOf : yX7_leastOf.cls ≠ "java/lang/invoke/MethodHandle" ∧ yX7_leastOf.cls ≠ "java/lang/invoke/VarHandle" ∧ (parseMethodDescriptor yX7_leastOf.desc).map (fun d => d.parameters.length) = some 1 := by decide +kernel
theorem yp_yX7_seek : yX7_seek.cls ≠ "java/lang/invoke/MethodHandle" ∧ yX7_seek.cls ≠ "java/lang/invoke/VarHandle" ∧ (parseMethodDescriptor yX7_seek.desc).map (fun d => d.parameters.length) = some 1 := by decide +kernel
theorem yp_yX8_put : yX8_put.cls ≠ "java/lang/invoke/MethodHandle" ∧ yX8_put.cls ≠ "java/lang/invoke/VarHandle" ∧ (parseMethodDescriptor yX8_put.desc).map (fun d => d.parameters.length) = some 1 := by decide +kernel
theorem yp_yX8_putNumber : yX8_putNumber.cls ≠ "java/lang/invoke/MethodHandle" ∧ yX8_putNumber.cls ≠ "java/lang/invoke/VarHandle" ∧ (parseMethodDescriptor yX8_putNumber.desc).map (fun d => d.parameters.length) = some 1 := by decide +kernel
theorem yp_yX8_write : yX8_write.cls ≠ "java/lang/invoke/MethodHandle" ∧ yX8_write.cls ≠ "java/lang/invoke/VarHandle" ∧ (parseMethodDescriptor yX8_write.desc).map (fun d => d.parameters.length) = some 1 := by decide +kernel
theorem yp_yX9_countAbove0 : yX9_countAbove0.cls ≠ "java/lang/invoke/MethodHandle" ∧ yX9_countAbove0.cls ≠ "java/lang/invoke/VarHandle" ∧ (parseMethodDescriptor yX9_countAbove0.desc).map (fun d => d.parameters.length) = some 0 := by decide +kernel
theorem yp_yX9_firstUneven : yX9_firstUneven.cls ≠ "java/lang/invoke/MethodHandle" ∧ yX9_firstUneven.cls ≠ "java/lang/invoke/VarHandle" ∧ (parseMethodDescriptor yX9_firstUneven.desc).map (fun d => d.parameters.length) = some 0 := by decide +kernel
theorem yp_yX9_greatestCell : yX9_greatestCell.cls ≠ "java/lang/invoke/MethodHandle" ∧ yX9_greatestCell.cls ≠ "java/lang/invoke/VarHandle" ∧ (parseMethodDescriptor yX9_greatestCell.desc).map (fun d => d.parameters.length) = some 0 := by decide +kernel
theorem yp_yX9_greatestSum : yX9_greatestSum.cls ≠ "java/lang/invoke/MethodHandle" ∧ yX9_greatestSum.cls ≠ "java/lang/invoke/VarHandle" ∧ (parseMethodDescriptor yX9_greatestSum.desc).map (fun d => d.parameters.length) = some 0 := by decide +kernel
theorem yp_yX9_has : yX9_has.cls ≠ "java/lang/invoke/MethodHandle" ∧ yX9_has.cls ≠ "java/lang/invoke/VarHandle" ∧ (parseMethodDescriptor yX9_has.desc).map (fun d => d.parameters.length) = some 1 := by decide +kernel
theorem yp_yX9_joinedBy : yX9_joinedBy.cls ≠ "java/lang/invoke/MethodHandle" ∧ yX9_joinedBy.cls ≠ "java/lang/invoke/VarHandle" ∧ (parseMethodDescriptor yX9_joinedBy.desc).map (fun d => d.parameters.length) = some 1 := by decide +kernel
theorem yp_yX9_settle : yX9_settle.cls ≠ "java/lang/invoke/MethodHandle" ∧ yX9_settle.cls ≠ "java/lang/invoke/VarHandle" ∧ (parseMethodDescriptor yX9_settle.desc).map (fun d => d.parameters.length) = some 2 := by decide +kernel
theorem yp_yX9_sumOfColumn : yX9_sumOfColumn.cls ≠ "java/lang/invoke/MethodHandle" ∧ yX9_sumOfColumn.cls ≠ "java/lang/invoke/VarHandle" ∧ (parseMethodDescriptor yX9_sumOfColumn.desc).map (fun d => d.parameters.length) = some 1 := by decide +kernel
theorem yp_yX9_sumOfRow : yX9_sumOfRow.cls ≠ "java/lang/invoke/MethodHandle" ∧ yX9_sumOfRow.cls ≠ "java/lang/invoke/VarHandle" ∧ (parseMethodDescriptor yX9_sumOfRow.desc).map (fun d => d.parameters.length) = some 1 := by decide +kernel
theorem ml_L_13 : eLkV RL 13 yX11_feed 5 := ⟨(wd2 78 rfl rfl), (wd1 1 rfl rfl), (wd2 79 rfl rfl), (wd2 80 rfl rfl), yp_yX11_feed.1, yp_yX11_feed.2.1, yp_yX11_feed.2.2⟩
theorem ml_L_17 : eLkV RL 17 yX12_feed 5 := ⟨(wd5 149 rfl rfl), (wd1 11 rfl rfl), (wd5 150 rfl rfl), (wd5 151 rfl rfl), yp_yX12_feed.1, yp_yX12_feed.2.1, yp_yX12_feed.2.2⟩
theorem ml_L_18 : eLkV RL 18 yX11_end 1 := ⟨(wd2 90 rfl rfl), (wd1 1 rfl rfl), (wd2 91 rfl rfl), (wd2 92 rfl rfl), yp_yX11_end.1, yp_yX11_end.2.1, yp_yX11_end.2.2⟩
theorem ml_L_22 : eLkV RL 22 yX12_end 1 := ⟨(wd5 157 rfl rfl), (wd1 11 rfl rfl), (wd5 158 rfl rfl), (wd5 159 rfl rfl), yp_yX12_end.1, yp_yX12_end.2.1, yp_yX12_end.2.2⟩
theorem ml_L_23 : eLkV RL 23 yX11_table 1 := ⟨(wd2 94 rfl rfl), (wd1 1 rfl rfl), (wd2 95 rfl rfl), (wd2 96 rfl rfl), yp_yX11_table.1, yp_yX11_table.2.1, yp_yX11_table.2.2⟩
theorem ml_L_27 : eLkV RL 27 yX12_table 1 := ⟨(wd5 161 rfl rfl), (wd1 11 rfl rfl), (wd5 162 rfl rfl), (wd5 163 rfl rfl), yp_yX12_table.1, yp_yX12_table.2.1, yp_yX12_table.2.2⟩
theorem ml_L_28 : eLkV RL 28 yX11_fault 1 := ⟨(wd2 203 rfl rfl), (wd1 1 rfl rfl), (wd2 204 rfl rfl), (wd2 205 rfl rfl), yp_yX11_fault.1, yp_yX11_fault.2.1, yp_yX11_fault.2.2⟩
theorem ml_L_31 : eLkV RL 31 yX12_fault 1 := ⟨(wd5 204 rfl rfl), (wd1 11 rfl rfl), (wd5 205 rfl rfl), (wd5 206 rfl rfl), yp_yX12_fault.1, yp_yX12_fault.2.1, yp_yX12_fault.2.2⟩
theorem ml_L_32 : eLkV RL 32 yX11_look 2 := ⟨(wd2 207 rfl rfl), (wd1 1 rfl rfl), (wd2 208 rfl rfl), (wd2 209 rfl rfl), yp_yX11_look.1, yp_yX11_look.2.1, yp_yX11_look.2.2⟩
theorem ml_L_36 : eLkV RL 36 yX12_look 2 := ⟨(wd5 208 rfl rfl), (wd1 11 rfl rfl), (wd5 209 rfl rfl), (wd5 210 rfl rfl), yp_yX12_look.1, yp_yX12_look.2.1, yp_yX12_look.2.2⟩
theorem ml_L_37 : eLkV RL 37 yX11_cell 3 := ⟨(wd3 15 rfl rfl), (wd1 1 rfl rfl), (wd3 16 rfl rfl), (wd3 17 rfl rfl), yp_yX11_cell.1, yp_yX11_cell.2.1, yp_yX11_cell.2.2⟩
theorem ml_L_41 : eLkV RL 41 yX12_cell 3 := ⟨(wd5 229 rfl rfl), (wd1 11 rfl rfl), (wd5 230 rfl rfl), (wd5 231 rfl rfl), yp_yX12_cell.1, yp_yX12_cell.2.1, yp_yX12_cell.2.2⟩
theorem ml_L_42 : eLkV RL 42 yX11_uneven 1 := ⟨(wd3 23 rfl rfl), (wd1 1 rfl rfl), (wd3 24 rfl rfl), (wd3 25 rfl rfl), yp_yX11_uneven.1, yp_yX11_uneven.2.1, yp_yX11_uneven.2.2⟩
theorem ml_L_45 : eLkV RL 45 yX12_uneven 1 := ⟨(wd5 122 rfl rfl), (wd1 11 rfl rfl), (wd5 123 rfl rfl), (wd5 124 rfl rfl), yp_yX12_uneven.1, yp_yX12_uneven.2.1, yp_yX12_uneven.2.2⟩
theorem ml_L_46 : eLkV RL 46 yX11_mix 7 := ⟨(wd3 32 rfl rfl), (wd1 1 rfl rfl), (wd3 33 rfl rfl), (wd3 34 rfl rfl), yp_yX11_mix.1, yp_yX11_mix.2.1, yp_yX11_mix.2.2⟩
theorem ml_L_50 : eLkV RL 50 yX12_mix 7 := ⟨(wd5 237 rfl rfl), (wd1 11 rfl rfl), (wd5 238 rfl rfl), (wd5 239 rfl rfl), yp_yX12_mix.1, yp_yX12_mix.2.1, yp_yX12_mix.2.2⟩
theorem ml_L_51 : eLkV RL 51 yX11_times 3 := ⟨(wd3 70 rfl rfl), (wd1 1 rfl rfl), (wd3 71 rfl rfl), (wd3 72 rfl rfl), yp_yX11_times.1, yp_yX11_times.2.1, yp_yX11_times.2.2⟩
theorem ml_L_55 : eLkV RL 55 yX12_times 3 := ⟨(wd6 11 rfl rfl), (wd1 11 rfl rfl), (wd6 12 rfl rfl), (wd6 13 rfl rfl), yp_yX12_times.1, yp_yX12_times.2.1, yp_yX12_times.2.2⟩
theorem ml_L_56 : eLkV RL 56 yX11_turn 4 := ⟨(wd3 78 rfl rfl), (wd1 1 rfl rfl), (wd3 79 rfl rfl), (wd3 80 rfl rfl), yp_yX11_turn.1, yp_yX11_turn.2.1, yp_yX11_turn.2.2⟩
theorem ml_L_60 : eLkV RL 60 yX12_turn 4 := ⟨(wd6 15 rfl rfl), (wd1 11 rfl rfl), (wd6 16 rfl rfl), (wd6 17 rfl rfl), yp_yX12_turn.1, yp_yX12_turn.2.1, yp_yX12_turn.2.2⟩
theorem ml_L_61 : eLkV RL 61 yX11_peel 2 := ⟨(wd3 89 rfl rfl), (wd1 1 rfl rfl), (wd3 90 rfl rfl), (wd3 91 rfl rfl), yp_yX11_peel.1, yp_yX11_peel.2.1, yp_yX11_peel.2.2⟩
theorem ml_L_64 : eLkV RL 64 yX12_peel 2 := ⟨(wd6 23 rfl rfl), (wd1 11 rfl rfl), (wd6 24 rfl rfl), (wd6 25 rfl rfl), yp_yX12_peel.1, yp_yX12_peel.2.1, yp_yX12_peel.2.2⟩
theorem ml_L_65 : eLkV RL 65 yX11_part 2 := ⟨(wd3 176 rfl rfl), (wd1 1 rfl rfl), (wd3 177 rfl rfl), (wd3 178 rfl rfl), yp_yX11_part.1, yp_yX11_part.2.1, yp_yX11_part.2.2⟩
theorem ml_L_68 : eLkV RL 68 yX12_part 2 := ⟨(wd6 78 rfl rfl), (wd1 11 rfl rfl), (wd6 79 rfl rfl), (wd6 80 rfl rfl), yp_yX12_part.1, yp_yX12_part.2.1, yp_yX12_part.2.2⟩
theorem ml_L_69 : eLkV RL 69 yX11_weight 2 := ⟨(wd3 192 rfl rfl), (wd1 1 rfl rfl), (wd3 193 rfl rfl), (wd3 194 rfl rfl), yp_yX11_weight.1, yp_yX11_weight.2.1, yp_yX11_weight.2.2⟩
theorem ml_L_72 : eLkV RL 72 yX12_weight 2 := ⟨(wd6 90 rfl rfl), (wd1 11 rfl rfl), (wd6 91 rfl rfl), (wd6 92 rfl rfl), yp_yX12_weight.1, yp_yX12_weight.2.1, yp_yX12_weight.2.2⟩
theorem ml_L_73 : eLkV RL 73 yX11_draw 1 := ⟨(wd3 201 rfl rfl), (wd1 1 rfl rfl), (wd3 202 rfl rfl), (wd3 203 rfl rfl), yp_yX11_draw.1, yp_yX11_draw.2.1, yp_yX11_draw.2.2⟩
theorem ml_L_76 : eLkV RL 76 yX12_draw 1 := ⟨(wd6 95 rfl rfl), (wd1 11 rfl rfl), (wd6 96 rfl rfl), (wd6 97 rfl rfl), yp_yX12_draw.1, yp_yX12_draw.2.1, yp_yX12_draw.2.2⟩
theorem ml_L_77 : eLkV RL 77 yX11_joint 5 := ⟨(wd3 209 rfl rfl), (wd1 1 rfl rfl), (wd3 210 rfl rfl), (wd3 211 rfl rfl), yp_yX11_joint.1, yp_yX11_joint.2.1, yp_yX11_joint.2.2⟩
theorem ml_L_80 : eLkV RL 80 yX12_joint 5 := ⟨(wd6 99 rfl rfl), (wd1 11 rfl rfl), (wd6 100 rfl rfl), (wd6 101 rfl rfl), yp_yX12_joint.1, yp_yX12_joint.2.1, yp_yX12_joint.2.2⟩
theorem ml_L_81 : eLkV RL 81 yX11_bound 2 := ⟨(wd3 218 rfl rfl), (wd1 1 rfl rfl), (wd3 219 rfl rfl), (wd3 220 rfl rfl), yp_yX11_bound.1, yp_yX11_bound.2.1, yp_yX11_bound.2.2⟩
theorem ml_L_84 : eLkV RL 84 yX12_bound 2 := ⟨(wd6 111 rfl rfl), (wd1 11 rfl rfl), (wd6 112 rfl rfl), (wd6 113 rfl rfl), yp_yX12_bound.1, yp_yX12_bound.2.1, yp_yX12_bound.2.2⟩
theorem ml_L_85 : eLkV RL 85 yX11_lack 3 := ⟨(wd4 2 rfl rfl), (wd1 1 rfl rfl), (wd4 3 rfl rfl), (wd4 4 rfl rfl), yp_yX11_lack.1, yp_yX11_lack.2.1, yp_yX11_lack.2.2⟩
theorem ml_L_88 : eLkV RL 88 yX12_lack 3 := ⟨(wd6 157 rfl rfl), (wd1 11 rfl rfl), (wd6 158 rfl rfl), (wd6 159 rfl rfl), yp_yX12_lack.1, yp_yX12_lack.2.1, yp_yX12_lack.2.2⟩
theorem ml_L_89 : eLkV RL 89 yX11_paired 3 := ⟨(wd4 15 rfl rfl), (wd1 1 rfl rfl), (wd4 16 rfl rfl), (wd4 17 rfl rfl), yp_yX11_paired.1, yp_yX11_paired.2.1, yp_yX11_paired.2.2⟩
theorem ml_L_92 : eLkV RL 92 yX12_paired 3 := ⟨(wd6 168 rfl rfl), (wd1 11 rfl rfl), (wd6 169 rfl rfl), (wd6 170 rfl rfl), yp_yX12_paired.1, yp_yX12_paired.2.1, yp_yX12_paired.2.2⟩
theorem ml_L_93 : eLkV RL 93 yX11_ways 2 := ⟨(wd4 20 rfl rfl), (wd1 1 rfl rfl), (wd4 21 rfl rfl), (wd4 22 rfl rfl), yp_yX11_ways.1, yp_yX11_ways.2.1, yp_yX11_ways.2.2⟩
theorem ml_L_96 : eLkV RL 96 yX12_ways 2 := ⟨(wd6 172 rfl rfl), (wd1 11 rfl rfl), (wd6 173 rfl rfl), (wd6 174 rfl rfl), yp_yX12_ways.1, yp_yX12_ways.2.1, yp_yX12_ways.2.2⟩
theorem ml_L_97 : eLkV RL 97 yX11_widest 1 := ⟨(wd4 28 rfl rfl), (wd1 1 rfl rfl), (wd4 29 rfl rfl), (wd4 30 rfl rfl), yp_yX11_widest.1, yp_yX11_widest.2.1, yp_yX11_widest.2.2⟩
theorem ml_L_100 : eLkV RL 100 yX12_widest 1 := ⟨(wd6 180 rfl rfl), (wd1 11 rfl rfl), (wd6 181 rfl rfl), (wd6 182 rfl rfl), yp_yX12_widest.1, yp_yX12_widest.2.1, yp_yX12_widest.2.2⟩
theorem ml_L_101 : eLkV RL 101 yX11_best 2 := ⟨(wd4 33 rfl rfl), (wd1 1 rfl rfl), (wd4 34 rfl rfl), (wd4 35 rfl rfl), yp_yX11_best.1, yp_yX11_best.2.1, yp_yX11_best.2.2⟩
theorem ml_L_105 : eLkV RL 105 yX12_best 2 := ⟨(wd6 184 rfl rfl), (wd1 11 rfl rfl), (wd6 185 rfl rfl), (wd6 186 rfl rfl), yp_yX12_best.1, yp_yX12_best.2.1, yp_yX12_best.2.2⟩
theorem ml_L_106 : eLkV RL 106 yX11_permanent 1 := ⟨(wd4 39 rfl rfl), (wd1 1 rfl rfl), (wd4 40 rfl rfl), (wd4 41 rfl rfl), yp_yX11_permanent.1, yp_yX11_permanent.2.1, yp_yX11_permanent.2.2⟩
theorem ml_L_110 : eLkV RL 110 yX12_permanent 1 := ⟨(wd6 189 rfl rfl), (wd1 11 rfl rfl), (wd6 190 rfl rfl), (wd6 191 rfl rfl), yp_yX12_permanent.1, yp_yX12_permanent.2.1, yp_yX12_permanent.2.2⟩
theorem ml_L_111 : eLkV RL 111 yX11_sought 2 := ⟨(wd4 52 rfl rfl), (wd1 1 rfl rfl), (wd4 53 rfl rfl), (wd4 54 rfl rfl), yp_yX11_sought.1, yp_yX11_sought.2.1, yp_yX11_sought.2.2⟩
theorem ml_L_114 : eLkV RL 114 yX12_sought 2 := ⟨(wd6 123 rfl rfl), (wd1 11 rfl rfl), (wd6 124 rfl rfl), (wd6 125 rfl rfl), yp_yX12_sought.1, yp_yX12_sought.2.1, yp_yX12_sought.2.2⟩
theorem ml_L_115 : eLkV RL 115 yX11_rounded 3 := ⟨(wd4 76 rfl rfl), (wd1 1 rfl rfl), (wd4 77 rfl rfl), (wd4 78 rfl rfl), yp_yX11_rounded.1, yp_yX11_rounded.2.1, yp_yX11_rounded.2.2⟩
theorem ml_L_118 : eLkV RL 118 yX12_rounded 3 := ⟨(wd6 131 rfl rfl), (wd1 11 rfl rfl), (wd6 132 rfl rfl), (wd6 133 rfl rfl), yp_yX12_rounded.1, yp_yX12_rounded.2.1, yp_yX12_rounded.2.2⟩
theorem ml_L_119 : eLkV RL 119 yX11_most 2 := ⟨(wd4 117 rfl rfl), (wd1 1 rfl rfl), (wd4 118 rfl rfl), (wd4 119 rfl rfl), yp_yX11_most.1, yp_yX11_most.2.1, yp_yX11_most.2.2⟩
theorem ml_L_122 : eLkV RL 122 yX12_most 2 := ⟨(wd6 103 rfl rfl), (wd1 11 rfl rfl), (wd6 104 rfl rfl), (wd6 105 rfl rfl), yp_yX12_most.1, yp_yX12_most.2.1, yp_yX12_most.2.2⟩
theorem ml_L_123 : eLkV RL 123 yX11_mixing 1 := ⟨(wd4 136 rfl rfl), (wd1 1 rfl rfl), (wd4 137 rfl rfl), (wd4 138 rfl rfl), yp_yX11_mixing.1, yp_yX11_mixing.2.1, yp_yX11_mixing.2.2⟩
theorem ml_L_126 : eLkV RL 126 yX12_mixing 1 := ⟨(wd6 194 rfl rfl), (wd1 11 rfl rfl), (wd6 195 rfl rfl), (wd6 196 rfl rfl), yp_yX12_mixing.1, yp_yX12_mixing.2.1, yp_yX12_mixing.2.2⟩
theorem ml_L_127 : eLkV RL 127 yX11_kin 2 := ⟨(wd4 146 rfl rfl), (wd1 1 rfl rfl), (wd4 147 rfl rfl), (wd4 148 rfl rfl), yp_yX11_kin.1, yp_yX11_kin.2.1, yp_yX11_kin.2.2⟩
theorem ml_L_130 : eLkV RL 130 yX12_kin 2 := ⟨(wd6 198 rfl rfl), (wd1 11 rfl rfl), (wd6 199 rfl rfl), (wd6 200 rfl rfl), yp_yX12_kin.1, yp_yX12_kin.2.1, yp_yX12_kin.2.2⟩
theorem ml_L_131 : eLkV RL 131 yX11_show 0 := ⟨(wd4 156 rfl rfl), (wd1 1 rfl rfl), (wd4 157 rfl rfl), (wd4 158 rfl rfl), yp_yX11_show.1, yp_yX11_show.2.1, yp_yX11_show.2.2⟩
theorem ml_L_135 : eLkV RL 135 yX12_show 0 := ⟨(wd6 202 rfl rfl), (wd1 11 rfl rfl), (wd6 203 rfl rfl), (wd6 204 rfl rfl), yp_yX12_show.1, yp_yX12_show.2.1, yp_yX12_show.2.2⟩
theorem ml_L_136 : eLkV RL 136 yX11_out 1 := ⟨(wd4 173 rfl rfl), (wd1 1 rfl rfl), (wd4 174 rfl rfl), (wd4 175 rfl rfl), yp_yX11_out.1, yp_yX11_out.2.1, yp_yX11_out.2.2⟩
theorem ml_L_139 : eLkV RL 139 yX12_out 1 := ⟨(wd6 210 rfl rfl), (wd1 11 rfl rfl), (wd6 211 rfl rfl), (wd6 212 rfl rfl), yp_yX12_out.1, yp_yX12_out.2.1, yp_yX12_out.2.2⟩
theorem ml_L_140 : eLkV RL 140 yX11_shop 2 := ⟨(wd4 177 rfl rfl), (wd1 1 rfl rfl), (wd4 178 rfl rfl), (wd4 179 rfl rfl), yp_yX11_shop.1, yp_yX11_shop.2.1, yp_yX11_shop.2.2⟩
theorem ml_L_143 : eLkV RL 143 yX12_shop 2 := ⟨(wd6 214 rfl rfl), (wd1 11 rfl rfl), (wd6 215 rfl rfl), (wd6 216 rfl rfl), yp_yX12_shop.1, yp_yX12_shop.2.1, yp_yX12_shop.2.2⟩
theorem ml_L_144 : eLkV RL 144 yX11_works 2 := ⟨(wd4 192 rfl rfl), (wd1 1 rfl rfl), (wd4 193 rfl rfl), (wd4 194 rfl rfl), yp_yX11_works.1, yp_yX11_works.2.1, yp_yX11_works.2.2⟩
theorem ml_L_147 : eLkV RL 147 yX12_works 2 := ⟨(wd6 218 rfl rfl), (wd1 11 rfl rfl), (wd6 219 rfl rfl), (wd6 220 rfl rfl), yp_yX12_works.1, yp_yX12_works.2.1, yp_yX12_works.2.2⟩
theorem ml_L_148 : eLkV RL 148 yX11_job 2 := ⟨(wd4 204 rfl rfl), (wd1 1 rfl rfl), (wd4 205 rfl rfl), (wd4 206 rfl rfl), yp_yX11_job.1, yp_yX11_job.2.1, yp_yX11_job.2.2⟩
theorem ml_L_151 : eLkV RL 151 yX12_job 2 := ⟨(wd6 227 rfl rfl), (wd1 11 rfl rfl), (wd6 228 rfl rfl), (wd6 229 rfl rfl), yp_yX12_job.1, yp_yX12_job.2.1, yp_yX12_job.2.2⟩
theorem ml_L_152 : eLkV RL 152 yX11_kept 1 := ⟨(wd4 221 rfl rfl), (wd1 1 rfl rfl), (wd4 222 rfl rfl), (wd4 223 rfl rfl), yp_yX11_kept.1, yp_yX11_kept.2.1, yp_yX11_kept.2.2⟩
theorem ml_L_155 : eLkV RL 155 yX12_kept 1 := ⟨(wd6 231 rfl rfl), (wd1 11 rfl rfl), (wd6 232 rfl rfl), (wd6 233 rfl rfl), yp_yX12_kept.1, yp_yX12_kept.2.1, yp_yX12_kept.2.2⟩
theorem ml_X0_26 : eLkS RX0 26 yX1_rowOf 2 := ⟨(wd3 130 rfl rfl), (wd1 14 rfl rfl), (wd3 3 rfl rfl), yp_yX1_rowOf.1, yp_yX1_rowOf.2.1, yp_yX1_rowOf.2.2⟩
theorem ml_X0_32 : eLkV RX0 32 yX0_nextColumn 4 := ⟨(wd3 142 rfl rfl), (wd1 4 rfl rfl), (wd3 144 rfl rfl), (ws2 9 rfl), yp_yX0_nextColumn.1, yp_yX0_nextColumn.2.1, yp_yX0_nextColumn.2.2⟩
theorem ml_X0_38 : eLkS RX0 38 yJ6_bitCount_0f7a4 1 := ⟨(wd3 129 rfl rfl), (wd1 16 rfl rfl), (wd3 10 rfl rfl), yp_yJ6_bitCount_0f7a4.1, yp_yJ6_bitCount_0f7a4.2.1, yp_yJ6_bitCount_0f7a4.2.2⟩
theorem ml_X0_46 : eLkS RX0 46 yJ9_min_f86c9 2 := ⟨(wd3 132 rfl rfl), (wd1 13 rfl rfl), (wd3 133 rfl rfl), yp_yJ9_min_f86c9.1, yp_yJ9_min_f86c9.2.1, yp_yJ9_min_f86c9.2.2⟩
theorem ml_X0_52 : eLkS RX0 52 yJ9_max_f86c9 2 := ⟨(wd3 135 rfl rfl), (wd1 13 rfl rfl), (wd3 136 rfl rfl), yp_yJ9_max_f86c9.1, yp_yJ9_max_f86c9.2.1, yp_yJ9_max_f86c9.2.2⟩
theorem ml_X0_55 : eLkV RX0 55 yX0_sumUp 3 := ⟨(wd3 159 rfl rfl), (wd1 4 rfl rfl), (wd3 161 rfl rfl), (ws2 11 rfl), yp_yX0_sumUp.1, yp_yX0_sumUp.2.1, yp_yX0_sumUp.2.2⟩
theorem ml_X0_59 : eLkV RX0 59 yX0_richestColumn 5 := ⟨(wd3 163 rfl rfl), (wd1 4 rfl rfl), (wd3 165 rfl rfl), (ws2 12 rfl), yp_yX0_richestColumn.1, yp_yX0_richestColumn.2.1, yp_yX0_richestColumn.2.2⟩
theorem ml_X0_63 : eLkV RX0 63 yX0_multiplySet 3 := ⟨(wd4 47 rfl rfl), (wd1 4 rfl rfl), (wd4 49 rfl rfl), (ws2 14 rfl), yp_yX0_multiplySet.1, yp_yX0_multiplySet.2.1, yp_yX0_multiplySet.2.2⟩
theorem ml_X1_17 : eLkS RX1 17 yX1_rowOf 2 := ⟨(wd3 2 rfl rfl), (wd1 14 rfl rfl), (wd3 3 rfl rfl), yp_yX1_rowOf.1, yp_yX1_rowOf.2.1, yp_yX1_rowOf.2.2⟩
theorem ml_X1_21 : eLkS RX1 21 yX1_groupOf 3 := ⟨(wd2 236 rfl rfl), (wd1 14 rfl rfl), (wd2 237 rfl rfl), yp_yX1_groupOf.1, yp_yX1_groupOf.2.1, yp_yX1_groupOf.2.2⟩
theorem ml_X1_25 : eLkS RX1 25 yX1_columnsOf 3 := ⟨(wd2 239 rfl rfl), (wd1 14 rfl rfl), (wd3 0 rfl rfl), yp_yX1_columnsOf.1, yp_yX1_columnsOf.2.1, yp_yX1_columnsOf.2.2⟩
theorem ml_X1_28 : eLkS RX1 28 yJ6_bitCount_0f7a4 1 := ⟨(wd3 9 rfl rfl), (wd1 16 rfl rfl), (wd3 10 rfl rfl), yp_yJ6_bitCount_0f7a4.1, yp_yJ6_bitCount_0f7a4.2.1, yp_yJ6_bitCount_0f7a4.2.2⟩
theorem ml_X1_34 : eLkS RX1 34 yX1_rowsOf 3 := ⟨(wd3 6 rfl rfl), (wd1 14 rfl rfl), (wd3 7 rfl rfl), yp_yX1_rowsOf.1, yp_yX1_rowsOf.2.1, yp_yX1_rowsOf.2.2⟩
theorem ml_X1_37 : eLkS RX1 37 yX1_reachedFrom 3 := ⟨(wd4 153 rfl rfl), (wd1 14 rfl rfl), (wd4 154 rfl rfl), yp_yX1_reachedFrom.1, yp_yX1_reachedFrom.2.1, yp_yX1_reachedFrom.2.2⟩
theorem ml_X1_40 : eLkS RX1 40 yX1_product 3 := ⟨(wd4 143 rfl rfl), (wd1 14 rfl rfl), (wd4 144 rfl rfl), yp_yX1_product.1, yp_yX1_product.2.1, yp_yX1_product.2.2⟩
theorem ml_X10_43 : eLkV RX10 43 yX10_readPiece 0 := ⟨(wd2 110 rfl rfl), (wd1 2 rfl rfl), (wd2 112 rfl rfl), (ws1 1 rfl), yp_yX10_readPiece.1, yp_yX10_readPiece.2.1, yp_yX10_readPiece.2.2⟩
theorem ml_X10_46 : eLkV RX10 46 yX10_checkEnd 0 := ⟨(wd2 161 rfl rfl), (wd1 2 rfl rfl), (wd2 163 rfl rfl), (ws1 13 rfl), yp_yX10_checkEnd.1, yp_yX10_checkEnd.2.1, yp_yX10_checkEnd.2.2⟩
theorem ml_X10_49 : eLkV RX10 49 yX10_fill 1 := ⟨(wd2 165 rfl rfl), (wd1 2 rfl rfl), (wd2 167 rfl rfl), (ws1 14 rfl), yp_yX10_fill.1, yp_yX10_fill.2.1, yp_yX10_fill.2.2⟩
theorem ml_X10_58 : eLkV RX10 58 yX10_isBlank 1 := ⟨(wd2 114 rfl rfl), (wd1 2 rfl rfl), (wd2 116 rfl rfl), (ws1 2 rfl), yp_yX10_isBlank.1, yp_yX10_isBlank.2.1, yp_yX10_isBlank.2.2⟩
theorem ml_X10_62 : eLkV RX10 62 yX10_isSign 2 := ⟨(wd2 118 rfl rfl), (wd1 2 rfl rfl), (wd2 120 rfl rfl), (ws1 3 rfl), yp_yX10_isSign.1, yp_yX10_isSign.2.1, yp_yX10_isSign.2.2⟩
theorem ml_X10_66 : eLkV RX10 66 yX10_closeRow 0 := ⟨(wd2 122 rfl rfl), (wd1 2 rfl rfl), (wd2 124 rfl rfl), (ws1 4 rfl), yp_yX10_closeRow.1, yp_yX10_closeRow.2.1, yp_yX10_closeRow.2.2⟩
theorem ml_X10_69 : eLkV RX10 69 yX10_isDigit 1 := ⟨(wd2 130 rfl rfl), (wd1 2 rfl rfl), (wd2 132 rfl rfl), (ws1 6 rfl), yp_yX10_isDigit.1, yp_yX10_isDigit.2.1, yp_yX10_isDigit.2.2⟩
theorem ml_X10_72 : eLkV RX10 72 yX10_readFraction 0 := ⟨(wd2 134 rfl rfl), (wd1 2 rfl rfl), (wd2 136 rfl rfl), (ws1 7 rfl), yp_yX10_readFraction.1, yp_yX10_readFraction.2.1, yp_yX10_readFraction.2.2⟩
theorem ml_X10_75 : eLkV RX10 75 yX10_fail 2 := ⟨(wd2 126 rfl rfl), (wd1 2 rfl rfl), (wd2 128 rfl rfl), (ws1 5 rfl), yp_yX10_fail.1, yp_yX10_fail.2.1, yp_yX10_fail.2.2⟩
theorem ml_X10_79 : eLkV RX10 79 yX10_countDigits 0 := ⟨(wd2 138 rfl rfl), (wd1 2 rfl rfl), (wd2 140 rfl rfl), (ws1 8 rfl), yp_yX10_countDigits.1, yp_yX10_countDigits.2.1, yp_yX10_countDigits.2.2⟩
theorem ml_X10_83 : eLkV RX10 83 yX10_readNumber 0 := ⟨(wd2 142 rfl rfl), (wd1 2 rfl rfl), (wd2 144 rfl rfl), (ws1 9 rfl), yp_yX10_readNumber.1, yp_yX10_readNumber.2.1, yp_yX10_readNumber.2.2⟩
theorem ml_X10_86 : eLkV RX10 86 yX10_readDivisor 0 := ⟨(wd2 146 rfl rfl), (wd1 2 rfl rfl), (wd2 148 rfl rfl), (ws1 10 rfl), yp_yX10_readDivisor.1, yp_yX10_readDivisor.2.1, yp_yX10_readDivisor.2.2⟩
theorem ml_X10_89 : eLkV RX10 89 yX10_keepFraction 2 := ⟨(wd2 154 rfl rfl), (wd1 2 rfl rfl), (wd2 156 rfl rfl), (ws1 12 rfl), yp_yX10_keepFraction.1, yp_yX10_keepFraction.2.1, yp_yX10_keepFraction.2.2⟩
theorem ml_X10_92 : eLkV RX10 92 yX10_skipBlanks 0 := ⟨(wd2 150 rfl rfl), (wd1 2 rfl rfl), (wd2 152 rfl rfl), (ws1 11 rfl), yp_yX10_skipBlanks.1, yp_yX10_skipBlanks.2.1, yp_yX10_skipBlanks.2.2⟩
theorem ml_X10_95 : eLkS RX10 95 yX4_greatestDivisor 2 := ⟨(wd2 158 rfl rfl), (wd1 12 rfl rfl), (wd2 159 rfl rfl), yp_yX4_greatestDivisor.1, yp_yX4_greatestDivisor.2.1, yp_yX4_greatestDivisor.2.2⟩
theorem ml_X10_101 : eLkV RX10 101 yX10_commonBelow 0 := ⟨(wd2 169 rfl rfl), (wd1 2 rfl rfl), (wd2 171 rfl rfl), (ws1 15 rfl), yp_yX10_commonBelow.1, yp_yX10_commonBelow.2.1, yp_yX10_commonBelow.2.2⟩
theorem ml_X10_104 : eLkV RX10 104 yX10_areCells 1 := ⟨(wd2 179 rfl rfl), (wd1 2 rfl rfl), (wd2 181 rfl rfl), (ws2 0 rfl), yp_yX10_areCells.1, yp_yX10_areCells.2.1, yp_yX10_areCells.2.2⟩
theorem ml_X10_110 : eLkV RX10 110 yX9_settle 2 := ⟨(wd2 184 rfl rfl), (wd1 10 rfl rfl), (wd2 185 rfl rfl), (wd2 186 rfl rfl), yp_yX9_settle.1, yp_yX9_settle.2.1, yp_yX9_settle.2.2⟩
theorem ml_X10_115 : eLkS RX10 115 yX4_leastMultiple 3 := ⟨(wd2 174 rfl rfl), (wd1 12 rfl rfl), (wd2 175 rfl rfl), yp_yX4_leastMultiple.1, yp_yX4_leastMultiple.2.1, yp_yX4_leastMultiple.2.2⟩
theorem ml_X11_74 : eLkV RX11 74 yX10_hasRoom 0 := ⟨(wd2 82 rfl rfl), (wd1 2 rfl rfl), (wd2 83 rfl rfl), (wd2 84 rfl rfl), yp_yX10_hasRoom.1, yp_yX10_hasRoom.2.1, yp_yX10_hasRoom.2.2⟩
theorem ml_X11_78 : eLkV RX11 78 yX10_putNumber 1 := ⟨(wd2 86 rfl rfl), (wd1 2 rfl rfl), (wd2 87 rfl rfl), (wd2 88 rfl rfl), yp_yX10_putNumber.1, yp_yX10_putNumber.2.1, yp_yX10_putNumber.2.2⟩
theorem ml_X11_86 : eLkV RX11 86 yX11_slotAt 1 := ⟨(wd2 98 rfl rfl), (wd1 1 rfl rfl), (wd2 100 rfl rfl), (ws1 0 rfl), yp_yX11_slotAt.1, yp_yX11_slotAt.2.1, yp_yX11_slotAt.2.2⟩
theorem ml_X11_90 : eLkV RX11 90 yX10_drop 0 := ⟨(wd2 102 rfl rfl), (wd1 2 rfl rfl), (wd2 103 rfl rfl), (wd2 104 rfl rfl), yp_yX10_drop.1, yp_yX10_drop.2.1, yp_yX10_drop.2.2⟩
theorem ml_X11_93 : eLkV RX11 93 yX10_readInto 1 := ⟨(wd2 106 rfl rfl), (wd1 2 rfl rfl), (wd2 107 rfl rfl), (wd2 108 rfl rfl), yp_yX10_readInto.1, yp_yX10_readInto.2.1, yp_yX10_readInto.2.2⟩
theorem ml_X11_112 : eLkV RX11 112 yX9_countAbove0 0 := ⟨(wd2 211 rfl rfl), (wd1 10 rfl rfl), (wd2 212 rfl rfl), (wd2 213 rfl rfl), yp_yX9_countAbove0.1, yp_yX9_countAbove0.2.1, yp_yX9_countAbove0.2.2⟩
theorem ml_X11_116 : eLkV RX11 116 yX9_greatestCell 0 := ⟨(wd2 228 rfl rfl), (wd1 10 rfl rfl), (wd2 229 rfl rfl), (wd2 230 rfl rfl), yp_yX9_greatestCell.1, yp_yX9_greatestCell.2.1, yp_yX9_greatestCell.2.2⟩
theorem ml_X11_119 : eLkV RX11 119 yX9_joinedBy 1 := ⟨(wd2 232 rfl rfl), (wd1 10 rfl rfl), (wd2 216 rfl rfl), (wd2 217 rfl rfl), yp_yX9_joinedBy.1, yp_yX9_joinedBy.2.1, yp_yX9_joinedBy.2.2⟩
theorem ml_X11_123 : eLkS RX11 123 yX1_countGroups 2 := ⟨(wd2 233 rfl rfl), (wd1 14 rfl rfl), (wd2 234 rfl rfl), yp_yX1_countGroups.1, yp_yX1_countGroups.2.1, yp_yX1_countGroups.2.2⟩
theorem ml_X11_129 : eLkV RX11 129 yX9_has 1 := ⟨(wd3 19 rfl rfl), (wd1 10 rfl rfl), (wd3 20 rfl rfl), (wd3 21 rfl rfl), yp_yX9_has.1, yp_yX9_has.2.1, yp_yX9_has.2.2⟩
theorem ml_X11_137 : eLkV RX11 137 yX11_filledSlot 1 := ⟨(wd3 27 rfl rfl), (wd1 1 rfl rfl), (wd3 29 rfl rfl), (ws2 1 rfl), yp_yX11_filledSlot.1, yp_yX11_filledSlot.2.1, yp_yX11_filledSlot.2.2⟩
theorem ml_X11_140 : eLkV RX11 140 yX9_firstUneven 0 := ⟨(wd3 31 rfl rfl), (wd1 10 rfl rfl), (wd2 192 rfl rfl), (wd2 193 rfl rfl), yp_yX9_firstUneven.1, yp_yX9_firstUneven.2.1, yp_yX9_firstUneven.2.2⟩
theorem ml_X11_143 : eLkS RX11 143 yX11_isShare 2 := ⟨(wd3 36 rfl rfl), (wd1 1 rfl rfl), (wd3 37 rfl rfl), yp_yX11_isShare.1, yp_yX11_isShare.2.1, yp_yX11_isShare.2.2⟩
theorem ml_X11_147 : eLkV RX11 147 yX11_areLike 3 := ⟨(wd3 39 rfl rfl), (wd1 1 rfl rfl), (wd3 41 rfl rfl), (ws2 2 rfl), yp_yX11_areLike.1, yp_yX11_areLike.2.1, yp_yX11_areLike.2.2⟩
theorem ml_X11_151 : eLkV RX11 151 yX2_makeMixture 7 := ⟨(wd3 43 rfl rfl), (wd1 3 rfl rfl), (wd3 44 rfl rfl), (wd3 45 rfl rfl), yp_yX2_makeMixture.1, yp_yX2_makeMixture.2.1, yp_yX2_makeMixture.2.2⟩
theorem ml_X11_155 : eLkV RX11 155 yX2_makeProduct 3 := ⟨(wd3 74 rfl rfl), (wd1 3 rfl rfl), (wd3 75 rfl rfl), (wd3 76 rfl rfl), yp_yX2_makeProduct.1, yp_yX2_makeProduct.2.1, yp_yX2_makeProduct.2.2⟩
theorem ml_X11_159 : eLkV RX11 159 yX2_makeTurned 4 := ⟨(wd3 82 rfl rfl), (wd1 3 rfl rfl), (wd3 83 rfl rfl), (wd3 84 rfl rfl), yp_yX2_makeTurned.1, yp_yX2_makeTurned.2.1, yp_yX2_makeTurned.2.2⟩
theorem ml_X11_163 : eLkV RX11 163 yX11_evenSlot 1 := ⟨(wd3 93 rfl rfl), (wd1 1 rfl rfl), (wd3 95 rfl rfl), (ws2 6 rfl), yp_yX11_evenSlot.1, yp_yX11_evenSlot.2.1, yp_yX11_evenSlot.2.2⟩
theorem ml_X11_166 : eLkS RX11 166 yX11_isRule 1 := ⟨(wd3 97 rfl rfl), (wd1 1 rfl rfl), (wd3 98 rfl rfl), yp_yX11_isRule.1, yp_yX11_isRule.2.1, yp_yX11_isRule.2.2⟩
theorem ml_X11_169 : eLkV RX11 169 yX5_startTable 1 := ⟨(wd3 100 rfl rfl), (wd1 5 rfl rfl), (wd3 101 rfl rfl), (wd3 102 rfl rfl), yp_yX5_startTable.1, yp_yX5_startTable.2.1, yp_yX5_startTable.2.2⟩
theorem ml_X11_173 : eLkV RX11 173 yX3_start 4 := ⟨(wd3 107 rfl rfl), (wd1 6 rfl rfl), (wd3 108 rfl rfl), (wd3 109 rfl rfl), yp_yX3_start.1, yp_yX3_start.2.1, yp_yX3_start.2.2⟩
theorem ml_X11_177 : eLkV RX11 177 yX11_keepParts 1 := ⟨(wd3 111 rfl rfl), (wd1 1 rfl rfl), (wd3 113 rfl rfl), (ws2 7 rfl), yp_yX11_keepParts.1, yp_yX11_keepParts.2.1, yp_yX11_keepParts.2.2⟩
theorem ml_X11_181 : eLkV RX11 181 yX3_hasPart 1 := ⟨(wd3 180 rfl rfl), (wd1 6 rfl rfl), (wd3 181 rfl rfl), (wd3 182 rfl rfl), yp_yX3_hasPart.1, yp_yX3_hasPart.2.1, yp_yX3_hasPart.2.2⟩
theorem ml_X11_184 : eLkV RX11 184 yX3_hasRow 1 := ⟨(wd3 184 rfl rfl), (wd1 6 rfl rfl), (wd3 185 rfl rfl), (wd3 186 rfl rfl), yp_yX3_hasRow.1, yp_yX3_hasRow.2.1, yp_yX3_hasRow.2.2⟩
theorem ml_X11_187 : eLkV RX11 187 yX3_columnOf 2 := ⟨(wd3 188 rfl rfl), (wd1 6 rfl rfl), (wd3 189 rfl rfl), (wd3 190 rfl rfl), yp_yX3_columnOf.1, yp_yX3_columnOf.2.1, yp_yX3_columnOf.2.2⟩
theorem ml_X11_194 : eLkV RX11 194 yX3_inLeastTerms 2 := ⟨(wd3 196 rfl rfl), (wd1 6 rfl rfl), (wd3 197 rfl rfl), (wd3 198 rfl rfl), yp_yX3_inLeastTerms.1, yp_yX3_inLeastTerms.2.1, yp_yX3_inLeastTerms.2.2⟩
theorem ml_X11_198 : eLkV RX11 198 yX3_partAt 1 := ⟨(wd3 205 rfl rfl), (wd1 6 rfl rfl), (wd3 206 rfl rfl), (wd3 207 rfl rfl), yp_yX3_partAt.1, yp_yX3_partAt.2.1, yp_yX3_partAt.2.2⟩
theorem ml_X11_201 : eLkV RX11 201 yX3_weightOfBoth 4 := ⟨(wd3 213 rfl rfl), (wd1 6 rfl rfl), (wd3 214 rfl rfl), (wd3 215 rfl rfl), yp_yX3_weightOfBoth.1, yp_yX3_weightOfBoth.2.1, yp_yX3_weightOfBoth.2.2⟩
theorem ml_X11_205 : eLkV RX11 205 yX7_countFewest 1 := ⟨(wd3 222 rfl rfl), (wd1 7 rfl rfl), (wd3 223 rfl rfl), (wd3 224 rfl rfl), yp_yX7_countFewest.1, yp_yX7_countFewest.2.1, yp_yX7_countFewest.2.2⟩
theorem ml_X11_208 : eLkS RX11 208 yX11_isCell 1 := ⟨(wd4 6 rfl rfl), (wd1 1 rfl rfl), (wd4 7 rfl rfl), yp_yX11_isCell.1, yp_yX11_isCell.2.1, yp_yX11_isCell.2.2⟩
theorem ml_X11_211 : eLkS RX11 211 yX1_rowsMostLacking 2 := ⟨(wd4 10 rfl rfl), (wd1 14 rfl rfl), (wd4 11 rfl rfl), yp_yX1_rowsMostLacking.1, yp_yX1_rowsMostLacking.2.1, yp_yX1_rowsMostLacking.2.2⟩
theorem ml_X11_214 : eLkS RX11 214 yX1_columnsOf 3 := ⟨(wd4 13 rfl rfl), (wd1 14 rfl rfl), (wd3 0 rfl rfl), yp_yX1_columnsOf.1, yp_yX1_columnsOf.2.1, yp_yX1_columnsOf.2.2⟩
theorem ml_X11_218 : eLkS RX11 218 yJ6_bitCount_0f7a4 1 := ⟨(wd4 14 rfl rfl), (wd1 16 rfl rfl), (wd3 10 rfl rfl), yp_yJ6_bitCount_0f7a4.1, yp_yJ6_bitCount_0f7a4.2.1, yp_yJ6_bitCount_0f7a4.2.2⟩
theorem ml_X11_223 : eLkV RX11 223 yX0_findFirst 2 := ⟨(wd4 19 rfl rfl), (wd1 4 rfl rfl), (wd3 139 rfl rfl), (wd3 140 rfl rfl), yp_yX0_findFirst.1, yp_yX0_findFirst.2.1, yp_yX0_findFirst.2.2⟩
theorem ml_X11_230 : eLkV RX11 230 yX0_countAll 2 := ⟨(wd4 24 rfl rfl), (wd1 4 rfl rfl), (wd4 25 rfl rfl), (wd4 26 rfl rfl), yp_yX0_countAll.1, yp_yX0_countAll.2.1, yp_yX0_countAll.2.2⟩
theorem ml_X11_234 : eLkV RX11 234 yX0_greatestLeast 3 := ⟨(wd4 32 rfl rfl), (wd1 4 rfl rfl), (wd3 125 rfl rfl), (wd3 126 rfl rfl), yp_yX0_greatestLeast.1, yp_yX0_greatestLeast.2.1, yp_yX0_greatestLeast.2.2⟩
theorem ml_X11_240 : eLkV RX11 240 yX0_findRichest 3 := ⟨(wd4 38 rfl rfl), (wd1 4 rfl rfl), (wd3 156 rfl rfl), (wd3 157 rfl rfl), yp_yX0_findRichest.1, yp_yX0_findRichest.2.1, yp_yX0_findRichest.2.2⟩
theorem ml_X11_243 : eLkV RX11 243 yX0_multiplyAll 2 := ⟨(wd4 43 rfl rfl), (wd1 4 rfl rfl), (wd4 44 rfl rfl), (wd4 45 rfl rfl), yp_yX0_multiplyAll.1, yp_yX0_multiplyAll.2.1, yp_yX0_multiplyAll.2.2⟩
theorem ml_X11_251 : eLkV RX11 251 yX7_seek 1 := ⟨(wd4 56 rfl rfl), (wd1 7 rfl rfl), (wd4 57 rfl rfl), (wd4 58 rfl rfl), yp_yX7_seek.1, yp_yX7_seek.2.1, yp_yX7_seek.2.2⟩
theorem ml_X11_263 : eLkV RX11 263 yX6_round 1 := ⟨(wd4 80 rfl rfl), (wd1 8 rfl rfl), (wd4 81 rfl rfl), (wd4 82 rfl rfl), yp_yX6_round.1, yp_yX6_round.2.1, yp_yX6_round.2.2⟩
theorem ml_X11_270 : eLkV RX11 270 yX3_countColumns 1 := ⟨(wd4 121 rfl rfl), (wd1 6 rfl rfl), (wd4 122 rfl rfl), (wd4 123 rfl rfl), yp_yX3_countColumns.1, yp_yX3_countColumns.2.1, yp_yX3_countColumns.2.2⟩
theorem ml_X11_273 : eLkV RX11 273 yX3_commonestColumn 1 := ⟨(wd4 126 rfl rfl), (wd1 6 rfl rfl), (wd4 127 rfl rfl), (wd4 128 rfl rfl), yp_yX3_commonestColumn.1, yp_yX3_commonestColumn.2.1, yp_yX3_commonestColumn.2.2⟩
theorem ml_X11_276 : eLkV RX11 276 yX3_weightOf 2 := ⟨(wd4 135 rfl rfl), (wd1 6 rfl rfl), (wd4 131 rfl rfl), (wd4 132 rfl rfl), yp_yX3_weightOf.1, yp_yX3_weightOf.2.1, yp_yX3_weightOf.2.2⟩
theorem ml_X11_279 : eLkS RX11 279 yX1_leastFullPower 3 := ⟨(wd4 140 rfl rfl), (wd1 14 rfl rfl), (wd4 141 rfl rfl), yp_yX1_leastFullPower.1, yp_yX1_leastFullPower.2.1, yp_yX1_leastFullPower.2.2⟩
theorem ml_X11_283 : eLkS RX11 283 yX1_kinOf 3 := ⟨(wd4 150 rfl rfl), (wd1 14 rfl rfl), (wd4 151 rfl rfl), yp_yX1_kinOf.1, yp_yX1_kinOf.2.1, yp_yX1_kinOf.2.2⟩
theorem ml_X11_286 : eLkV RX11 286 yX8_write 1 := ⟨(wd4 160 rfl rfl), (wd1 9 rfl rfl), (wd4 161 rfl rfl), (wd4 162 rfl rfl), yp_yX8_write.1, yp_yX8_write.2.1, yp_yX8_write.2.2⟩
theorem ml_X11_294 : eLkV RX11 294 yX5_startShop 1 := ⟨(wd4 181 rfl rfl), (wd1 5 rfl rfl), (wd4 182 rfl rfl), (wd4 183 rfl rfl), yp_yX5_startShop.1, yp_yX5_startShop.2.1, yp_yX5_startShop.2.2⟩
theorem ml_X11_300 : eLkV RX11 300 yX3_hasJob 1 := ⟨(wd4 196 rfl rfl), (wd1 6 rfl rfl), (wd4 197 rfl rfl), (wd4 198 rfl rfl), yp_yX3_hasJob.1, yp_yX3_hasJob.2.1, yp_yX3_hasJob.2.2⟩
theorem ml_X11_303 : eLkV RX11 303 yX3_machineOf 2 := ⟨(wd4 200 rfl rfl), (wd1 6 rfl rfl), (wd4 201 rfl rfl), (wd4 202 rfl rfl), yp_yX3_machineOf.1, yp_yX3_machineOf.2.1, yp_yX3_machineOf.2.2⟩
theorem ml_X11_306 : eLkV RX11 306 yX3_lastHour 1 := ⟨(wd4 208 rfl rfl), (wd1 6 rfl rfl), (wd4 209 rfl rfl), (wd4 210 rfl rfl), yp_yX3_lastHour.1, yp_yX3_lastHour.2.1, yp_yX3_lastHour.2.2⟩
theorem ml_X11_309 : eLkV RX11 309 yX3_countPieces 1 := ⟨(wd4 213 rfl rfl), (wd1 6 rfl rfl), (wd4 214 rfl rfl), (wd4 215 rfl rfl), yp_yX3_countPieces.1, yp_yX3_countPieces.2.1, yp_yX3_countPieces.2.2⟩
theorem ml_X11_312 : eLkV RX11 312 yX3_countMoves 1 := ⟨(wd4 217 rfl rfl), (wd1 6 rfl rfl), (wd4 218 rfl rfl), (wd4 219 rfl rfl), yp_yX3_countMoves.1, yp_yX3_countMoves.2.1, yp_yX3_countMoves.2.2⟩
theorem ml_X11_325 : eLkV RX11 325 yX5_takePart 1 := ⟨(wd3 115 rfl rfl), (wd1 5 rfl rfl), (wd3 116 rfl rfl), (wd3 117 rfl rfl), yp_yX5_takePart.1, yp_yX5_takePart.2.1, yp_yX5_takePart.2.2⟩
theorem ml_X11_331 : eLkV RX11 331 yX3_add 2 := ⟨(wd3 171 rfl rfl), (wd1 6 rfl rfl), (wd3 172 rfl rfl), (wd3 173 rfl rfl), yp_yX3_add.1, yp_yX3_add.2.1, yp_yX3_add.2.2⟩
theorem ml_X12_89 : eLkS RX12 89 yX12_common 2 := ⟨(wd5 195 rfl rfl), (wd1 11 rfl rfl), (wd5 196 rfl rfl), yp_yX12_common.1, yp_yX12_common.2.1, yp_yX12_common.2.2⟩
theorem ml_X12_99 : eLkS RX12 99 yX12_isIn 3 := ⟨(wd5 134 rfl rfl), (wd1 11 rfl rfl), (wd5 135 rfl rfl), yp_yX12_isIn.1, yp_yX12_isIn.2.1, yp_yX12_isIn.2.2⟩
theorem ml_X12_103 : eLkS RX12 103 yX12_isSlot 1 := ⟨(wd5 130 rfl rfl), (wd1 11 rfl rfl), (wd5 131 rfl rfl), yp_yX12_isSlot.1, yp_yX12_isSlot.2.1, yp_yX12_isSlot.2.2⟩
theorem ml_X12_107 : eLkV RX12 107 yX12_at 3 := ⟨(wd5 141 rfl rfl), (wd1 11 rfl rfl), (wd5 143 rfl rfl), (ws3 13 rfl), yp_yX12_at.1, yp_yX12_at.2.1, yp_yX12_at.2.2⟩
theorem ml_X12_111 : eLkV RX12 111 yX12_isTable 1 := ⟨(wd5 126 rfl rfl), (wd1 11 rfl rfl), (wd5 128 rfl rfl), (ws3 11 rfl), yp_yX12_isTable.1, yp_yX12_isTable.2.1, yp_yX12_isTable.2.2⟩
theorem ml_X12_114 : eLkV RX12 114 yX12_rowOf 2 := ⟨(wd5 137 rfl rfl), (wd1 11 rfl rfl), (wd5 139 rfl rfl), (ws3 12 rfl), yp_yX12_rowOf.1, yp_yX12_rowOf.2.1, yp_yX12_rowOf.2.2⟩
theorem ml_X12_118 : eLkV RX12 118 yX12_uneven 1 := ⟨(wd5 217 rfl rfl), (wd1 11 rfl rfl), (wd5 123 rfl rfl), (wd5 124 rfl rfl), yp_yX12_uneven.1, yp_yX12_uneven.2.1, yp_yX12_uneven.2.2⟩
theorem ml_X12_122 : eLkV RX12 122 yX12_columnOf 2 := ⟨(wd5 145 rfl rfl), (wd1 11 rfl rfl), (wd5 147 rfl rfl), (ws3 14 rfl), yp_yX12_columnOf.1, yp_yX12_columnOf.2.1, yp_yX12_columnOf.2.2⟩
theorem ml_X12_128 : eLkV RX12 128 yX12_four 1 := ⟨(wd5 153 rfl rfl), (wd1 11 rfl rfl), (wd5 155 rfl rfl), (ws3 15 rfl), yp_yX12_four.1, yp_yX12_four.2.1, yp_yX12_four.2.2⟩
theorem ml_X12_135 : eLkV RX12 135 yX12_see 1 := ⟨(wd5 169 rfl rfl), (wd1 11 rfl rfl), (wd5 171 rfl rfl), (ws4 1 rfl), yp_yX12_see.1, yp_yX12_see.2.1, yp_yX12_see.2.2⟩
theorem ml_X12_160 : eLkV RX12 160 yX12_isNumber 0 := ⟨(wd5 179 rfl rfl), (wd1 11 rfl rfl), (wd5 181 rfl rfl), (ws4 3 rfl), yp_yX12_isNumber.1, yp_yX12_isNumber.2.1, yp_yX12_isNumber.2.2⟩
theorem ml_X12_164 : eLkV RX12 164 yX12_fails 1 := ⟨(wd5 183 rfl rfl), (wd1 11 rfl rfl), (wd5 185 rfl rfl), (ws4 4 rfl), yp_yX12_fails.1, yp_yX12_fails.2.1, yp_yX12_fails.2.2⟩
theorem ml_X12_173 : eLkV RX12 173 yX12_next 0 := ⟨(wd5 165 rfl rfl), (wd1 11 rfl rfl), (wd5 167 rfl rfl), (ws4 0 rfl), yp_yX12_next.1, yp_yX12_next.2.1, yp_yX12_next.2.2⟩
theorem ml_X12_176 : eLkV RX12 176 yX12_readFraction 1 := ⟨(wd5 187 rfl rfl), (wd1 11 rfl rfl), (wd5 189 rfl rfl), (ws4 5 rfl), yp_yX12_readFraction.1, yp_yX12_readFraction.2.1, yp_yX12_readFraction.2.2⟩
theorem ml_X12_179 : eLkV RX12 179 yX12_takes 2 := ⟨(wd5 199 rfl rfl), (wd1 11 rfl rfl), (wd5 201 rfl rfl), (ws4 7 rfl), yp_yX12_takes.1, yp_yX12_takes.2.1, yp_yX12_takes.2.2⟩
theorem ml_X12_183 : eLkV RX12 183 yX12_readRow 0 := ⟨(wd5 175 rfl rfl), (wd1 11 rfl rfl), (wd5 177 rfl rfl), (ws4 2 rfl), yp_yX12_readRow.1, yp_yX12_readRow.2.1, yp_yX12_readRow.2.2⟩
theorem ml_X12_186 : eLkV RX12 186 yX12_isOver 1 := ⟨(wd5 191 rfl rfl), (wd1 11 rfl rfl), (wd5 193 rfl rfl), (ws4 6 rfl), yp_yX12_isOver.1, yp_yX12_isOver.2.1, yp_yX12_isOver.2.2⟩
theorem ml_X12_192 : eLkS RX12 192 yX12_one 1 := ⟨(wd5 222 rfl rfl), (wd1 11 rfl rfl), (wd5 223 rfl rfl), yp_yX12_one.1, yp_yX12_one.2.1, yp_yX12_one.2.2⟩
theorem ml_X12_196 : eLkS RX12 196 yJ9_max_7cf53 2 := ⟨(wd5 212 rfl rfl), (wd1 13 rfl rfl), (wd2 189 rfl rfl), yp_yJ9_max_7cf53.1, yp_yJ9_max_7cf53.2.1, yp_yJ9_max_7cf53.2.2⟩
theorem ml_X12_202 : eLkV RX12 202 yX12_isEven 1 := ⟨(wd5 213 rfl rfl), (wd1 11 rfl rfl), (wd5 215 rfl rfl), (ws4 8 rfl), yp_yX12_isEven.1, yp_yX12_isEven.2.1, yp_yX12_isEven.2.2⟩
theorem ml_X12_205 : eLkV RX12 205 yX12_aboveNought 1 := ⟨(wd5 218 rfl rfl), (wd1 11 rfl rfl), (wd5 220 rfl rfl), (ws4 9 rfl), yp_yX12_aboveNought.1, yp_yX12_aboveNought.2.1, yp_yX12_aboveNought.2.2⟩
theorem ml_X12_208 : eLkV RX12 208 yX12_groupsOf 1 := ⟨(wd5 225 rfl rfl), (wd1 11 rfl rfl), (wd5 227 rfl rfl), (ws4 10 rfl), yp_yX12_groupsOf.1, yp_yX12_groupsOf.2.1, yp_yX12_groupsOf.2.2⟩
theorem ml_X12_211 : eLkV RX12 211 yX12_isCell 3 := ⟨(wd5 233 rfl rfl), (wd1 11 rfl rfl), (wd5 235 rfl rfl), (ws4 11 rfl), yp_yX12_isCell.1, yp_yX12_isCell.2.1, yp_yX12_isCell.2.2⟩
theorem ml_X12_221 : eLkS RX12 221 yX12_isPart 2 := ⟨(wd6 1 rfl rfl), (wd1 11 rfl rfl), (wd6 2 rfl rfl), yp_yX12_isPart.1, yp_yX12_isPart.2.1, yp_yX12_isPart.2.2⟩
theorem ml_X12_226 : eLkS RX12 226 yX12_grown 2 := ⟨(wd6 6 rfl rfl), (wd1 11 rfl rfl), (wd6 7 rfl rfl), yp_yX12_grown.1, yp_yX12_grown.2.1, yp_yX12_grown.2.2⟩
theorem ml_X12_231 : eLkS RX12 231 yX12_behind 3 := ⟨(wd6 20 rfl rfl), (wd1 11 rfl rfl), (wd6 21 rfl rfl), yp_yX12_behind.1, yp_yX12_behind.2.1, yp_yX12_behind.2.2⟩
theorem ml_X12_241 : eLkS RX12 241 yX12_bits 1 := ⟨(wd6 54 rfl rfl), (wd1 11 rfl rfl), (wd6 55 rfl rfl), yp_yX12_bits.1, yp_yX12_bits.2.1, yp_yX12_bits.2.2⟩
theorem ml_X12_244 : eLkV RX12 244 yX12_worked 2 := ⟨(wd6 61 rfl rfl), (wd1 11 rfl rfl), (wd6 63 rfl rfl), (ws5 3 rfl), yp_yX12_worked.1, yp_yX12_worked.2.1, yp_yX12_worked.2.2⟩
theorem ml_X12_247 : eLkS RX12 247 yJ9_min_f86c9 2 := ⟨(wd6 70 rfl rfl), (wd1 13 rfl rfl), (wd3 133 rfl rfl), yp_yJ9_min_f86c9.1, yp_yJ9_min_f86c9.2.1, yp_yJ9_min_f86c9.2.2⟩
theorem ml_X12_250 : eLkS RX12 250 yJ9_max_f86c9 2 := ⟨(wd6 71 rfl rfl), (wd1 13 rfl rfl), (wd3 136 rfl rfl), yp_yJ9_max_f86c9.1, yp_yJ9_max_f86c9.2.1, yp_yJ9_max_f86c9.2.2⟩
theorem ml_X12_252 : eLkV RX12 252 yX12_isOpen 5 := ⟨(wd6 57 rfl rfl), (wd1 11 rfl rfl), (wd6 59 rfl rfl), (ws5 2 rfl), yp_yX12_isOpen.1, yp_yX12_isOpen.2.1, yp_yX12_isOpen.2.2⟩
theorem ml_X12_256 : eLkV RX12 256 yX12_laysCan 2 := ⟨(wd6 65 rfl rfl), (wd1 11 rfl rfl), (wd6 67 rfl rfl), (ws5 4 rfl), yp_yX12_laysCan.1, yp_yX12_laysCan.2.1, yp_yX12_laysCan.2.2⟩
theorem ml_X12_260 : eLkV RX12 260 yX12_isChosen 3 := ⟨(wd6 50 rfl rfl), (wd1 11 rfl rfl), (wd6 52 rfl rfl), (ws5 1 rfl), yp_yX12_isChosen.1, yp_yX12_isChosen.2.1, yp_yX12_isChosen.2.2⟩
theorem ml_X12_263 : eLkV RX12 263 yX12_chooseGreatest 1 := ⟨(wd6 72 rfl rfl), (wd1 11 rfl rfl), (wd6 74 rfl rfl), (ws5 5 rfl), yp_yX12_chooseGreatest.1, yp_yX12_chooseGreatest.2.1, yp_yX12_chooseGreatest.2.2⟩
theorem ml_X12_267 : eLkV RX12 267 yX12_choose 1 := ⟨(wd6 46 rfl rfl), (wd1 11 rfl rfl), (wd6 48 rfl rfl), (ws5 0 rfl), yp_yX12_choose.1, yp_yX12_choose.2.1, yp_yX12_choose.2.2⟩
theorem ml_X12_271 : eLkS RX12 271 yJ9_min_7cf53 2 := ⟨(wd6 77 rfl rfl), (wd1 13 rfl rfl), (wd3 169 rfl rfl), yp_yJ9_min_7cf53.1, yp_yJ9_min_7cf53.2.1, yp_yJ9_min_7cf53.2.2⟩
theorem ml_X12_285 : eLkV RX12 285 yX12_isLeft 0 := ⟨(wd6 38 rfl rfl), (wd1 11 rfl rfl), (wd6 40 rfl rfl), (ws4 14 rfl), yp_yX12_isLeft.1, yp_yX12_isLeft.2.1, yp_yX12_isLeft.2.2⟩
theorem ml_X12_288 : eLkV RX12 288 yX12_peels 1 := ⟨(wd6 42 rfl rfl), (wd1 11 rfl rfl), (wd6 44 rfl rfl), (ws4 15 rfl), yp_yX12_peels.1, yp_yX12_peels.2.1, yp_yX12_peels.2.2⟩
theorem ml_X12_291 : eLkS RX12 291 yX12_isRule 1 := ⟨(wd6 27 rfl rfl), (wd1 11 rfl rfl), (wd6 28 rfl rfl), yp_yX12_isRule.1, yp_yX12_isRule.2.1, yp_yX12_isRule.2.2⟩
theorem ml_X12_294 : eLkV RX12 294 yX12_worksOn 1 := ⟨(wd6 30 rfl rfl), (wd1 11 rfl rfl), (wd6 32 rfl rfl), (ws4 12 rfl), yp_yX12_worksOn.1, yp_yX12_worksOn.2.1, yp_yX12_worksOn.2.2⟩
theorem ml_X12_297 : eLkV RX12 297 yX12_keepsAll 3 := ⟨(wd6 34 rfl rfl), (wd1 11 rfl rfl), (wd6 36 rfl rfl), (ws4 13 rfl), yp_yX12_keepsAll.1, yp_yX12_keepsAll.2.1, yp_yX12_keepsAll.2.2⟩
theorem ml_X12_300 : eLkV RX12 300 yX12_isPartThere 1 := ⟨(wd6 82 rfl rfl), (wd1 11 rfl rfl), (wd6 84 rfl rfl), (ws5 6 rfl), yp_yX12_isPartThere.1, yp_yX12_isPartThere.2.1, yp_yX12_isPartThere.2.2⟩
theorem ml_X12_303 : eLkV RX12 303 yX12_isKeptRow 1 := ⟨(wd6 86 rfl rfl), (wd1 11 rfl rfl), (wd6 88 rfl rfl), (ws5 7 rfl), yp_yX12_isKeptRow.1, yp_yX12_isKeptRow.2.1, yp_yX12_isKeptRow.2.2⟩
theorem ml_X12_308 : eLkV RX12 308 yX12_together 2 := ⟨(wd6 107 rfl rfl), (wd1 11 rfl rfl), (wd6 109 rfl rfl), (ws5 8 rfl), yp_yX12_together.1, yp_yX12_together.2.1, yp_yX12_together.2.2⟩
theorem ml_X12_311 : eLkV RX12 311 yX12_fewest 1 := ⟨(wd6 115 rfl rfl), (wd1 11 rfl rfl), (wd6 117 rfl rfl), (ws5 9 rfl), yp_yX12_fewest.1, yp_yX12_fewest.2.1, yp_yX12_fewest.2.2⟩
theorem ml_X12_314 : eLkV RX12 314 yX12_lies 3 := ⟨(wd6 119 rfl rfl), (wd1 11 rfl rfl), (wd6 121 rfl rfl), (ws5 10 rfl), yp_yX12_lies.1, yp_yX12_lies.2.1, yp_yX12_lies.2.2⟩
theorem ml_X12_320 : eLkS RX12 320 yX12_ruleOf 2 := ⟨(wd6 128 rfl rfl), (wd1 11 rfl rfl), (wd6 129 rfl rfl), yp_yX12_ruleOf.1, yp_yX12_ruleOf.2.1, yp_yX12_ruleOf.2.2⟩
theorem ml_X12_323 : eLkS RX12 323 yX12_cut 2 := ⟨(wd6 139 rfl rfl), (wd1 11 rfl rfl), (wd6 140 rfl rfl), yp_yX12_cut.1, yp_yX12_cut.2.1, yp_yX12_cut.2.2⟩
theorem ml_X12_327 : eLkS RX12 327 yX12_up 2 := ⟨(wd6 142 rfl rfl), (wd1 11 rfl rfl), (wd6 143 rfl rfl), yp_yX12_up.1, yp_yX12_up.2.1, yp_yX12_up.2.2⟩
theorem ml_X12_330 : eLkV RX12 330 yX12_edge 4 := ⟨(wd6 149 rfl rfl), (wd1 11 rfl rfl), (wd6 151 rfl rfl), (ws5 13 rfl), yp_yX12_edge.1, yp_yX12_edge.2.1, yp_yX12_edge.2.2⟩
theorem ml_X12_334 : eLkV RX12 334 yX12_isWay 0 := ⟨(wd6 153 rfl rfl), (wd1 11 rfl rfl), (wd6 155 rfl rfl), (ws5 14 rfl), yp_yX12_isWay.1, yp_yX12_isWay.2.1, yp_yX12_isWay.2.2⟩
theorem ml_X12_337 : eLkV RX12 337 yX12_laysBounds 1 := ⟨(wd6 135 rfl rfl), (wd1 11 rfl rfl), (wd6 137 rfl rfl), (ws5 11 rfl), yp_yX12_laysBounds.1, yp_yX12_laysBounds.2.1, yp_yX12_laysBounds.2.2⟩
theorem ml_X12_340 : eLkV RX12 340 yX12_isKept 1 := ⟨(wd6 145 rfl rfl), (wd1 11 rfl rfl), (wd6 147 rfl rfl), (ws5 12 rfl), yp_yX12_isKept.1, yp_yX12_isKept.2.1, yp_yX12_isKept.2.2⟩
theorem ml_X12_343 : eLkS RX12 343 yX12_isLeast 1 := ⟨(wd6 161 rfl rfl), (wd1 11 rfl rfl), (wd6 162 rfl rfl), yp_yX12_isLeast.1, yp_yX12_isLeast.2.1, yp_yX12_isLeast.2.2⟩
theorem ml_X12_346 : eLkV RX12 346 yX12_joined 3 := ⟨(wd6 164 rfl rfl), (wd1 11 rfl rfl), (wd6 166 rfl rfl), (ws5 15 rfl), yp_yX12_joined.1, yp_yX12_joined.2.1, yp_yX12_joined.2.2⟩
theorem ml_X12_349 : eLkV RX12 349 yX12_isSummed 3 := ⟨(wd6 176 rfl rfl), (wd1 11 rfl rfl), (wd6 178 rfl rfl), (ws6 0 rfl), yp_yX12_isSummed.1, yp_yX12_isSummed.2.1, yp_yX12_isSummed.2.2⟩
theorem ml_X12_360 : eLkV RX12 360 yX12_says 1 := ⟨(wd6 206 rfl rfl), (wd1 11 rfl rfl), (wd6 208 rfl rfl), (ws6 1 rfl), yp_yX12_says.1, yp_yX12_says.2.1, yp_yX12_says.2.2⟩
theorem ml_X12_366 : eLkV RX12 366 yX12_isJob 1 := ⟨(wd6 222 rfl rfl), (wd1 11 rfl rfl), (wd6 224 rfl rfl), (ws6 2 rfl), yp_yX12_isJob.1, yp_yX12_isJob.2.1, yp_yX12_isJob.2.2⟩
theorem ml_X12_369 : eLkV RX12 369 yX12_draw 1 := ⟨(wd6 226 rfl rfl), (wd1 11 rfl rfl), (wd6 96 rfl rfl), (wd6 97 rfl rfl), yp_yX12_draw.1, yp_yX12_draw.2.1, yp_yX12_draw.2.2⟩
theorem ml_X2_23 : eLkS RX2 23 yX4_leastMultiple 3 := ⟨(wd3 48 rfl rfl), (wd1 12 rfl rfl), (wd2 175 rfl rfl), yp_yX4_leastMultiple.1, yp_yX4_leastMultiple.2.1, yp_yX4_leastMultiple.2.2⟩
theorem ml_X2_38 : eLkS RX2 38 yX2_multiplied 2 := ⟨(wd3 50 rfl rfl), (wd1 3 rfl rfl), (wd3 51 rfl rfl), yp_yX2_multiplied.1, yp_yX2_multiplied.2.1, yp_yX2_multiplied.2.2⟩
theorem ml_X2_44 : eLkV RX2 44 yX2_bring 3 := ⟨(wd3 54 rfl rfl), (wd1 3 rfl rfl), (wd3 56 rfl rfl), (ws2 3 rfl), yp_yX2_bring.1, yp_yX2_bring.2.1, yp_yX2_bring.2.2⟩
theorem ml_X2_48 : eLkS RX2 48 yX2_turnedFrom 5 := ⟨(wd3 86 rfl rfl), (wd1 3 rfl rfl), (wd3 87 rfl rfl), yp_yX2_turnedFrom.1, yp_yX2_turnedFrom.2.1, yp_yX2_turnedFrom.2.2⟩
theorem ml_X2_52 : eLkV RX2 52 yX2_sharedDivisor 2 := ⟨(wd3 58 rfl rfl), (wd1 3 rfl rfl), (wd3 60 rfl rfl), (ws2 4 rfl), yp_yX2_sharedDivisor.1, yp_yX2_sharedDivisor.2.1, yp_yX2_sharedDivisor.2.2⟩
theorem ml_X2_58 : eLkV RX2 58 yX2_areCells 2 := ⟨(wd3 64 rfl rfl), (wd1 3 rfl rfl), (wd3 66 rfl rfl), (ws2 5 rfl), yp_yX2_areCells.1, yp_yX2_areCells.2.1, yp_yX2_areCells.2.2⟩
theorem ml_X2_62 : eLkV RX2 62 yX9_settle 2 := ⟨(wd3 69 rfl rfl), (wd1 10 rfl rfl), (wd2 185 rfl rfl), (wd2 186 rfl rfl), yp_yX9_settle.1, yp_yX9_settle.2.1, yp_yX9_settle.2.2⟩
theorem ml_X2_66 : eLkS RX2 66 yX4_greatestDivisor 2 := ⟨(wd3 62 rfl rfl), (wd1 12 rfl rfl), (wd2 159 rfl rfl), yp_yX4_greatestDivisor.1, yp_yX4_greatestDivisor.2.1, yp_yX4_greatestDivisor.2.2⟩
theorem ml_X3_40 : eLkS RX3 40 yX4_greatestDivisor 2 := ⟨(wd3 200 rfl rfl), (wd1 12 rfl rfl), (wd2 159 rfl rfl), yp_yX4_greatestDivisor.1, yp_yX4_greatestDivisor.2.1, yp_yX4_greatestDivisor.2.2⟩
theorem ml_X3_46 : eLkV RX3 46 yX3_columnOf 2 := ⟨(wd3 217 rfl rfl), (wd1 6 rfl rfl), (wd3 189 rfl rfl), (wd3 190 rfl rfl), yp_yX3_columnOf.1, yp_yX3_columnOf.2.1, yp_yX3_columnOf.2.2⟩
theorem ml_X3_50 : eLkV RX3 50 yX3_weightOfBoth 4 := ⟨(wd4 134 rfl rfl), (wd1 6 rfl rfl), (wd3 214 rfl rfl), (wd3 215 rfl rfl), yp_yX3_weightOfBoth.1, yp_yX3_weightOfBoth.2.1, yp_yX3_weightOfBoth.2.2⟩
theorem ml_X3_54 : eLkV RX3 54 yX3_weightOf 2 := ⟨(wd4 130 rfl rfl), (wd1 6 rfl rfl), (wd4 131 rfl rfl), (wd4 132 rfl rfl), yp_yX3_weightOf.1, yp_yX3_weightOf.2.1, yp_yX3_weightOf.2.2⟩
theorem ml_X3_57 : eLkS RX3 57 yJ6_bitCount_0f7a4 1 := ⟨(wd4 125 rfl rfl), (wd1 16 rfl rfl), (wd3 10 rfl rfl), yp_yJ6_bitCount_0f7a4.1, yp_yJ6_bitCount_0f7a4.2.1, yp_yJ6_bitCount_0f7a4.2.2⟩
theorem ml_X3_63 : eLkV RX3 63 yX3_machineOf 2 := ⟨(wd4 212 rfl rfl), (wd1 6 rfl rfl), (wd4 201 rfl rfl), (wd4 202 rfl rfl), yp_yX3_machineOf.1, yp_yX3_machineOf.2.1, yp_yX3_machineOf.2.2⟩
theorem ml_X4_11 : eLkS RX4 11 yX4_greatestDivisor 2 := ⟨(wd2 178 rfl rfl), (wd1 12 rfl rfl), (wd2 159 rfl rfl), yp_yX4_greatestDivisor.1, yp_yX4_greatestDivisor.2.1, yp_yX4_greatestDivisor.2.2⟩
theorem ml_X5_45 : eLkV RX5 45 yX9_greatestSum 0 := ⟨(wd4 185 rfl rfl), (wd1 10 rfl rfl), (wd4 186 rfl rfl), (wd4 187 rfl rfl), yp_yX9_greatestSum.1, yp_yX9_greatestSum.2.1, yp_yX9_greatestSum.2.2⟩
theorem ml_X5_49 : eLkS RX5 49 yJ7_fill_53178 2 := ⟨(wd4 189 rfl rfl), (wd1 18 rfl rfl), (wd3 227 rfl rfl), yp_yJ7_fill_53178.1, yp_yJ7_fill_53178.2.1, yp_yJ7_fill_53178.2.2⟩
theorem ml_X5_55 : eLkV RX5 55 yX9_sumOfRow 1 := ⟨(wd4 190 rfl rfl), (wd1 10 rfl rfl), (wd2 196 rfl rfl), (wd2 197 rfl rfl), yp_yX9_sumOfRow.1, yp_yX9_sumOfRow.2.1, yp_yX9_sumOfRow.2.2⟩
theorem ml_X5_59 : eLkV RX5 59 yX9_sumOfColumn 1 := ⟨(wd4 191 rfl rfl), (wd1 10 rfl rfl), (wd2 200 rfl rfl), (wd2 201 rfl rfl), yp_yX9_sumOfColumn.1, yp_yX9_sumOfColumn.2.1, yp_yX9_sumOfColumn.2.2⟩
theorem ml_X5_62 : eLkV RX5 62 yX5_choose 1 := ⟨(wd3 119 rfl rfl), (wd1 5 rfl rfl), (wd3 121 rfl rfl), (ws2 8 rfl), yp_yX5_choose.1, yp_yX5_choose.2.1, yp_yX5_choose.2.2⟩
theorem ml_X5_71 : eLkS RX5 71 yJ9_min_7cf53 2 := ⟨(wd3 168 rfl rfl), (wd1 13 rfl rfl), (wd3 169 rfl rfl), yp_yJ9_min_7cf53.1, yp_yJ9_min_7cf53.2.1, yp_yJ9_min_7cf53.2.2⟩
theorem ml_X5_77 : eLkS RX5 77 yX1_of 3 := ⟨(wd3 123 rfl rfl), (wd1 14 rfl rfl), (wd2 220 rfl rfl), yp_yX1_of.1, yp_yX1_of.2.1, yp_yX1_of.2.2⟩
theorem ml_X5_83 : eLkV RX5 83 yX0_greatestLeast 3 := ⟨(wd3 124 rfl rfl), (wd1 4 rfl rfl), (wd3 125 rfl rfl), (wd3 126 rfl rfl), yp_yX0_greatestLeast.1, yp_yX0_greatestLeast.2.1, yp_yX0_greatestLeast.2.2⟩
theorem ml_X5_87 : eLkV RX5 87 yX0_findFirst 2 := ⟨(wd3 138 rfl rfl), (wd1 4 rfl rfl), (wd3 139 rfl rfl), (wd3 140 rfl rfl), yp_yX0_findFirst.1, yp_yX0_findFirst.2.1, yp_yX0_findFirst.2.2⟩
theorem ml_X5_91 : eLkV RX5 91 yX5_leastPlace 0 := ⟨(wd3 146 rfl rfl), (wd1 5 rfl rfl), (wd3 148 rfl rfl), (ws2 10 rfl), yp_yX5_leastPlace.1, yp_yX5_leastPlace.2.1, yp_yX5_leastPlace.2.2⟩
theorem ml_X5_94 : eLkS RX5 94 yX1_through 3 := ⟨(wd3 150 rfl rfl), (wd1 14 rfl rfl), (wd3 151 rfl rfl), yp_yX1_through.1, yp_yX1_through.2.1, yp_yX1_through.2.2⟩
theorem ml_X5_98 : eLkV RX5 98 yX0_findRichest 3 := ⟨(wd3 155 rfl rfl), (wd1 4 rfl rfl), (wd3 156 rfl rfl), (wd3 157 rfl rfl), yp_yX0_findRichest.1, yp_yX0_findRichest.2.1, yp_yX0_findRichest.2.2⟩
theorem ml_X6_27 : eLkV RX6 27 yX6_lay 1 := ⟨(wd4 84 rfl rfl), (wd1 8 rfl rfl), (wd4 86 rfl rfl), (ws3 1 rfl), yp_yX6_lay.1, yp_yX6_lay.2.1, yp_yX6_lay.2.2⟩
theorem ml_X6_37 : eLkV RX6 37 yX6_meetLows 1 := ⟨(wd4 93 rfl rfl), (wd1 8 rfl rfl), (wd4 95 rfl rfl), (ws3 3 rfl), yp_yX6_meetLows.1, yp_yX6_meetLows.2.1, yp_yX6_meetLows.2.2⟩
theorem ml_X6_41 : eLkV RX6 41 yX6_lessen 1 := ⟨(wd4 113 rfl rfl), (wd1 8 rfl rfl), (wd4 115 rfl rfl), (ws3 8 rfl), yp_yX6_lessen.1, yp_yX6_lessen.2.1, yp_yX6_lessen.2.2⟩
theorem ml_X6_53 : eLkS RX6 53 yJ7_fill_53178 2 := ⟨(wd4 88 rfl rfl), (wd1 18 rfl rfl), (wd3 227 rfl rfl), yp_yJ7_fill_53178.1, yp_yJ7_fill_53178.2.1, yp_yJ7_fill_53178.2.2⟩
theorem ml_X6_65 : eLkV RX6 65 yX6_setBounds 4 := ⟨(wd4 89 rfl rfl), (wd1 8 rfl rfl), (wd4 91 rfl rfl), (ws3 2 rfl), yp_yX6_setBounds.1, yp_yX6_setBounds.2.1, yp_yX6_setBounds.2.2⟩
theorem ml_X6_69 : eLkV RX6 69 yX6_meetLow 2 := ⟨(wd4 97 rfl rfl), (wd1 8 rfl rfl), (wd4 99 rfl rfl), (ws3 4 rfl), yp_yX6_meetLow.1, yp_yX6_meetLow.2.1, yp_yX6_meetLow.2.2⟩
theorem ml_X6_73 : eLkV RX6 73 yX6_findWay 2 := ⟨(wd4 101 rfl rfl), (wd1 8 rfl rfl), (wd4 103 rfl rfl), (ws3 5 rfl), yp_yX6_findWay.1, yp_yX6_findWay.2.1, yp_yX6_findWay.2.2⟩
theorem ml_X6_77 : eLkV RX6 77 yX6_flowAlong 2 := ⟨(wd4 109 rfl rfl), (wd1 8 rfl rfl), (wd4 111 rfl rfl), (ws3 7 rfl), yp_yX6_flowAlong.1, yp_yX6_flowAlong.2.1, yp_yX6_flowAlong.2.2⟩
theorem ml_X6_80 : eLkV RX6 80 yX6_isOpen 2 := ⟨(wd4 105 rfl rfl), (wd1 8 rfl rfl), (wd4 107 rfl rfl), (ws3 6 rfl), yp_yX6_isOpen.1, yp_yX6_isOpen.2.1, yp_yX6_isOpen.2.2⟩
theorem ml_X7_40 : eLkV RX7 40 yX5_startTable 1 := ⟨(wd3 229 rfl rfl), (wd1 5 rfl rfl), (wd3 101 rfl rfl), (wd3 102 rfl rfl), yp_yX5_startTable.1, yp_yX5_startTable.2.1, yp_yX5_startTable.2.2⟩
theorem ml_X7_44 : eLkV RX7 44 yX7_isNewStep 2 := ⟨(wd4 60 rfl rfl), (wd1 7 rfl rfl), (wd4 62 rfl rfl), (ws2 15 rfl), yp_yX7_isNewStep.1, yp_yX7_isNewStep.2.1, yp_yX7_isNewStep.2.2⟩
theorem ml_X7_48 : eLkV RX7 48 yX7_finish 2 := ⟨(wd4 72 rfl rfl), (wd1 7 rfl rfl), (wd4 74 rfl rfl), (ws3 0 rfl), yp_yX7_finish.1, yp_yX7_finish.2.1, yp_yX7_finish.2.2⟩
theorem ml_X7_56 : eLkV RX7 56 yX5_startLike 1 := ⟨(wd4 64 rfl rfl), (wd1 5 rfl rfl), (wd4 65 rfl rfl), (wd4 66 rfl rfl), yp_yX5_startLike.1, yp_yX5_startLike.2.1, yp_yX5_startLike.2.2⟩
theorem ml_X7_63 : eLkV RX7 63 yX5_takePart 1 := ⟨(wd3 230 rfl rfl), (wd1 5 rfl rfl), (wd3 116 rfl rfl), (wd3 117 rfl rfl), yp_yX5_takePart.1, yp_yX5_takePart.2.1, yp_yX5_takePart.2.2⟩
theorem ml_X7_67 : eLkV RX7 67 yX5_choiceNumber 0 := ⟨(wd4 68 rfl rfl), (wd1 5 rfl rfl), (wd4 69 rfl rfl), (wd4 70 rfl rfl), yp_yX5_choiceNumber.1, yp_yX5_choiceNumber.2.1, yp_yX5_choiceNumber.2.2⟩
theorem ml_X7_77 : eLkS RX7 77 yJ7_fill_53178 2 := ⟨(wd3 226 rfl rfl), (wd1 18 rfl rfl), (wd3 227 rfl rfl), yp_yJ7_fill_53178.1, yp_yJ7_fill_53178.2.1, yp_yJ7_fill_53178.2.2⟩
theorem ml_X7_86 : eLkV RX7 86 yX7_addWeight 1 := ⟨(wd3 231 rfl rfl), (wd1 7 rfl rfl), (wd3 233 rfl rfl), (ws2 13 rfl), yp_yX7_addWeight.1, yp_yX7_addWeight.2.1, yp_yX7_addWeight.2.2⟩
theorem ml_X7_92 : eLkS RX7 92 yX7_leastOf 1 := ⟨(wd3 235 rfl rfl), (wd1 7 rfl rfl), (wd3 236 rfl rfl), yp_yX7_leastOf.1, yp_yX7_leastOf.2.1, yp_yX7_leastOf.2.2⟩
theorem ml_X7_96 : eLkS RX7 96 yX7_countAbove 2 := ⟨(wd3 239 rfl rfl), (wd1 7 rfl rfl), (wd4 0 rfl rfl), yp_yX7_countAbove.1, yp_yX7_countAbove.2.1, yp_yX7_countAbove.2.2⟩
theorem ml_X7_100 : eLkS RX7 100 yJ9_min_7cf53 2 := ⟨(wd3 238 rfl rfl), (wd1 13 rfl rfl), (wd3 169 rfl rfl), yp_yJ9_min_7cf53.1, yp_yJ9_min_7cf53.2.1, yp_yJ9_min_7cf53.2.2⟩
theorem ml_X8_27 : eLkV RX8 27 yX8_putNumber 1 := ⟨(wd4 164 rfl rfl), (wd1 9 rfl rfl), (wd4 166 rfl rfl), (ws3 9 rfl), yp_yX8_putNumber.1, yp_yX8_putNumber.2.1, yp_yX8_putNumber.2.2⟩
theorem ml_X8_31 : eLkV RX8 31 yX8_put 1 := ⟨(wd4 168 rfl rfl), (wd1 9 rfl rfl), (wd4 170 rfl rfl), (ws3 10 rfl), yp_yX8_put.1, yp_yX8_put.2.1, yp_yX8_put.2.2⟩
theorem ml_X8_37 : eLkV RX8 37 yX3_columnOf 2 := ⟨(wd4 172 rfl rfl), (wd1 6 rfl rfl), (wd3 189 rfl rfl), (wd3 190 rfl rfl), yp_yX3_columnOf.1, yp_yX3_columnOf.2.1, yp_yX3_columnOf.2.2⟩
theorem ml_X9_42 : eLkS RX9 42 yJ9_max_7cf53 2 := ⟨(wd2 188 rfl rfl), (wd1 13 rfl rfl), (wd2 189 rfl rfl), yp_yJ9_max_7cf53.1, yp_yJ9_max_7cf53.2.1, yp_yJ9_max_7cf53.2.2⟩
theorem ml_X9_48 : eLkV RX9 48 yX9_firstUneven 0 := ⟨(wd2 191 rfl rfl), (wd1 10 rfl rfl), (wd2 192 rfl rfl), (wd2 193 rfl rfl), yp_yX9_firstUneven.1, yp_yX9_firstUneven.2.1, yp_yX9_firstUneven.2.2⟩
theorem ml_X9_52 : eLkV RX9 52 yX9_sumOfRow 1 := ⟨(wd2 195 rfl rfl), (wd1 10 rfl rfl), (wd2 196 rfl rfl), (wd2 197 rfl rfl), yp_yX9_sumOfRow.1, yp_yX9_sumOfRow.2.1, yp_yX9_sumOfRow.2.2⟩
theorem ml_X9_56 : eLkS RX9 56 yX1_of 3 := ⟨(wd2 219 rfl rfl), (wd1 14 rfl rfl), (wd2 220 rfl rfl), yp_yX1_of.1, yp_yX1_of.2.1, yp_yX1_of.2.2⟩
theorem ml_X9_62 : eLkV RX9 62 yX9_sumOfColumn 1 := ⟨(wd2 199 rfl rfl), (wd1 10 rfl rfl), (wd2 200 rfl rfl), (wd2 201 rfl rfl), yp_yX9_sumOfColumn.1, yp_yX9_sumOfColumn.2.1, yp_yX9_sumOfColumn.2.2⟩
theorem ml_X9_65 : eLkV RX9 65 yX9_joinedBy 1 := ⟨(wd2 215 rfl rfl), (wd1 10 rfl rfl), (wd2 216 rfl rfl), (wd2 217 rfl rfl), yp_yX9_joinedBy.1, yp_yX9_joinedBy.2.1, yp_yX9_joinedBy.2.2⟩
theorem ml_X9_69 : eLkS RX9 69 yJ13_bitCount_95d88 1 := ⟨(wd2 222 rfl rfl), (wd1 15 rfl rfl), (wd2 223 rfl rfl), yp_yJ13_bitCount_95d88.1, yp_yJ13_bitCount_95d88.2.1, yp_yJ13_bitCount_95d88.2.2⟩
theorem eGoodIn {L : List Cond} (h : ∀ w ∈ L, w ∈ eTbl) : GoodIn eTbl L := fun w hw => ⟨h w hw, good_of_word (eTbl_good (h w hw))⟩
theorem cw_X0_findFirst : Cond.code yX0_findFirst cX0_findFirst 9 (some .boolean) ∈ eTbl := (wd3 141 rfl rfl)
theorem cw_X0_nextColumn : Cond.code yX0_nextColumn cX0_nextColumn 6 (some .int) ∈ eTbl := (wd3 145 rfl rfl)
theorem cw_X0_greatestLeast : Cond.code yX0_greatestLeast cX0_greatestLeast 12 (some .long) ∈ eTbl := (wd3 127 rfl rfl)
theorem cw_X0_findRichest : Cond.code yX0_findRichest cX0_findRichest 8 (some .long) ∈ eTbl := (wd3 158 rfl rfl)
theorem cw_X0_sumUp : Cond.code yX0_sumUp cX0_sumUp 12 none ∈ eTbl := (wd3 162 rfl rfl)
theorem cw_X0_richestColumn : Cond.code yX0_richestColumn cX0_richestColumn 9 (some .int) ∈ eTbl := (wd3 166 rfl rfl)
theorem cw_X0_countAll : Cond.code yX0_countAll cX0_countAll 10 (some .long) ∈ eTbl := (wd4 27 rfl rfl)
theorem cw_X0_multiplyAll : Cond.code yX0_multiplyAll cX0_multiplyAll 4 (some .long) ∈ eTbl := (wd4 46 rfl rfl)
theorem cw_X0_multiplySet : Cond.code yX0_multiplySet cX0_multiplySet 11 (some .long) ∈ eTbl := (wd4 50 rfl rfl)
theorem cw_X1_of : Cond.code yX1_of cX1_of 8 (some .long) ∈ eTbl := (wd2 221 rfl rfl)
theorem cw_X1_rowOf : Cond.code yX1_rowOf cX1_rowOf 3 (some .int) ∈ eTbl := (wd3 4 rfl rfl)
theorem cw_X1_through : Cond.code yX1_through cX1_through 6 (some .long) ∈ eTbl := (wd3 152 rfl rfl)
theorem cw_X1_columnsOf : Cond.code yX1_columnsOf cX1_columnsOf 6 (some .int) ∈ eTbl := (wd3 1 rfl rfl)
theorem cw_X1_rowsOf : Cond.code yX1_rowsOf cX1_rowsOf 6 (some .int) ∈ eTbl := (wd3 8 rfl rfl)
theorem cw_X1_countGroups : Cond.code yX1_countGroups cX1_countGroups 6 (some .int) ∈ eTbl := (wd2 235 rfl rfl)
theorem cw_X1_groupOf : Cond.code yX1_groupOf cX1_groupOf 6 (some .int) ∈ eTbl := (wd2 238 rfl rfl)
theorem cw_X1_rowsMostLacking : Cond.code yX1_rowsMostLacking cX1_rowsMostLacking 7 (some .int) ∈ eTbl := (wd4 12 rfl rfl)
theorem cw_X1_kinOf : Cond.code yX1_kinOf cX1_kinOf 7 (some .int) ∈ eTbl := (wd4 152 rfl rfl)
theorem cw_X1_reachedFrom : Cond.code yX1_reachedFrom cX1_reachedFrom 6 (some .int) ∈ eTbl := (wd4 155 rfl rfl)
theorem cw_X1_leastFullPower : Cond.code yX1_leastFullPower cX1_leastFullPower 8 (some .int) ∈ eTbl := (wd4 142 rfl rfl)
theorem cw_X1_product : Cond.code yX1_product cX1_product 8 (some .long) ∈ eTbl := (wd4 145 rfl rfl)
theorem cw_X2_makeMixture : Cond.code yX2_makeMixture cX2_makeMixture 25 (some .boolean) ∈ eTbl := (wd3 46 rfl rfl)
theorem cw_X2_multiplied : Cond.code yX2_multiplied cX2_multiplied 4 (some .long) ∈ eTbl := (wd3 52 rfl rfl)
theorem cw_X2_makeProduct : Cond.code yX2_makeProduct cX2_makeProduct 9 (some .boolean) ∈ eTbl := (wd3 77 rfl rfl)
theorem cw_X2_makeTurned : Cond.code yX2_makeTurned cX2_makeTurned 10 (some .boolean) ∈ eTbl := (wd3 85 rfl rfl)
theorem cw_X2_turnedFrom : Cond.code yX2_turnedFrom cX2_turnedFrom 5 (some .int) ∈ eTbl := (wd3 88 rfl rfl)
theorem cw_X2_bring : Cond.code yX2_bring cX2_bring 10 (some .boolean) ∈ eTbl := (wd3 57 rfl rfl)
theorem cw_X2_sharedDivisor : Cond.code yX2_sharedDivisor cX2_sharedDivisor 8 (some .long) ∈ eTbl := (wd3 61 rfl rfl)
theorem cw_X2_areCells : Cond.code yX2_areCells cX2_areCells 6 (some .boolean) ∈ eTbl := (wd3 67 rfl rfl)
theorem cw_X3_start : Cond.code yX3_start cX3_start 5 none ∈ eTbl := (wd3 110 rfl rfl)
theorem cw_X3_add : Cond.code yX3_add cX3_add 3 none ∈ eTbl := (wd3 174 rfl rfl)
theorem cw_X3_hasPart : Cond.code yX3_hasPart cX3_hasPart 2 (some .boolean) ∈ eTbl := (wd3 183 rfl rfl)
theorem cw_X3_hasRow : Cond.code yX3_hasRow cX3_hasRow 2 (some .boolean) ∈ eTbl := (wd3 187 rfl rfl)
theorem cw_X3_hasJob : Cond.code yX3_hasJob cX3_hasJob 2 (some .boolean) ∈ eTbl := (wd4 199 rfl rfl)
theorem cw_X3_columnOf : Cond.code yX3_columnOf cX3_columnOf 3 (some .int) ∈ eTbl := (wd3 191 rfl rfl)
theorem cw_X3_inLeastTerms : Cond.code yX3_inLeastTerms cX3_inLeastTerms 4 (some .int) ∈ eTbl := (wd3 199 rfl rfl)
theorem cw_X3_partAt : Cond.code yX3_partAt cX3_partAt 4 (some .int) ∈ eTbl := (wd3 208 rfl rfl)
theorem cw_X3_weightOfBoth : Cond.code yX3_weightOfBoth cX3_weightOfBoth 7 (some .int) ∈ eTbl := (wd3 216 rfl rfl)
theorem cw_X3_weightOf : Cond.code yX3_weightOf cX3_weightOf 3 (some .int) ∈ eTbl := (wd4 133 rfl rfl)
theorem cw_X3_commonestColumn : Cond.code yX3_commonestColumn cX3_commonestColumn 4 (some .int) ∈ eTbl := (wd4 129 rfl rfl)
theorem cw_X3_countColumns : Cond.code yX3_countColumns cX3_countColumns 4 (some .int) ∈ eTbl := (wd4 124 rfl rfl)
theorem cw_X3_machineOf : Cond.code yX3_machineOf cX3_machineOf 4 (some .int) ∈ eTbl := (wd4 203 rfl rfl)
theorem cw_X3_lastHour : Cond.code yX3_lastHour cX3_lastHour 5 (some .int) ∈ eTbl := (wd4 211 rfl rfl)
theorem cw_X3_countPieces : Cond.code yX3_countPieces cX3_countPieces 4 (some .int) ∈ eTbl := (wd4 216 rfl rfl)
theorem cw_X3_countMoves : Cond.code yX3_countMoves cX3_countMoves 6 (some .int) ∈ eTbl := (wd4 220 rfl rfl)
theorem cw_X4_greatestDivisor : Cond.code yX4_greatestDivisor cX4_greatestDivisor 11 (some .long) ∈ eTbl := (wd2 160 rfl rfl)
theorem cw_X4_leastMultiple : Cond.code yX4_leastMultiple cX4_leastMultiple 8 (some .long) ∈ eTbl := (wd2 176 rfl rfl)
theorem cw_X5_startTable : Cond.code yX5_startTable cX5_startTable 2 none ∈ eTbl := (wd3 103 rfl rfl)
theorem cw_X5_startShop : Cond.code yX5_startShop cX5_startShop 7 none ∈ eTbl := (wd4 184 rfl rfl)
theorem cw_X5_startLike : Cond.code yX5_startLike cX5_startLike 2 none ∈ eTbl := (wd4 67 rfl rfl)
theorem cw_X5_takePart : Cond.code yX5_takePart cX5_takePart 3 none ∈ eTbl := (wd3 118 rfl rfl)
theorem cw_X5_choose : Cond.code yX5_choose cX5_choose 6 (some .boolean) ∈ eTbl := (wd3 122 rfl rfl)
theorem cw_X5_leastPlace : Cond.code yX5_leastPlace cX5_leastPlace 6 (some .int) ∈ eTbl := (wd3 149 rfl rfl)
theorem cw_X5_choiceNumber : Cond.code yX5_choiceNumber cX5_choiceNumber 3 (some .int) ∈ eTbl := (wd4 71 rfl rfl)
theorem cw_X6_round : Cond.code yX6_round cX6_round 2 none ∈ eTbl := (wd4 83 rfl rfl)
theorem cw_X6_lay : Cond.code yX6_lay cX6_lay 8 none ∈ eTbl := (wd4 87 rfl rfl)
theorem cw_X6_setBounds : Cond.code yX6_setBounds cX6_setBounds 6 none ∈ eTbl := (wd4 92 rfl rfl)
theorem cw_X6_meetLows : Cond.code yX6_meetLows cX6_meetLows 3 none ∈ eTbl := (wd4 96 rfl rfl)
theorem cw_X6_meetLow : Cond.code yX6_meetLow cX6_meetLow 5 none ∈ eTbl := (wd4 100 rfl rfl)
theorem cw_X6_lessen : Cond.code yX6_lessen cX6_lessen 7 (some .long) ∈ eTbl := (wd4 116 rfl rfl)
theorem cw_X6_findWay : Cond.code yX6_findWay cX6_findWay 6 (some .boolean) ∈ eTbl := (wd4 104 rfl rfl)
theorem cw_X6_isOpen : Cond.code yX6_isOpen cX6_isOpen 5 (some .boolean) ∈ eTbl := (wd4 108 rfl rfl)
theorem cw_X6_flowAlong : Cond.code yX6_flowAlong cX6_flowAlong 6 none ∈ eTbl := (wd4 112 rfl rfl)
theorem cw_X7_seek : Cond.code yX7_seek cX7_seek 5 none ∈ eTbl := (wd4 59 rfl rfl)
theorem cw_X7_isNewStep : Cond.code yX7_isNewStep cX7_isNewStep 7 (some .boolean) ∈ eTbl := (wd4 63 rfl rfl)
theorem cw_X7_finish : Cond.code yX7_finish cX7_finish 6 none ∈ eTbl := (wd4 75 rfl rfl)
theorem cw_X7_countFewest : Cond.code yX7_countFewest cX7_countFewest 5 (some .int) ∈ eTbl := (wd3 225 rfl rfl)
theorem cw_X7_addWeight : Cond.code yX7_addWeight cX7_addWeight 3 none ∈ eTbl := (wd3 234 rfl rfl)
theorem cw_X7_leastOf : Cond.code yX7_leastOf cX7_leastOf 6 (some .int) ∈ eTbl := (wd3 237 rfl rfl)
theorem cw_X7_countAbove : Cond.code yX7_countAbove cX7_countAbove 7 (some .int) ∈ eTbl := (wd4 1 rfl rfl)
theorem cw_X8_write : Cond.code yX8_write cX8_write 4 none ∈ eTbl := (wd4 163 rfl rfl)
theorem cw_X8_putNumber : Cond.code yX8_putNumber cX8_putNumber 4 none ∈ eTbl := (wd4 167 rfl rfl)
theorem cw_X8_put : Cond.code yX8_put cX8_put 2 none ∈ eTbl := (wd4 171 rfl rfl)
theorem cw_X9_settle : Cond.code yX9_settle cX9_settle 4 none ∈ eTbl := (wd2 187 rfl rfl)
theorem cw_X9_has : Cond.code yX9_has cX9_has 2 (some .boolean) ∈ eTbl := (wd3 22 rfl rfl)
theorem cw_X9_joinedBy : Cond.code yX9_joinedBy cX9_joinedBy 2 (some .long) ∈ eTbl := (wd2 218 rfl rfl)
theorem cw_X9_sumOfRow : Cond.code yX9_sumOfRow cX9_sumOfRow 4 (some .int) ∈ eTbl := (wd2 198 rfl rfl)
theorem cw_X9_sumOfColumn : Cond.code yX9_sumOfColumn cX9_sumOfColumn 4 (some .int) ∈ eTbl := (wd2 202 rfl rfl)
theorem cw_X9_greatestSum : Cond.code yX9_greatestSum cX9_greatestSum 3 (some .int) ∈ eTbl := (wd4 188 rfl rfl)
theorem cw_X9_firstUneven : Cond.code yX9_firstUneven cX9_firstUneven 3 (some .int) ∈ eTbl := (wd2 194 rfl rfl)
theorem cw_X9_countAbove0 : Cond.code yX9_countAbove0 cX9_countAbove0 1 (some .int) ∈ eTbl := (wd2 214 rfl rfl)
theorem cw_X9_greatestCell : Cond.code yX9_greatestCell cX9_greatestCell 4 (some .int) ∈ eTbl := (wd2 231 rfl rfl)
theorem cw_X10_hasRoom : Cond.code yX10_hasRoom cX10_hasRoom 1 (some .boolean) ∈ eTbl := (wd2 85 rfl rfl)
theorem cw_X10_putNumber : Cond.code yX10_putNumber cX10_putNumber 3 none ∈ eTbl := (wd2 89 rfl rfl)
theorem cw_X10_drop : Cond.code yX10_drop cX10_drop 1 none ∈ eTbl := (wd2 105 rfl rfl)
theorem cw_X10_readInto : Cond.code yX10_readInto cX10_readInto 3 (some .int) ∈ eTbl := (wd2 109 rfl rfl)
theorem cw_X10_readPiece : Cond.code yX10_readPiece cX10_readPiece 1 none ∈ eTbl := (wd2 113 rfl rfl)
theorem cw_X10_closeRow : Cond.code yX10_closeRow cX10_closeRow 1 none ∈ eTbl := (wd2 125 rfl rfl)
theorem cw_X10_readFraction : Cond.code yX10_readFraction cX10_readFraction 2 none ∈ eTbl := (wd2 137 rfl rfl)
theorem cw_X10_readDivisor : Cond.code yX10_readDivisor cX10_readDivisor 3 (some .int) ∈ eTbl := (wd2 149 rfl rfl)
theorem cw_X10_keepFraction : Cond.code yX10_keepFraction cX10_keepFraction 5 none ∈ eTbl := (wd2 157 rfl rfl)
theorem cw_X10_countDigits : Cond.code yX10_countDigits cX10_countDigits 3 (some .int) ∈ eTbl := (wd2 141 rfl rfl)
theorem cw_X10_readNumber : Cond.code yX10_readNumber cX10_readNumber 3 (some .int) ∈ eTbl := (wd2 145 rfl rfl)
theorem cw_X10_skipBlanks : Cond.code yX10_skipBlanks cX10_skipBlanks 2 none ∈ eTbl := (wd2 153 rfl rfl)
theorem cw_X10_isSign : Cond.code yX10_isSign cX10_isSign 3 (some .boolean) ∈ eTbl := (wd2 121 rfl rfl)
theorem cw_X10_isBlank : Cond.code yX10_isBlank cX10_isBlank 2 (some .boolean) ∈ eTbl := (wd2 117 rfl rfl)
theorem cw_X10_isDigit : Cond.code yX10_isDigit cX10_isDigit 2 (some .boolean) ∈ eTbl := (wd2 133 rfl rfl)
theorem cw_X10_fail : Cond.code yX10_fail cX10_fail 3 none ∈ eTbl := (wd2 129 rfl rfl)
theorem cw_X10_checkEnd : Cond.code yX10_checkEnd cX10_checkEnd 1 none ∈ eTbl := (wd2 164 rfl rfl)
theorem cw_X10_fill : Cond.code yX10_fill cX10_fill 6 none ∈ eTbl := (wd2 168 rfl rfl)
theorem cw_X10_commonBelow : Cond.code yX10_commonBelow cX10_commonBelow 5 (some .int) ∈ eTbl := (wd2 172 rfl rfl)
theorem cw_X10_areCells : Cond.code yX10_areCells cX10_areCells 5 (some .boolean) ∈ eTbl := (wd2 182 rfl rfl)
theorem cw_X11_feed : Cond.code yX11_feed cX11_feed 6 (some .int) ∈ eTbl := (wd2 81 rfl rfl)
theorem cw_X11_end : Cond.code yX11_end cX11_end 2 (some .boolean) ∈ eTbl := (wd2 93 rfl rfl)
theorem cw_X11_table : Cond.code yX11_table cX11_table 3 (some .int) ∈ eTbl := (wd2 97 rfl rfl)
theorem cw_X11_fault : Cond.code yX11_fault cX11_fault 2 (some .int) ∈ eTbl := (wd2 206 rfl rfl)
theorem cw_X11_look : Cond.code yX11_look cX11_look 4 (some .int) ∈ eTbl := (wd2 210 rfl rfl)
theorem cw_X11_cell : Cond.code yX11_cell cX11_cell 5 (some .int) ∈ eTbl := (wd3 18 rfl rfl)
theorem cw_X11_uneven : Cond.code yX11_uneven cX11_uneven 3 (some .int) ∈ eTbl := (wd3 26 rfl rfl)
theorem cw_X11_mix : Cond.code yX11_mix cX11_mix 8 (some .boolean) ∈ eTbl := (wd3 35 rfl rfl)
theorem cw_X11_times : Cond.code yX11_times cX11_times 4 (some .boolean) ∈ eTbl := (wd3 73 rfl rfl)
theorem cw_X11_turn : Cond.code yX11_turn cX11_turn 7 (some .boolean) ∈ eTbl := (wd3 81 rfl rfl)
theorem cw_X11_peel : Cond.code yX11_peel cX11_peel 4 (some .int) ∈ eTbl := (wd3 92 rfl rfl)
theorem cw_X11_part : Cond.code yX11_part cX11_part 3 (some .int) ∈ eTbl := (wd3 179 rfl rfl)
theorem cw_X11_weight : Cond.code yX11_weight cX11_weight 4 (some .int) ∈ eTbl := (wd3 195 rfl rfl)
theorem cw_X11_draw : Cond.code yX11_draw cX11_draw 2 (some .int) ∈ eTbl := (wd3 204 rfl rfl)
theorem cw_X11_joint : Cond.code yX11_joint cX11_joint 6 (some .int) ∈ eTbl := (wd3 212 rfl rfl)
theorem cw_X11_bound : Cond.code yX11_bound cX11_bound 4 (some .int) ∈ eTbl := (wd3 221 rfl rfl)
theorem cw_X11_lack : Cond.code yX11_lack cX11_lack 9 (some .int) ∈ eTbl := (wd4 5 rfl rfl)
theorem cw_X11_paired : Cond.code yX11_paired cX11_paired 5 (some .int) ∈ eTbl := (wd4 18 rfl rfl)
theorem cw_X11_ways : Cond.code yX11_ways cX11_ways 4 (some .int) ∈ eTbl := (wd4 23 rfl rfl)
theorem cw_X11_widest : Cond.code yX11_widest cX11_widest 3 (some .int) ∈ eTbl := (wd4 31 rfl rfl)
theorem cw_X11_best : Cond.code yX11_best cX11_best 6 (some .long) ∈ eTbl := (wd4 36 rfl rfl)
theorem cw_X11_permanent : Cond.code yX11_permanent cX11_permanent 3 (some .long) ∈ eTbl := (wd4 42 rfl rfl)
theorem cw_X11_sought : Cond.code yX11_sought cX11_sought 4 (some .int) ∈ eTbl := (wd4 55 rfl rfl)
theorem cw_X11_rounded : Cond.code yX11_rounded cX11_rounded 6 (some .int) ∈ eTbl := (wd4 79 rfl rfl)
theorem cw_X11_most : Cond.code yX11_most cX11_most 4 (some .int) ∈ eTbl := (wd4 120 rfl rfl)
theorem cw_X11_mixing : Cond.code yX11_mixing cX11_mixing 3 (some .int) ∈ eTbl := (wd4 139 rfl rfl)
theorem cw_X11_kin : Cond.code yX11_kin cX11_kin 4 (some .int) ∈ eTbl := (wd4 149 rfl rfl)
theorem cw_X11_show : Cond.code yX11_show cX11_show 1 (some .int) ∈ eTbl := (wd4 159 rfl rfl)
theorem cw_X11_out : Cond.code yX11_out cX11_out 2 (some .int) ∈ eTbl := (wd4 176 rfl rfl)
theorem cw_X11_shop : Cond.code yX11_shop cX11_shop 4 (some .int) ∈ eTbl := (wd4 180 rfl rfl)
theorem cw_X11_works : Cond.code yX11_works cX11_works 4 (some .int) ∈ eTbl := (wd4 195 rfl rfl)
theorem cw_X11_job : Cond.code yX11_job cX11_job 3 (some .int) ∈ eTbl := (wd4 207 rfl rfl)
theorem cw_X11_kept : Cond.code yX11_kept cX11_kept 2 (some .int) ∈ eTbl := (wd4 224 rfl rfl)
theorem cw_X11_slotAt : Cond.code yX11_slotAt cX11_slotAt 2 (some (.object "EvenTables$Table")) ∈ eTbl := (wd2 101 rfl rfl)
theorem cw_X11_filledSlot : Cond.code yX11_filledSlot cX11_filledSlot 3 (some (.object "EvenTables$Table")) ∈ eTbl := (wd3 30 rfl rfl)
theorem cw_X11_evenSlot : Cond.code yX11_evenSlot cX11_evenSlot 3 (some (.object "EvenTables$Table")) ∈ eTbl := (wd3 96 rfl rfl)
theorem cw_X11_areLike : Cond.code yX11_areLike cX11_areLike 6 (some .boolean) ∈ eTbl := (wd3 42 rfl rfl)
theorem cw_X11_keepParts : Cond.code yX11_keepParts cX11_keepParts 3 (some .int) ∈ eTbl := (wd3 114 rfl rfl)
theorem cw_X11_isRule : Cond.code yX11_isRule cX11_isRule 1 (some .boolean) ∈ eTbl := (wd3 99 rfl rfl)
theorem cw_X11_isCell : Cond.code yX11_isCell cX11_isCell 1 (some .boolean) ∈ eTbl := (wd4 8 rfl rfl)
theorem cw_X11_isShare : Cond.code yX11_isShare cX11_isShare 2 (some .boolean) ∈ eTbl := (wd3 38 rfl rfl)
theorem cw_X12_isIn : Cond.code yX12_isIn cX12_isIn 6 (some .boolean) ∈ eTbl := (wd5 136 rfl rfl)
theorem cw_X12_one : Cond.code yX12_one cX12_one 1 (some .int) ∈ eTbl := (wd5 224 rfl rfl)
theorem cw_X12_common : Cond.code yX12_common cX12_common 10 (some .long) ∈ eTbl := (wd5 197 rfl rfl)
theorem cw_X12_takes : Cond.code yX12_takes cX12_takes 6 (some .boolean) ∈ eTbl := (wd5 202 rfl rfl)
theorem cw_X12_isSlot : Cond.code yX12_isSlot cX12_isSlot 1 (some .boolean) ∈ eTbl := (wd5 132 rfl rfl)
theorem cw_X12_isTable : Cond.code yX12_isTable cX12_isTable 2 (some .boolean) ∈ eTbl := (wd5 129 rfl rfl)
theorem cw_X12_at : Cond.code yX12_at cX12_at 4 (some .int) ∈ eTbl := (wd5 144 rfl rfl)
theorem cw_X12_rowOf : Cond.code yX12_rowOf cX12_rowOf 6 (some .long) ∈ eTbl := (wd5 140 rfl rfl)
theorem cw_X12_columnOf : Cond.code yX12_columnOf cX12_columnOf 6 (some .long) ∈ eTbl := (wd5 148 rfl rfl)
theorem cw_X12_isEven : Cond.code yX12_isEven cX12_isEven 2 (some .boolean) ∈ eTbl := (wd5 216 rfl rfl)
theorem cw_X12_uneven : Cond.code yX12_uneven cX12_uneven 3 (some .int) ∈ eTbl := (wd5 125 rfl rfl)
theorem cw_X12_four : Cond.code yX12_four cX12_four 3 none ∈ eTbl := (wd5 156 rfl rfl)
theorem cw_X12_feed : Cond.code yX12_feed cX12_feed 6 (some .int) ∈ eTbl := (wd5 152 rfl rfl)
theorem cw_X12_end : Cond.code yX12_end cX12_end 2 (some .boolean) ∈ eTbl := (wd5 160 rfl rfl)
theorem cw_X12_see : Cond.code yX12_see cX12_see 2 (some .int) ∈ eTbl := (wd5 172 rfl rfl)
theorem cw_X12_next : Cond.code yX12_next cX12_next 2 none ∈ eTbl := (wd5 168 rfl rfl)
theorem cw_X12_fails : Cond.code yX12_fails cX12_fails 2 (some .boolean) ∈ eTbl := (wd5 186 rfl rfl)
theorem cw_X12_isNumber : Cond.code yX12_isNumber cX12_isNumber 1 (some .boolean) ∈ eTbl := (wd5 182 rfl rfl)
theorem cw_X12_readFraction : Cond.code yX12_readFraction cX12_readFraction 3 (some .boolean) ∈ eTbl := (wd5 190 rfl rfl)
theorem cw_X12_readRow : Cond.code yX12_readRow cX12_readRow 3 (some .boolean) ∈ eTbl := (wd5 178 rfl rfl)
theorem cw_X12_isOver : Cond.code yX12_isOver cX12_isOver 7 (some .boolean) ∈ eTbl := (wd5 194 rfl rfl)
theorem cw_X12_table : Cond.code yX12_table cX12_table 4 (some .int) ∈ eTbl := (wd5 164 rfl rfl)
theorem cw_X12_fault : Cond.code yX12_fault cX12_fault 2 (some .int) ∈ eTbl := (wd5 207 rfl rfl)
theorem cw_X12_groupsOf : Cond.code yX12_groupsOf cX12_groupsOf 7 (some .int) ∈ eTbl := (wd5 228 rfl rfl)
theorem cw_X12_aboveNought : Cond.code yX12_aboveNought cX12_aboveNought 4 (some .int) ∈ eTbl := (wd5 221 rfl rfl)
theorem cw_X12_look : Cond.code yX12_look cX12_look 5 (some .int) ∈ eTbl := (wd5 211 rfl rfl)
theorem cw_X12_isCell : Cond.code yX12_isCell cX12_isCell 4 (some .boolean) ∈ eTbl := (wd5 236 rfl rfl)
theorem cw_X12_cell : Cond.code yX12_cell cX12_cell 4 (some .int) ∈ eTbl := (wd5 232 rfl rfl)
theorem cw_X12_isPart : Cond.code yX12_isPart cX12_isPart 2 (some .boolean) ∈ eTbl := (wd6 3 rfl rfl)
theorem cw_X12_grown : Cond.code yX12_grown cX12_grown 4 (some .long) ∈ eTbl := (wd6 8 rfl rfl)
theorem cw_X12_mix : Cond.code yX12_mix cX12_mix 20 (some .boolean) ∈ eTbl := (wd6 0 rfl rfl)
theorem cw_X12_times : Cond.code yX12_times cX12_times 10 (some .boolean) ∈ eTbl := (wd6 14 rfl rfl)
theorem cw_X12_behind : Cond.code yX12_behind cX12_behind 3 (some .int) ∈ eTbl := (wd6 22 rfl rfl)
theorem cw_X12_turn : Cond.code yX12_turn cX12_turn 10 (some .boolean) ∈ eTbl := (wd6 18 rfl rfl)
theorem cw_X12_bits : Cond.code yX12_bits cX12_bits 3 (some .int) ∈ eTbl := (wd6 56 rfl rfl)
theorem cw_X12_worked : Cond.code yX12_worked cX12_worked 3 (some .int) ∈ eTbl := (wd6 64 rfl rfl)
theorem cw_X12_worksOn : Cond.code yX12_worksOn cX12_worksOn 3 none ∈ eTbl := (wd6 33 rfl rfl)
theorem cw_X12_laysCan : Cond.code yX12_laysCan cX12_laysCan 9 none ∈ eTbl := (wd6 68 rfl rfl)
theorem cw_X12_isChosen : Cond.code yX12_isChosen cX12_isChosen 8 (some .boolean) ∈ eTbl := (wd6 53 rfl rfl)
theorem cw_X12_isOpen : Cond.code yX12_isOpen cX12_isOpen 6 (some .boolean) ∈ eTbl := (wd6 60 rfl rfl)
theorem cw_X12_chooseGreatest : Cond.code yX12_chooseGreatest cX12_chooseGreatest 5 (some .long) ∈ eTbl := (wd6 75 rfl rfl)
theorem cw_X12_choose : Cond.code yX12_choose cX12_choose 4 none ∈ eTbl := (wd6 49 rfl rfl)
theorem cw_X12_isLeft : Cond.code yX12_isLeft cX12_isLeft 2 (some .boolean) ∈ eTbl := (wd6 41 rfl rfl)
theorem cw_X12_peels : Cond.code yX12_peels cX12_peels 4 (some .int) ∈ eTbl := (wd6 45 rfl rfl)
theorem cw_X12_keepsAll : Cond.code yX12_keepsAll cX12_keepsAll 5 (some .int) ∈ eTbl := (wd6 37 rfl rfl)
theorem cw_X12_isRule : Cond.code yX12_isRule cX12_isRule 1 (some .boolean) ∈ eTbl := (wd6 29 rfl rfl)
theorem cw_X12_peel : Cond.code yX12_peel cX12_peel 3 (some .int) ∈ eTbl := (wd6 26 rfl rfl)
theorem cw_X12_isPartThere : Cond.code yX12_isPartThere cX12_isPartThere 2 (some .boolean) ∈ eTbl := (wd6 85 rfl rfl)
theorem cw_X12_isKeptRow : Cond.code yX12_isKeptRow cX12_isKeptRow 2 (some .boolean) ∈ eTbl := (wd6 89 rfl rfl)
theorem cw_X12_part : Cond.code yX12_part cX12_part 3 (some .int) ∈ eTbl := (wd6 81 rfl rfl)
theorem cw_X12_weight : Cond.code yX12_weight cX12_weight 4 (some .int) ∈ eTbl := (wd6 93 rfl rfl)
theorem cw_X12_draw : Cond.code yX12_draw cX12_draw 4 (some .int) ∈ eTbl := (wd6 98 rfl rfl)
theorem cw_X12_joint : Cond.code yX12_joint cX12_joint 8 (some .int) ∈ eTbl := (wd6 102 rfl rfl)
theorem cw_X12_together : Cond.code yX12_together cX12_together 5 (some .int) ∈ eTbl := (wd6 110 rfl rfl)
theorem cw_X12_most : Cond.code yX12_most cX12_most 6 (some .int) ∈ eTbl := (wd6 106 rfl rfl)
theorem cw_X12_bound : Cond.code yX12_bound cX12_bound 3 (some .int) ∈ eTbl := (wd6 114 rfl rfl)
theorem cw_X12_fewest : Cond.code yX12_fewest cX12_fewest 13 (some .int) ∈ eTbl := (wd6 118 rfl rfl)
theorem cw_X12_lies : Cond.code yX12_lies cX12_lies 5 (some .long) ∈ eTbl := (wd6 122 rfl rfl)
theorem cw_X12_sought : Cond.code yX12_sought cX12_sought 7 (some .int) ∈ eTbl := (wd6 126 rfl rfl)
theorem cw_X12_ruleOf : Cond.code yX12_ruleOf cX12_ruleOf 2 (some .int) ∈ eTbl := (wd6 130 rfl rfl)
theorem cw_X12_cut : Cond.code yX12_cut cX12_cut 3 (some .int) ∈ eTbl := (wd6 141 rfl rfl)
theorem cw_X12_up : Cond.code yX12_up cX12_up 3 (some .int) ∈ eTbl := (wd6 144 rfl rfl)
theorem cw_X12_laysBounds : Cond.code yX12_laysBounds cX12_laysBounds 10 none ∈ eTbl := (wd6 138 rfl rfl)
theorem cw_X12_edge : Cond.code yX12_edge cX12_edge 5 none ∈ eTbl := (wd6 152 rfl rfl)
theorem cw_X12_isKept : Cond.code yX12_isKept cX12_isKept 4 (some .boolean) ∈ eTbl := (wd6 148 rfl rfl)
theorem cw_X12_isWay : Cond.code yX12_isWay cX12_isWay 4 (some .boolean) ∈ eTbl := (wd6 156 rfl rfl)
theorem cw_X12_rounded : Cond.code yX12_rounded cX12_rounded 6 (some .int) ∈ eTbl := (wd6 134 rfl rfl)
theorem cw_X12_isLeast : Cond.code yX12_isLeast cX12_isLeast 1 (some .boolean) ∈ eTbl := (wd6 163 rfl rfl)
theorem cw_X12_joined : Cond.code yX12_joined cX12_joined 7 (some .int) ∈ eTbl := (wd6 167 rfl rfl)
theorem cw_X12_lack : Cond.code yX12_lack cX12_lack 8 (some .int) ∈ eTbl := (wd6 160 rfl rfl)
theorem cw_X12_paired : Cond.code yX12_paired cX12_paired 4 (some .int) ∈ eTbl := (wd6 171 rfl rfl)
theorem cw_X12_isSummed : Cond.code yX12_isSummed cX12_isSummed 11 (some .boolean) ∈ eTbl := (wd6 179 rfl rfl)
theorem cw_X12_ways : Cond.code yX12_ways cX12_ways 3 (some .int) ∈ eTbl := (wd6 175 rfl rfl)
theorem cw_X12_widest : Cond.code yX12_widest cX12_widest 2 (some .int) ∈ eTbl := (wd6 183 rfl rfl)
theorem cw_X12_best : Cond.code yX12_best cX12_best 5 (some .long) ∈ eTbl := (wd6 187 rfl rfl)
theorem cw_X12_permanent : Cond.code yX12_permanent cX12_permanent 2 (some .long) ∈ eTbl := (wd6 192 rfl rfl)
theorem cw_X12_mixing : Cond.code yX12_mixing cX12_mixing 9 (some .int) ∈ eTbl := (wd6 197 rfl rfl)
theorem cw_X12_kin : Cond.code yX12_kin cX12_kin 7 (some .int) ∈ eTbl := (wd6 201 rfl rfl)
theorem cw_X12_says : Cond.code yX12_says cX12_says 2 none ∈ eTbl := (wd6 209 rfl rfl)
theorem cw_X12_show : Cond.code yX12_show cX12_show 4 (some .int) ∈ eTbl := (wd6 205 rfl rfl)
theorem cw_X12_out : Cond.code yX12_out cX12_out 2 (some .int) ∈ eTbl := (wd6 213 rfl rfl)
theorem cw_X12_shop : Cond.code yX12_shop cX12_shop 8 (some .int) ∈ eTbl := (wd6 217 rfl rfl)
theorem cw_X12_isJob : Cond.code yX12_isJob cX12_isJob 2 (some .boolean) ∈ eTbl := (wd6 225 rfl rfl)
theorem cw_X12_works : Cond.code yX12_works cX12_works 4 (some .int) ∈ eTbl := (wd6 221 rfl rfl)
theorem cw_X12_job : Cond.code yX12_job cX12_job 10 (some .int) ∈ eTbl := (wd6 230 rfl rfl)
theorem cw_X12_kept : Cond.code yX12_kept cX12_kept 2 (some .int) ∈ eTbl := (wd6 234 rfl rfl)
theorem cw_J6_bitCount_0f7a4 : Cond.code yJ6_bitCount_0f7a4 cJ6_bitCount_0f7a4 1 (some .int) ∈ eTbl := (wd3 11 rfl rfl)
theorem cw_J13_bitCount_95d88 : Cond.code yJ13_bitCount_95d88 cJ13_bitCount_95d88 2 (some .int) ∈ eTbl := (wd2 224 rfl rfl)
theorem cw_J9_max_7cf53 : Cond.code yJ9_max_7cf53 cJ9_max_7cf53 2 (some .int) ∈ eTbl := (wd2 190 rfl rfl)
theorem cw_J9_max_f86c9 : Cond.code yJ9_max_f86c9 cJ9_max_f86c9 4 (some .long) ∈ eTbl := (wd3 137 rfl rfl)
theorem cw_J9_min_7cf53 : Cond.code yJ9_min_7cf53 cJ9_min_7cf53 2 (some .int) ∈ eTbl := (wd3 170 rfl rfl)
theorem cw_J9_min_f86c9 : Cond.code yJ9_min_f86c9 cJ9_min_f86c9 4 (some .long) ∈ eTbl := (wd3 134 rfl rfl)
theorem cw_J7_fill_53178 : Cond.code yJ7_fill_53178 cJ7_fill_53178 4 none ∈ eTbl := (wd3 228 rfl rfl)
