theorem ap_at (a : va_W) (x : Nat × va_E) (r : va_W) : (a ++ (x :: r))[a.length]? = some x := by simp
def K_Tp : eM := (RX10, yX10_init, cX10_init, 1, none, { frames := 1, cells := 3, slots := 728, locals := 12 }, [(0, .aload_n 0, 1), (1, .invokespecial 3, 4), (4, .aload_n 0, 5), (5, .sipush 600, 8), (8, .newarray .int, 10), (10, .putfield 11, 13), (13, .aload_n 0, 14), (14, .bipush 64, 16), (16, .newarray .int, 18), (18, .putfield 15, 21), (21, .aload_n 0, 22), (22, .bipush 64, 24), (24, .newarray .int, 26), (26, .putfield 18, 29), (29, .aload_n 0, 30), (30, .iconst 0, 31), (31, .putfield 21, 34), (34, .aload_n 0, 35), (35, .iconst 0, 36), (36, .putfield 25, 39), (39, .aload_n 0, 40), (40, .iconst (-1), 41), (41, .putfield 28, 44), (44, .aload_n 0, 45), (45, .iconst 0, 46), (46, .putfield 31, 49), (49, .aload_n 0, 50), (50, .iconst 0, 51), (51, .putfield 34, 54), (54, .aload_n 0, 55), (55, .iconst 0, 56), (56, .putfield 37, 59), (59, .aload_n 0, 60), (60, .iconst 0, 61), (61, .putfield 40, 64), (64, .return_, 65)])
theorem ok_K_Tp : okN K_Tp := okN_of (by decide +kernel) (wd1 33 rfl rfl) rfl rfl rfl
theorem ny_Tp : (eNm K_Tp).cls ≠ "java/lang/invoke/MethodHandle" ∧ (eNm K_Tp).cls ≠ "java/lang/invoke/VarHandle" ∧ (parseMethodDescriptor (eNm K_Tp).desc).map (fun d => d.parameters.length) = some 0 := ⟨by decide +kernel, by decide +kernel, by decide +kernel⟩
def Q_Tp (h0 : Nat) : va_W → kT → Prop := fun w tys => ∃ (q0 : Nat) (c0 : ClassId) (q1 : Nat) (c1 : ClassId) (q2 : Nat) (c2 : ClassId), w = (h0, .inr (8, [.ref q0, .ref q1, .ref q2, .int 0, .int 0, .int (-1), .int 0, .int 0, .int 0, .int 0])) :: (q0, .inl (c0, 600, .inl (fun _ => 0))) :: (q1, .inl (c1, 64, .inl (fun _ => 0))) :: (q2, .inl (c2, 64, .inl (fun _ => 0))) :: [] ∧ tys = (c0, .int) :: (c1, .int) :: (c2, .int) :: []
set_option maxRecDepth 20000 in
theorem k_Tp (D : va_G) (h0 : Nat) : CM K_Tp D (fun _ => True) h0 [] (.inr (8, [.null, .null, .null, .int 0, .int 0, .int 0, .int 0, .int 0, .int 0, .int 0])) (Q_Tp h0) := by
  refine CM.of ok_K_Tp rfl (Nat.le_of_ble_eq_true rfl) ?_
  show COk _ _ _ _ _ _ _ [(0, .ref h0)] _ _ _
  refine co_ald 0 (ok_K_Tp.dec 0 rfl rfl) rfl rfl ?_
  refine co_obj (ok_K_Tp.dec 1 rfl rfl) rfl (wd1 34 rfl rfl) (wd1 25 rfl rfl) (wd1 26 rfl rfl) (Nat.le_of_ble_eq_true rfl) (Nat.le_of_ble_eq_true rfl) ?_
  refine co_ald 0 (ok_K_Tp.dec 2 rfl rfl) rfl rfl ?_
  refine co_sp (600) (ok_K_Tp.dec 3 rfl rfl) rfl (by decide) ?_
  refine co_newi 600 (ok_K_Tp.dec 4 rfl rfl) rfl (wd1 69 rfl rfl) (by decide) (by decide) (Nat.le_of_ble_eq_true rfl) (Nat.le_of_ble_eq_true rfl) (Nat.le_of_ble_eq_true rfl) (fun q0 c0 => ?_)
  show COk _ _ _ _ _ _ _ _ _ ((h0, .inr (8, [.null, .null, .null, .int 0, .int 0, .int 0, .int 0, .int 0, .int 0, .int 0])) :: (q0, .inl (c0, 600, .inl (fun _ => 0))) :: []) _
  refine co_putF (ty := .array .int) (v := .ref q0) (fs := [.null, .null, .null, .int 0, .int 0, .int 0, .int 0, .int 0, .int 0, .int 0]) (w' := (q0, .inl (c0, 600, .inl (fun _ => 0))) :: []) (ok_K_Tp.dec 5 rfl rfl) rfl fl_X10_11 rfl rfl rfl rfl rfl (Nat.le_of_ble_eq_true rfl) ?_
  show COk _ _ _ _ _ _ _ _ _ ((h0, .inr (8, [.ref q0, .null, .null, .int 0, .int 0, .int 0, .int 0, .int 0, .int 0, .int 0])) :: (q0, .inl (c0, 600, .inl (fun _ => 0))) :: []) _
  refine co_ald 0 (ok_K_Tp.dec 6 rfl rfl) rfl rfl ?_
  refine co_bp (64) (ok_K_Tp.dec 7 rfl rfl) rfl (by decide) ?_
  refine co_newi 64 (ok_K_Tp.dec 8 rfl rfl) rfl (wd1 69 rfl rfl) (by decide) (by decide) (Nat.le_of_ble_eq_true rfl) (Nat.le_of_ble_eq_true rfl) (Nat.le_of_ble_eq_true rfl) (fun q1 c1 => ?_)
  show COk _ _ _ _ _ _ _ _ _ ((h0, .inr (8, [.ref q0, .null, .null, .int 0, .int 0, .int 0, .int 0, .int 0, .int 0, .int 0])) :: (q0, .inl (c0, 600, .inl (fun _ => 0))) :: (q1, .inl (c1, 64, .inl (fun _ => 0))) :: []) _
  refine co_putF (ty := .array .int) (v := .ref q1) (fs := [.ref q0, .null, .null, .int 0, .int 0, .int 0, .int 0, .int 0, .int 0, .int 0]) (w' := (q0, .inl (c0, 600, .inl (fun _ => 0))) :: (q1, .inl (c1, 64, .inl (fun _ => 0))) :: []) (ok_K_Tp.dec 9 rfl rfl) rfl fl_X10_15 rfl rfl rfl rfl rfl (Nat.le_of_ble_eq_true rfl) ?_
  show COk _ _ _ _ _ _ _ _ _ ((h0, .inr (8, [.ref q0, .ref q1, .null, .int 0, .int 0, .int 0, .int 0, .int 0, .int 0, .int 0])) :: (q0, .inl (c0, 600, .inl (fun _ => 0))) :: (q1, .inl (c1, 64, .inl (fun _ => 0))) :: []) _
  refine co_ald 0 (ok_K_Tp.dec 10 rfl rfl) rfl rfl ?_
  refine co_bp (64) (ok_K_Tp.dec 11 rfl rfl) rfl (by decide) ?_
  refine co_newi 64 (ok_K_Tp.dec 12 rfl rfl) rfl (wd1 69 rfl rfl) (by decide) (by decide) (Nat.le_of_ble_eq_true rfl) (Nat.le_of_ble_eq_true rfl) (Nat.le_of_ble_eq_true rfl) (fun q2 c2 => ?_)
  show COk _ _ _ _ _ _ _ _ _ ((h0, .inr (8, [.ref q0, .ref q1, .null, .int 0, .int 0, .int 0, .int 0, .int 0, .int 0, .int 0])) :: (q0, .inl (c0, 600, .inl (fun _ => 0))) :: (q1, .inl (c1, 64, .inl (fun _ => 0))) :: (q2, .inl (c2, 64, .inl (fun _ => 0))) :: []) _
  refine co_putF (ty := .array .int) (v := .ref q2) (fs := [.ref q0, .ref q1, .null, .int 0, .int 0, .int 0, .int 0, .int 0, .int 0, .int 0]) (w' := (q0, .inl (c0, 600, .inl (fun _ => 0))) :: (q1, .inl (c1, 64, .inl (fun _ => 0))) :: (q2, .inl (c2, 64, .inl (fun _ => 0))) :: []) (ok_K_Tp.dec 13 rfl rfl) rfl fl_X10_18 rfl rfl rfl rfl rfl (Nat.le_of_ble_eq_true rfl) ?_
  show COk _ _ _ _ _ _ _ _ _ ((h0, .inr (8, [.ref q0, .ref q1, .ref q2, .int 0, .int 0, .int 0, .int 0, .int 0, .int 0, .int 0])) :: (q0, .inl (c0, 600, .inl (fun _ => 0))) :: (q1, .inl (c1, 64, .inl (fun _ => 0))) :: (q2, .inl (c2, 64, .inl (fun _ => 0))) :: []) _
  refine co_ald 0 (ok_K_Tp.dec 14 rfl rfl) rfl rfl ?_
  refine co_ic (0) (ok_K_Tp.dec 15 rfl rfl) rfl (by decide) ?_
  refine co_put (ty := .int) (v := .int 0) (fs := [.ref q0, .ref q1, .ref q2, .int 0, .int 0, .int 0, .int 0, .int 0, .int 0, .int 0]) (w' := (q0, .inl (c0, 600, .inl (fun _ => 0))) :: (q1, .inl (c1, 64, .inl (fun _ => 0))) :: (q2, .inl (c2, 64, .inl (fun _ => 0))) :: []) (ok_K_Tp.dec 16 rfl rfl) rfl fl_X10_21 rfl rfl rfl rfl (Nat.le_of_ble_eq_true rfl) ?_
  show COk _ _ _ _ _ _ _ _ _ ((h0, .inr (8, [.ref q0, .ref q1, .ref q2, .int 0, .int 0, .int 0, .int 0, .int 0, .int 0, .int 0])) :: (q0, .inl (c0, 600, .inl (fun _ => 0))) :: (q1, .inl (c1, 64, .inl (fun _ => 0))) :: (q2, .inl (c2, 64, .inl (fun _ => 0))) :: []) _
  refine co_ald 0 (ok_K_Tp.dec 17 rfl rfl) rfl rfl ?_
  refine co_ic (0) (ok_K_Tp.dec 18 rfl rfl) rfl (by decide) ?_
  refine co_put (ty := .int) (v := .int 0) (fs := [.ref q0, .ref q1, .ref q2, .int 0, .int 0, .int 0, .int 0, .int 0, .int 0, .int 0]) (w' := (q0, .inl (c0, 600, .inl (fun _ => 0))) :: (q1, .inl (c1, 64, .inl (fun _ => 0))) :: (q2, .inl (c2, 64, .inl (fun _ => 0))) :: []) (ok_K_Tp.dec 19 rfl rfl) rfl fl_X10_25 rfl rfl rfl rfl (Nat.le_of_ble_eq_true rfl) ?_
  show COk _ _ _ _ _ _ _ _ _ ((h0, .inr (8, [.ref q0, .ref q1, .ref q2, .int 0, .int 0, .int 0, .int 0, .int 0, .int 0, .int 0])) :: (q0, .inl (c0, 600, .inl (fun _ => 0))) :: (q1, .inl (c1, 64, .inl (fun _ => 0))) :: (q2, .inl (c2, 64, .inl (fun _ => 0))) :: []) _
  refine co_ald 0 (ok_K_Tp.dec 20 rfl rfl) rfl rfl ?_
  refine co_ic (-1) (ok_K_Tp.dec 21 rfl rfl) rfl (by decide) ?_
  refine co_put (ty := .int) (v := .int (-1)) (fs := [.ref q0, .ref q1, .ref q2, .int 0, .int 0, .int 0, .int 0, .int 0, .int 0, .int 0]) (w' := (q0, .inl (c0, 600, .inl (fun _ => 0))) :: (q1, .inl (c1, 64, .inl (fun _ => 0))) :: (q2, .inl (c2, 64, .inl (fun _ => 0))) :: []) (ok_K_Tp.dec 22 rfl rfl) rfl fl_X10_28 rfl rfl rfl rfl (Nat.le_of_ble_eq_true rfl) ?_
  show COk _ _ _ _ _ _ _ _ _ ((h0, .inr (8, [.ref q0, .ref q1, .ref q2, .int 0, .int 0, .int (-1), .int 0, .int 0, .int 0, .int 0])) :: (q0, .inl (c0, 600, .inl (fun _ => 0))) :: (q1, .inl (c1, 64, .inl (fun _ => 0))) :: (q2, .inl (c2, 64, .inl (fun _ => 0))) :: []) _
  refine co_ald 0 (ok_K_Tp.dec 23 rfl rfl) rfl rfl ?_
  refine co_ic (0) (ok_K_Tp.dec 24 rfl rfl) rfl (by decide) ?_
  refine co_put (ty := .int) (v := .int 0) (fs := [.ref q0, .ref q1, .ref q2, .int 0, .int 0, .int (-1), .int 0, .int 0, .int 0, .int 0]) (w' := (q0, .inl (c0, 600, .inl (fun _ => 0))) :: (q1, .inl (c1, 64, .inl (fun _ => 0))) :: (q2, .inl (c2, 64, .inl (fun _ => 0))) :: []) (ok_K_Tp.dec 25 rfl rfl) rfl fl_X10_31 rfl rfl rfl rfl (Nat.le_of_ble_eq_true rfl) ?_
  show COk _ _ _ _ _ _ _ _ _ ((h0, .inr (8, [.ref q0, .ref q1, .ref q2, .int 0, .int 0, .int (-1), .int 0, .int 0, .int 0, .int 0])) :: (q0, .inl (c0, 600, .inl (fun _ => 0))) :: (q1, .inl (c1, 64, .inl (fun _ => 0))) :: (q2, .inl (c2, 64, .inl (fun _ => 0))) :: []) _
  refine co_ald 0 (ok_K_Tp.dec 26 rfl rfl) rfl rfl ?_
  refine co_ic (0) (ok_K_Tp.dec 27 rfl rfl) rfl (by decide) ?_
  refine co_put (ty := .int) (v := .int 0) (fs := [.ref q0, .ref q1, .ref q2, .int 0, .int 0, .int (-1), .int 0, .int 0, .int 0, .int 0]) (w' := (q0, .inl (c0, 600, .inl (fun _ => 0))) :: (q1, .inl (c1, 64, .inl (fun _ => 0))) :: (q2, .inl (c2, 64, .inl (fun _ => 0))) :: []) (ok_K_Tp.dec 28 rfl rfl) rfl fl_X10_34 rfl rfl rfl rfl (Nat.le_of_ble_eq_true rfl) ?_
  show COk _ _ _ _ _ _ _ _ _ ((h0, .inr (8, [.ref q0, .ref q1, .ref q2, .int 0, .int 0, .int (-1), .int 0, .int 0, .int 0, .int 0])) :: (q0, .inl (c0, 600, .inl (fun _ => 0))) :: (q1, .inl (c1, 64, .inl (fun _ => 0))) :: (q2, .inl (c2, 64, .inl (fun _ => 0))) :: []) _
  refine co_ald 0 (ok_K_Tp.dec 29 rfl rfl) rfl rfl ?_
  refine co_ic (0) (ok_K_Tp.dec 30 rfl rfl) rfl (by decide) ?_
  refine co_put (ty := .int) (v := .int 0) (fs := [.ref q0, .ref q1, .ref q2, .int 0, .int 0, .int (-1), .int 0, .int 0, .int 0, .int 0]) (w' := (q0, .inl (c0, 600, .inl (fun _ => 0))) :: (q1, .inl (c1, 64, .inl (fun _ => 0))) :: (q2, .inl (c2, 64, .inl (fun _ => 0))) :: []) (ok_K_Tp.dec 31 rfl rfl) rfl fl_X10_37 rfl rfl rfl rfl (Nat.le_of_ble_eq_true rfl) ?_
  show COk _ _ _ _ _ _ _ _ _ ((h0, .inr (8, [.ref q0, .ref q1, .ref q2, .int 0, .int 0, .int (-1), .int 0, .int 0, .int 0, .int 0])) :: (q0, .inl (c0, 600, .inl (fun _ => 0))) :: (q1, .inl (c1, 64, .inl (fun _ => 0))) :: (q2, .inl (c2, 64, .inl (fun _ => 0))) :: []) _
  refine co_ald 0 (ok_K_Tp.dec 32 rfl rfl) rfl rfl ?_
  refine co_ic (0) (ok_K_Tp.dec 33 rfl rfl) rfl (by decide) ?_
  refine co_put (ty := .int) (v := .int 0) (fs := [.ref q0, .ref q1, .ref q2, .int 0, .int 0, .int (-1), .int 0, .int 0, .int 0, .int 0]) (w' := (q0, .inl (c0, 600, .inl (fun _ => 0))) :: (q1, .inl (c1, 64, .inl (fun _ => 0))) :: (q2, .inl (c2, 64, .inl (fun _ => 0))) :: []) (ok_K_Tp.dec 34 rfl rfl) rfl fl_X10_40 rfl rfl rfl rfl (Nat.le_of_ble_eq_true rfl) ?_
  show COk _ _ _ _ _ _ _ _ _ ((h0, .inr (8, [.ref q0, .ref q1, .ref q2, .int 0, .int 0, .int (-1), .int 0, .int 0, .int 0, .int 0])) :: (q0, .inl (c0, 600, .inl (fun _ => 0))) :: (q1, .inl (c1, 64, .inl (fun _ => 0))) :: (q2, .inl (c2, 64, .inl (fun _ => 0))) :: []) _
  exact co_ret (ok_K_Tp.dec 35 rfl rfl) rfl rfl ⟨q0, c0, q1, c1, q2, c2, rfl, by simp only [List.nil_append, List.cons_append, List.append_assoc]⟩
