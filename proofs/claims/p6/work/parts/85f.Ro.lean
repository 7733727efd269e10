def K_Ro : eM := (RX6, yX6_init, cX6_init, 1, none, { frames := 1, cells := 5, slots := 1008, locals := 12 }, [(0, .aload_n 0, 1), (1, .invokespecial 3, 4), (4, .aload_n 0, 5), (5, .sipush 324, 8), (8, .newarray .int, 10), (10, .putfield 11, 13), (13, .aload_n 0, 14), (14, .sipush 324, 17), (17, .newarray .int, 19), (19, .putfield 15, 22), (22, .aload_n 0, 23), (23, .sipush 324, 26), (26, .newarray .int, 28), (28, .putfield 18, 31), (31, .aload_n 0, 32), (32, .bipush 18, 34), (34, .newarray .int, 36), (36, .putfield 21, 39), (39, .aload_n 0, 40), (40, .bipush 18, 42), (42, .newarray .int, 44), (44, .putfield 24, 47), (47, .return_, 48)])
theorem ok_K_Ro : okN K_Ro := okN_of (by decide +kernel) (wd1 198 rfl rfl) rfl rfl rfl
theorem ny_Ro : (eNm K_Ro).cls ≠ "java/lang/invoke/MethodHandle" ∧ (eNm K_Ro).cls ≠ "java/lang/invoke/VarHandle" ∧ (parseMethodDescriptor (eNm K_Ro).desc).map (fun d => d.parameters.length) = some 0 := ⟨by decide +kernel, by decide +kernel, by decide +kernel⟩
def Q_Ro (h0 : Nat) : va_W → kT → Prop := fun w tys => ∃ (q0 : Nat) (c0 : ClassId) (q1 : Nat) (c1 : ClassId) (q2 : Nat) (c2 : ClassId) (q3 : Nat) (c3 : ClassId) (q4 : Nat) (c4 : ClassId), w = (h0, .inr (4, [.ref q0, .ref q1, .ref q2, .ref q3, .ref q4])) :: (q0, .inl (c0, 324, .inl (fun _ => 0))) :: (q1, .inl (c1, 324, .inl (fun _ => 0))) :: (q2, .inl (c2, 324, .inl (fun _ => 0))) :: (q3, .inl (c3, 18, .inl (fun _ => 0))) :: (q4, .inl (c4, 18, .inl (fun _ => 0))) :: [] ∧ tys = (c0, .int) :: (c1, .int) :: (c2, .int) :: (c3, .int) :: (c4, .int) :: []
set_option maxRecDepth 20000 in
theorem k_Ro (D : va_G) (h0 : Nat) : CM K_Ro D (fun _ => True) h0 [] (.inr (4, [.null, .null, .null, .null, .null])) (Q_Ro h0) := by
  refine CM.of ok_K_Ro rfl (Nat.le_of_ble_eq_true rfl) ?_
  show COk _ _ _ _ _ _ _ [(0, .ref h0)] _ _ _
  refine co_ald 0 (ok_K_Ro.dec 0 rfl rfl) rfl rfl ?_
  refine co_obj (ok_K_Ro.dec 1 rfl rfl) rfl (wd1 199 rfl rfl) (wd1 25 rfl rfl) (wd1 26 rfl rfl) (Nat.le_of_ble_eq_true rfl) (Nat.le_of_ble_eq_true rfl) ?_
  refine co_ald 0 (ok_K_Ro.dec 2 rfl rfl) rfl rfl ?_
  refine co_sp (324) (ok_K_Ro.dec 3 rfl rfl) rfl (by decide) ?_
  refine co_newi 324 (ok_K_Ro.dec 4 rfl rfl) rfl (wd1 69 rfl rfl) (by decide) (by decide) (Nat.le_of_ble_eq_true rfl) (Nat.le_of_ble_eq_true rfl) (Nat.le_of_ble_eq_true rfl) (fun q0 c0 => ?_)
  show COk _ _ _ _ _ _ _ _ _ ((h0, .inr (4, [.null, .null, .null, .null, .null])) :: (q0, .inl (c0, 324, .inl (fun _ => 0))) :: []) _
  refine co_putF (ty := .array .int) (v := .ref q0) (fs := [.null, .null, .null, .null, .null]) (w' := (q0, .inl (c0, 324, .inl (fun _ => 0))) :: []) (ok_K_Ro.dec 5 rfl rfl) rfl fl_X6_11 rfl rfl rfl rfl rfl (Nat.le_of_ble_eq_true rfl) ?_
  show COk _ _ _ _ _ _ _ _ _ ((h0, .inr (4, [.ref q0, .null, .null, .null, .null])) :: (q0, .inl (c0, 324, .inl (fun _ => 0))) :: []) _
  refine co_ald 0 (ok_K_Ro.dec 6 rfl rfl) rfl rfl ?_
  refine co_sp (324) (ok_K_Ro.dec 7 rfl rfl) rfl (by decide) ?_
  refine co_newi 324 (ok_K_Ro.dec 8 rfl rfl) rfl (wd1 69 rfl rfl) (by decide) (by decide) (Nat.le_of_ble_eq_true rfl) (Nat.le_of_ble_eq_true rfl) (Nat.le_of_ble_eq_true rfl) (fun q1 c1 => ?_)
  show COk _ _ _ _ _ _ _ _ _ ((h0, .inr (4, [.ref q0, .null, .null, .null, .null])) :: (q0, .inl (c0, 324, .inl (fun _ => 0))) :: (q1, .inl (c1, 324, .inl (fun _ => 0))) :: []) _
  refine co_putF (ty := .array .int) (v := .ref q1) (fs := [.ref q0, .null, .null, .null, .null]) (w' := (q0, .inl (c0, 324, .inl (fun _ => 0))) :: (q1, .inl (c1, 324, .inl (fun _ => 0))) :: []) (ok_K_Ro.dec 9 rfl rfl) rfl fl_X6_15 rfl rfl rfl rfl rfl (Nat.le_of_ble_eq_true rfl) ?_
  show COk _ _ _ _ _ _ _ _ _ ((h0, .inr (4, [.ref q0, .ref q1, .null, .null, .null])) :: (q0, .inl (c0, 324, .inl (fun _ => 0))) :: (q1, .inl (c1, 324, .inl (fun _ => 0))) :: []) _
  refine co_ald 0 (ok_K_Ro.dec 10 rfl rfl) rfl rfl ?_
  refine co_sp (324) (ok_K_Ro.dec 11 rfl rfl) rfl (by decide) ?_
  refine co_newi 324 (ok_K_Ro.dec 12 rfl rfl) rfl (wd1 69 rfl rfl) (by decide) (by decide) (Nat.le_of_ble_eq_true rfl) (Nat.le_of_ble_eq_true rfl) (Nat.le_of_ble_eq_true rfl) (fun q2 c2 => ?_)
  show COk _ _ _ _ _ _ _ _ _ ((h0, .inr (4, [.ref q0, .ref q1, .null, .null, .null])) :: (q0, .inl (c0, 324, .inl (fun _ => 0))) :: (q1, .inl (c1, 324, .inl (fun _ => 0))) :: (q2, .inl (c2, 324, .inl (fun _ => 0))) :: []) _
  refine co_putF (ty := .array .int) (v := .ref q2) (fs := [.ref q0, .ref q1, .null, .null, .null]) (w' := (q0, .inl (c0, 324, .inl (fun _ => 0))) :: (q1, .inl (c1, 324, .inl (fun _ => 0))) :: (q2, .inl (c2, 324, .inl (fun _ => 0))) :: []) (ok_K_Ro.dec 13 rfl rfl) rfl fl_X6_18 rfl rfl rfl rfl rfl (Nat.le_of_ble_eq_true rfl) ?_
  show COk _ _ _ _ _ _ _ _ _ ((h0, .inr (4, [.ref q0, .ref q1, .ref q2, .null, .null])) :: (q0, .inl (c0, 324, .inl (fun _ => 0))) :: (q1, .inl (c1, 324, .inl (fun _ => 0))) :: (q2, .inl (c2, 324, .inl (fun _ => 0))) :: []) _
  refine co_ald 0 (ok_K_Ro.dec 14 rfl rfl) rfl rfl ?_
  refine co_bp (18) (ok_K_Ro.dec 15 rfl rfl) rfl (by decide) ?_
  refine co_newi 18 (ok_K_Ro.dec 16 rfl rfl) rfl (wd1 69 rfl rfl) (by decide) (by decide) (Nat.le_of_ble_eq_true rfl) (Nat.le_of_ble_eq_true rfl) (Nat.le_of_ble_eq_true rfl) (fun q3 c3 => ?_)
  show COk _ _ _ _ _ _ _ _ _ ((h0, .inr (4, [.ref q0, .ref q1, .ref q2, .null, .null])) :: (q0, .inl (c0, 324, .inl (fun _ => 0))) :: (q1, .inl (c1, 324, .inl (fun _ => 0))) :: (q2, .inl (c2, 324, .inl (fun _ => 0))) :: (q3, .inl (c3, 18, .inl (fun _ => 0))) :: []) _
  refine co_putF (ty := .array .int) (v := .ref q3) (fs := [.ref q0, .ref q1, .ref q2, .null, .null]) (w' := (q0, .inl (c0, 324, .inl (fun _ => 0))) :: (q1, .inl (c1, 324, .inl (fun _ => 0))) :: (q2, .inl (c2, 324, .inl (fun _ => 0))) :: (q3, .inl (c3, 18, .inl (fun _ => 0))) :: []) (ok_K_Ro.dec 17 rfl rfl) rfl fl_X6_21 rfl rfl rfl rfl rfl (Nat.le_of_ble_eq_true rfl) ?_
  show COk _ _ _ _ _ _ _ _ _ ((h0, .inr (4, [.ref q0, .ref q1, .ref q2, .ref q3, .null])) :: (q0, .inl (c0, 324, .inl (fun _ => 0))) :: (q1, .inl (c1, 324, .inl (fun _ => 0))) :: (q2, .inl (c2, 324, .inl (fun _ => 0))) :: (q3, .inl (c3, 18, .inl (fun _ => 0))) :: []) _
  refine co_ald 0 (ok_K_Ro.dec 18 rfl rfl) rfl rfl ?_
  refine co_bp (18) (ok_K_Ro.dec 19 rfl rfl) rfl (by decide) ?_
  refine co_newi 18 (ok_K_Ro.dec 20 rfl rfl) rfl (wd1 69 rfl rfl) (by decide) (by decide) (Nat.le_of_ble_eq_true rfl) (Nat.le_of_ble_eq_true rfl) (Nat.le_of_ble_eq_true rfl) (fun q4 c4 => ?_)
  show COk _ _ _ _ _ _ _ _ _ ((h0, .inr (4, [.ref q0, .ref q1, .ref q2, .ref q3, .null])) :: (q0, .inl (c0, 324, .inl (fun _ => 0))) :: (q1, .inl (c1, 324, .inl (fun _ => 0))) :: (q2, .inl (c2, 324, .inl (fun _ => 0))) :: (q3, .inl (c3, 18, .inl (fun _ => 0))) :: (q4, .inl (c4, 18, .inl (fun _ => 0))) :: []) _
  refine co_putF (ty := .array .int) (v := .ref q4) (fs := [.ref q0, .ref q1, .ref q2, .ref q3, .null]) (w' := (q0, .inl (c0, 324, .inl (fun _ => 0))) :: (q1, .inl (c1, 324, .inl (fun _ => 0))) :: (q2, .inl (c2, 324, .inl (fun _ => 0))) :: (q3, .inl (c3, 18, .inl (fun _ => 0))) :: (q4, .inl (c4, 18, .inl (fun _ => 0))) :: []) (ok_K_Ro.dec 21 rfl rfl) rfl fl_X6_24 rfl rfl rfl rfl rfl (Nat.le_of_ble_eq_true rfl) ?_
  show COk _ _ _ _ _ _ _ _ _ ((h0, .inr (4, [.ref q0, .ref q1, .ref q2, .ref q3, .ref q4])) :: (q0, .inl (c0, 324, .inl (fun _ => 0))) :: (q1, .inl (c1, 324, .inl (fun _ => 0))) :: (q2, .inl (c2, 324, .inl (fun _ => 0))) :: (q3, .inl (c3, 18, .inl (fun _ => 0))) :: (q4, .inl (c4, 18, .inl (fun _ => 0))) :: []) _
  exact co_ret (ok_K_Ro.dec 22 rfl rfl) rfl rfl ⟨q0, c0, q1, c1, q2, c2, q3, c3, q4, c4, rfl, by simp only [List.nil_append, List.cons_append, List.append_assoc]⟩
