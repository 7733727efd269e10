def K_Pe : eM := (RX5, yX5_init, cX5_init, 2, none, { frames := 1, cells := 1, slots := 64, locals := 12 }, [(0, .aload_n 0, 1), (1, .invokespecial 3, 4), (4, .aload_n 0, 5), (5, .bipush 64, 7), (7, .newarray .int, 9), (9, .putfield 9, 12), (12, .aload_n 0, 13), (13, .iconst 0, 14), (14, .putfield 15, 17), (17, .aload_n 0, 18), (18, .iconst 0, 19), (19, .putfield 19, 22), (22, .aload_n 0, 23), (23, .iconst 0, 24), (24, .putfield 22, 27), (27, .aload_n 0, 28), (28, .iconst 0, 29), (29, .putfield 25, 32), (32, .aload_n 0, 33), (33, .aload_n 1, 34), (34, .putfield 28, 37), (37, .return_, 38)])
theorem ok_K_Pe : okN K_Pe := okN_of (by decide +kernel) (wd1 107 rfl rfl) rfl rfl rfl
theorem ny_Pe : (eNm K_Pe).cls ≠ "java/lang/invoke/MethodHandle" ∧ (eNm K_Pe).cls ≠ "java/lang/invoke/VarHandle" ∧ (parseMethodDescriptor (eNm K_Pe).desc).map (fun d => d.parameters.length) = some 1 := ⟨by decide +kernel, by decide +kernel, by decide +kernel⟩
def Q_Pe (h0 : Nat) (hc0 : Nat) : va_W → kT → Prop := fun w tys => ∃ (q0 : Nat) (c0 : ClassId), w = (h0, .inr (3, [.ref hc0, .ref q0, .int 0, .int 0, .int 0, .int 0])) :: (q0, .inl (c0, 64, .inl (fun _ => 0))) :: [] ∧ tys = (c0, .int) :: []
set_option maxRecDepth 20000 in
theorem k_Pe (D : va_G) (h0 : Nat) (hc0 : Nat) : CM K_Pe D (fun _ => True) h0 [.ref hc0] (.inr (3, [.null, .null, .int 0, .int 0, .int 0, .int 0])) (Q_Pe h0 hc0) := by
  refine CM.of ok_K_Pe rfl (Nat.le_of_ble_eq_true rfl) ?_
  show COk _ _ _ _ _ _ _ [(0, .ref h0), (1, .ref hc0)] _ _ _
  refine co_ald 0 (ok_K_Pe.dec 0 rfl rfl) rfl rfl ?_
  refine co_obj (ok_K_Pe.dec 1 rfl rfl) rfl (wd1 108 rfl rfl) (wd1 25 rfl rfl) (wd1 26 rfl rfl) (Nat.le_of_ble_eq_true rfl) (Nat.le_of_ble_eq_true rfl) ?_
  refine co_ald 0 (ok_K_Pe.dec 2 rfl rfl) rfl rfl ?_
  refine co_bp (64) (ok_K_Pe.dec 3 rfl rfl) rfl (by decide) ?_
  refine co_newi 64 (ok_K_Pe.dec 4 rfl rfl) rfl (wd1 69 rfl rfl) (by decide) (by decide) (Nat.le_of_ble_eq_true rfl) (Nat.le_of_ble_eq_true rfl) (Nat.le_of_ble_eq_true rfl) (fun q0 c0 => ?_)
  show COk _ _ _ _ _ _ _ _ _ ((h0, .inr (3, [.null, .null, .int 0, .int 0, .int 0, .int 0])) :: (q0, .inl (c0, 64, .inl (fun _ => 0))) :: []) _
  refine co_putF (ty := .array .int) (v := .ref q0) (fs := [.null, .null, .int 0, .int 0, .int 0, .int 0]) (w' := (q0, .inl (c0, 64, .inl (fun _ => 0))) :: []) (ok_K_Pe.dec 5 rfl rfl) rfl fl_X5_9 rfl rfl rfl rfl rfl (Nat.le_of_ble_eq_true rfl) ?_
  show COk _ _ _ _ _ _ _ _ _ ((h0, .inr (3, [.null, .ref q0, .int 0, .int 0, .int 0, .int 0])) :: (q0, .inl (c0, 64, .inl (fun _ => 0))) :: []) _
  refine co_ald 0 (ok_K_Pe.dec 6 rfl rfl) rfl rfl ?_
  refine co_ic (0) (ok_K_Pe.dec 7 rfl rfl) rfl (by decide) ?_
  refine co_put (ty := .int) (v := .int 0) (fs := [.null, .ref q0, .int 0, .int 0, .int 0, .int 0]) (w' := (q0, .inl (c0, 64, .inl (fun _ => 0))) :: []) (ok_K_Pe.dec 8 rfl rfl) rfl fl_X5_15 rfl rfl rfl rfl (Nat.le_of_ble_eq_true rfl) ?_
  show COk _ _ _ _ _ _ _ _ _ ((h0, .inr (3, [.null, .ref q0, .int 0, .int 0, .int 0, .int 0])) :: (q0, .inl (c0, 64, .inl (fun _ => 0))) :: []) _
  refine co_ald 0 (ok_K_Pe.dec 9 rfl rfl) rfl rfl ?_
  refine co_ic (0) (ok_K_Pe.dec 10 rfl rfl) rfl (by decide) ?_
  refine co_put (ty := .int) (v := .int 0) (fs := [.null, .ref q0, .int 0, .int 0, .int 0, .int 0]) (w' := (q0, .inl (c0, 64, .inl (fun _ => 0))) :: []) (ok_K_Pe.dec 11 rfl rfl) rfl fl_X5_19 rfl rfl rfl rfl (Nat.le_of_ble_eq_true rfl) ?_
  show COk _ _ _ _ _ _ _ _ _ ((h0, .inr (3, [.null, .ref q0, .int 0, .int 0, .int 0, .int 0])) :: (q0, .inl (c0, 64, .inl (fun _ => 0))) :: []) _
  refine co_ald 0 (ok_K_Pe.dec 12 rfl rfl) rfl rfl ?_
  refine co_ic (0) (ok_K_Pe.dec 13 rfl rfl) rfl (by decide) ?_
  refine co_put (ty := .int) (v := .int 0) (fs := [.null, .ref q0, .int 0, .int 0, .int 0, .int 0]) (w' := (q0, .inl (c0, 64, .inl (fun _ => 0))) :: []) (ok_K_Pe.dec 14 rfl rfl) rfl fl_X5_22 rfl rfl rfl rfl (Nat.le_of_ble_eq_true rfl) ?_
  show COk _ _ _ _ _ _ _ _ _ ((h0, .inr (3, [.null, .ref q0, .int 0, .int 0, .int 0, .int 0])) :: (q0, .inl (c0, 64, .inl (fun _ => 0))) :: []) _
  refine co_ald 0 (ok_K_Pe.dec 15 rfl rfl) rfl rfl ?_
  refine co_ic (0) (ok_K_Pe.dec 16 rfl rfl) rfl (by decide) ?_
  refine co_put (ty := .int) (v := .int 0) (fs := [.null, .ref q0, .int 0, .int 0, .int 0, .int 0]) (w' := (q0, .inl (c0, 64, .inl (fun _ => 0))) :: []) (ok_K_Pe.dec 17 rfl rfl) rfl fl_X5_25 rfl rfl rfl rfl (Nat.le_of_ble_eq_true rfl) ?_
  show COk _ _ _ _ _ _ _ _ _ ((h0, .inr (3, [.null, .ref q0, .int 0, .int 0, .int 0, .int 0])) :: (q0, .inl (c0, 64, .inl (fun _ => 0))) :: []) _
  refine co_ald 0 (ok_K_Pe.dec 18 rfl rfl) rfl rfl ?_
  refine co_ald 1 (ok_K_Pe.dec 19 rfl rfl) rfl rfl ?_
  refine co_putF (ty := .object "EvenTables$Choices") (v := .ref hc0) (fs := [.null, .ref q0, .int 0, .int 0, .int 0, .int 0]) (w' := (q0, .inl (c0, 64, .inl (fun _ => 0))) :: []) (ok_K_Pe.dec 20 rfl rfl) rfl fl_X5_28 rfl rfl rfl rfl rfl (Nat.le_of_ble_eq_true rfl) ?_
  show COk _ _ _ _ _ _ _ _ _ ((h0, .inr (3, [.ref hc0, .ref q0, .int 0, .int 0, .int 0, .int 0])) :: (q0, .inl (c0, 64, .inl (fun _ => 0))) :: []) _
  exact co_ret (ok_K_Pe.dec 21 rfl rfl) rfl rfl ⟨q0, c0, rfl, by simp only [List.nil_append, List.cons_append, List.append_assoc]⟩
