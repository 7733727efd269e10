def K_Mi : eM := (RX3, yX3_init, cX3_init, 1, none, { frames := 1, cells := 2, slots := 576, locals := 12 }, [(0, .aload_n 0, 1), (1, .invokespecial 3, 4), (4, .aload_n 0, 5), (5, .bipush 64, 7), (7, .newarray .int, 9), (9, .putfield 9, 12), (12, .aload_n 0, 13), (13, .sipush 512, 16), (16, .newarray .int, 18), (18, .putfield 15, 21), (21, .aload_n 0, 22), (22, .iconst 0, 23), (23, .putfield 18, 26), (26, .aload_n 0, 27), (27, .iconst 0, 28), (28, .putfield 22, 31), (31, .aload_n 0, 32), (32, .iconst 0, 33), (33, .putfield 25, 36), (36, .aload_n 0, 37), (37, .iconst 0, 38), (38, .putfield 28, 41), (41, .aload_n 0, 42), (42, .iconst 0, 43), (43, .putfield 31, 46), (46, .return_, 47)])
theorem ok_K_Mi : okN K_Mi := okN_of (by decide +kernel) (wd1 137 rfl rfl) rfl rfl rfl
theorem ny_Mi : (eNm K_Mi).cls ≠ "java/lang/invoke/MethodHandle" ∧ (eNm K_Mi).cls ≠ "java/lang/invoke/VarHandle" ∧ (parseMethodDescriptor (eNm K_Mi).desc).map (fun d => d.parameters.length) = some 0 := ⟨by decide +kernel, by decide +kernel, by decide +kernel⟩
def Q_Mi (h0 : Nat) : va_W → kT → Prop := fun w tys => ∃ (q0 : Nat) (c0 : ClassId) (q1 : Nat) (c1 : ClassId), w = (h0, .inr (2, [.ref q0, .ref q1, .int 0, .int 0, .int 0, .int 0, .int 0])) :: (q0, .inl (c0, 64, .inl (fun _ => 0))) :: (q1, .inl (c1, 512, .inl (fun _ => 0))) :: [] ∧ tys = (c0, .int) :: (c1, .int) :: []
set_option maxRecDepth 20000 in
theorem k_Mi (D : va_G) (h0 : Nat) : CM K_Mi D (fun _ => True) h0 [] (.inr (2, [.null, .null, .int 0, .int 0, .int 0, .int 0, .int 0])) (Q_Mi h0) := by
  refine CM.of ok_K_Mi rfl (Nat.le_of_ble_eq_true rfl) ?_
  show COk _ _ _ _ _ _ _ [(0, .ref h0)] _ _ _
  refine co_ald 0 (ok_K_Mi.dec 0 rfl rfl) rfl rfl ?_
  refine co_obj (ok_K_Mi.dec 1 rfl rfl) rfl (wd1 138 rfl rfl) (wd1 25 rfl rfl) (wd1 26 rfl rfl) (Nat.le_of_ble_eq_true rfl) (Nat.le_of_ble_eq_true rfl) ?_
  refine co_ald 0 (ok_K_Mi.dec 2 rfl rfl) rfl rfl ?_
  refine co_bp (64) (ok_K_Mi.dec 3 rfl rfl) rfl (by decide) ?_
  refine co_newi 64 (ok_K_Mi.dec 4 rfl rfl) rfl (wd1 69 rfl rfl) (by decide) (by decide) (Nat.le_of_ble_eq_true rfl) (Nat.le_of_ble_eq_true rfl) (Nat.le_of_ble_eq_true rfl) (fun q0 c0 => ?_)
  show COk _ _ _ _ _ _ _ _ _ ((h0, .inr (2, [.null, .null, .int 0, .int 0, .int 0, .int 0, .int 0])) :: (q0, .inl (c0, 64, .inl (fun _ => 0))) :: []) _
  refine co_putF (ty := .array .int) (v := .ref q0) (fs := [.null, .null, .int 0, .int 0, .int 0, .int 0, .int 0]) (w' := (q0, .inl (c0, 64, .inl (fun _ => 0))) :: []) (ok_K_Mi.dec 5 rfl rfl) rfl fl_X3_9 rfl rfl rfl rfl rfl (Nat.le_of_ble_eq_true rfl) ?_
  show COk _ _ _ _ _ _ _ _ _ ((h0, .inr (2, [.ref q0, .null, .int 0, .int 0, .int 0, .int 0, .int 0])) :: (q0, .inl (c0, 64, .inl (fun _ => 0))) :: []) _
  refine co_ald 0 (ok_K_Mi.dec 6 rfl rfl) rfl rfl ?_
  refine co_sp (512) (ok_K_Mi.dec 7 rfl rfl) rfl (by decide) ?_
  refine co_newi 512 (ok_K_Mi.dec 8 rfl rfl) rfl (wd1 69 rfl rfl) (by decide) (by decide) (Nat.le_of_ble_eq_true rfl) (Nat.le_of_ble_eq_true rfl) (Nat.le_of_ble_eq_true rfl) (fun q1 c1 => ?_)
  show COk _ _ _ _ _ _ _ _ _ ((h0, .inr (2, [.ref q0, .null, .int 0, .int 0, .int 0, .int 0, .int 0])) :: (q0, .inl (c0, 64, .inl (fun _ => 0))) :: (q1, .inl (c1, 512, .inl (fun _ => 0))) :: []) _
  refine co_putF (ty := .array .int) (v := .ref q1) (fs := [.ref q0, .null, .int 0, .int 0, .int 0, .int 0, .int 0]) (w' := (q0, .inl (c0, 64, .inl (fun _ => 0))) :: (q1, .inl (c1, 512, .inl (fun _ => 0))) :: []) (ok_K_Mi.dec 9 rfl rfl) rfl fl_X3_15 rfl rfl rfl rfl rfl (Nat.le_of_ble_eq_true rfl) ?_
  show COk _ _ _ _ _ _ _ _ _ ((h0, .inr (2, [.ref q0, .ref q1, .int 0, .int 0, .int 0, .int 0, .int 0])) :: (q0, .inl (c0, 64, .inl (fun _ => 0))) :: (q1, .inl (c1, 512, .inl (fun _ => 0))) :: []) _
  refine co_ald 0 (ok_K_Mi.dec 10 rfl rfl) rfl rfl ?_
  refine co_ic (0) (ok_K_Mi.dec 11 rfl rfl) rfl (by decide) ?_
  refine co_put (ty := .int) (v := .int 0) (fs := [.ref q0, .ref q1, .int 0, .int 0, .int 0, .int 0, .int 0]) (w' := (q0, .inl (c0, 64, .inl (fun _ => 0))) :: (q1, .inl (c1, 512, .inl (fun _ => 0))) :: []) (ok_K_Mi.dec 12 rfl rfl) rfl fl_X3_18 rfl rfl rfl rfl (Nat.le_of_ble_eq_true rfl) ?_
  show COk _ _ _ _ _ _ _ _ _ ((h0, .inr (2, [.ref q0, .ref q1, .int 0, .int 0, .int 0, .int 0, .int 0])) :: (q0, .inl (c0, 64, .inl (fun _ => 0))) :: (q1, .inl (c1, 512, .inl (fun _ => 0))) :: []) _
  refine co_ald 0 (ok_K_Mi.dec 13 rfl rfl) rfl rfl ?_
  refine co_ic (0) (ok_K_Mi.dec 14 rfl rfl) rfl (by decide) ?_
  refine co_put (ty := .int) (v := .int 0) (fs := [.ref q0, .ref q1, .int 0, .int 0, .int 0, .int 0, .int 0]) (w' := (q0, .inl (c0, 64, .inl (fun _ => 0))) :: (q1, .inl (c1, 512, .inl (fun _ => 0))) :: []) (ok_K_Mi.dec 15 rfl rfl) rfl fl_X3_22 rfl rfl rfl rfl (Nat.le_of_ble_eq_true rfl) ?_
  show COk _ _ _ _ _ _ _ _ _ ((h0, .inr (2, [.ref q0, .ref q1, .int 0, .int 0, .int 0, .int 0, .int 0])) :: (q0, .inl (c0, 64, .inl (fun _ => 0))) :: (q1, .inl (c1, 512, .inl (fun _ => 0))) :: []) _
  refine co_ald 0 (ok_K_Mi.dec 16 rfl rfl) rfl rfl ?_
  refine co_ic (0) (ok_K_Mi.dec 17 rfl rfl) rfl (by decide) ?_
  refine co_put (ty := .int) (v := .int 0) (fs := [.ref q0, .ref q1, .int 0, .int 0, .int 0, .int 0, .int 0]) (w' := (q0, .inl (c0, 64, .inl (fun _ => 0))) :: (q1, .inl (c1, 512, .inl (fun _ => 0))) :: []) (ok_K_Mi.dec 18 rfl rfl) rfl fl_X3_25 rfl rfl rfl rfl (Nat.le_of_ble_eq_true rfl) ?_
  show COk _ _ _ _ _ _ _ _ _ ((h0, .inr (2, [.ref q0, .ref q1, .int 0, .int 0, .int 0, .int 0, .int 0])) :: (q0, .inl (c0, 64, .inl (fun _ => 0))) :: (q1, .inl (c1, 512, .inl (fun _ => 0))) :: []) _
  refine co_ald 0 (ok_K_Mi.dec 19 rfl rfl) rfl rfl ?_
  refine co_ic (0) (ok_K_Mi.dec 20 rfl rfl) rfl (by decide) ?_
  refine co_put (ty := .int) (v := .int 0) (fs := [.ref q0, .ref q1, .int 0, .int 0, .int 0, .int 0, .int 0]) (w' := (q0, .inl (c0, 64, .inl (fun _ => 0))) :: (q1, .inl (c1, 512, .inl (fun _ => 0))) :: []) (ok_K_Mi.dec 21 rfl rfl) rfl fl_X3_28 rfl rfl rfl rfl (Nat.le_of_ble_eq_true rfl) ?_
  show COk _ _ _ _ _ _ _ _ _ ((h0, .inr (2, [.ref q0, .ref q1, .int 0, .int 0, .int 0, .int 0, .int 0])) :: (q0, .inl (c0, 64, .inl (fun _ => 0))) :: (q1, .inl (c1, 512, .inl (fun _ => 0))) :: []) _
  refine co_ald 0 (ok_K_Mi.dec 22 rfl rfl) rfl rfl ?_
  refine co_ic (0) (ok_K_Mi.dec 23 rfl rfl) rfl (by decide) ?_
  refine co_put (ty := .int) (v := .int 0) (fs := [.ref q0, .ref q1, .int 0, .int 0, .int 0, .int 0, .int 0]) (w' := (q0, .inl (c0, 64, .inl (fun _ => 0))) :: (q1, .inl (c1, 512, .inl (fun _ => 0))) :: []) (ok_K_Mi.dec 24 rfl rfl) rfl fl_X3_31 rfl rfl rfl rfl (Nat.le_of_ble_eq_true rfl) ?_
  show COk _ _ _ _ _ _ _ _ _ ((h0, .inr (2, [.ref q0, .ref q1, .int 0, .int 0, .int 0, .int 0, .int 0])) :: (q0, .inl (c0, 64, .inl (fun _ => 0))) :: (q1, .inl (c1, 512, .inl (fun _ => 0))) :: []) _
  exact co_ret (ok_K_Mi.dec 25 rfl rfl) rfl rfl ⟨q0, c0, q1, c1, rfl, by simp only [List.nil_append, List.cons_append, List.append_assoc]⟩
