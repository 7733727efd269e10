def K_Ch : eM := (RX0, yX0_init, cX0_init, 1, none, { frames := 1, cells := 3, slots := 520, locals := 12 }, [(0, .aload_n 0, 1), (1, .invokespecial 3, 4), (4, .aload_n 0, 5), (5, .bipush 8, 7), (7, .newarray .int, 9), (9, .putfield 9, 12), (12, .aload_n 0, 13), (13, .sipush 256, 16), (16, .newarray .long, 18), (18, .putfield 15, 21), (21, .aload_n 0, 22), (22, .sipush 256, 25), (25, .newarray .int, 27), (27, .putfield 19, 30), (30, .aload_n 0, 31), (31, .iconst 0, 32), (32, .putfield 22, 35), (35, .return_, 36)])
theorem ok_K_Ch : okN K_Ch := okN_of (by decide +kernel) (wd1 85 rfl rfl) rfl rfl rfl
theorem ny_Ch : (eNm K_Ch).cls ≠ "java/lang/invoke/MethodHandle" ∧ (eNm K_Ch).cls ≠ "java/lang/invoke/VarHandle" ∧ (parseMethodDescriptor (eNm K_Ch).desc).map (fun d => d.parameters.length) = some 0 := ⟨by decide +kernel, by decide +kernel, by decide +kernel⟩
def Q_Ch (h0 : Nat) : va_W → kT → Prop := fun w tys => ∃ (q0 : Nat) (c0 : ClassId) (q1 : Nat) (c1 : ClassId) (q2 : Nat) (c2 : ClassId), w = (h0, .inr (0, [.ref q0, .ref q1, .ref q2, .int 0])) :: (q0, .inl (c0, 8, .inl (fun _ => 0))) :: (q1, .inl (c1, 256, .inr (.inl (fun _ => 0)))) :: (q2, .inl (c2, 256, .inl (fun _ => 0))) :: [] ∧ tys = (c0, .int) :: (c1, .long) :: (c2, .int) :: []
set_option maxRecDepth 20000 in
theorem k_Ch (D : va_G) (h0 : Nat) : CM K_Ch D (fun _ => True) h0 [] (.inr (0, [.null, .null, .null, .int 0])) (Q_Ch h0) := by
  refine CM.of ok_K_Ch rfl (Nat.le_of_ble_eq_true rfl) ?_
  show COk _ _ _ _ _ _ _ [(0, .ref h0)] _ _ _
  refine co_ald 0 (ok_K_Ch.dec 0 rfl rfl) rfl rfl ?_
  refine co_obj (ok_K_Ch.dec 1 rfl rfl) rfl (wd1 86 rfl rfl) (wd1 25 rfl rfl) (wd1 26 rfl rfl) (Nat.le_of_ble_eq_true rfl) (Nat.le_of_ble_eq_true rfl) ?_
  refine co_ald 0 (ok_K_Ch.dec 2 rfl rfl) rfl rfl ?_
  refine co_bp (8) (ok_K_Ch.dec 3 rfl rfl) rfl (by decide) ?_
  refine co_newi 8 (ok_K_Ch.dec 4 rfl rfl) rfl (wd1 69 rfl rfl) (by decide) (by decide) (Nat.le_of_ble_eq_true rfl) (Nat.le_of_ble_eq_true rfl) (Nat.le_of_ble_eq_true rfl) (fun q0 c0 => ?_)
  show COk _ _ _ _ _ _ _ _ _ ((h0, .inr (0, [.null, .null, .null, .int 0])) :: (q0, .inl (c0, 8, .inl (fun _ => 0))) :: []) _
  refine co_putF (ty := .array .int) (v := .ref q0) (fs := [.null, .null, .null, .int 0]) (w' := (q0, .inl (c0, 8, .inl (fun _ => 0))) :: []) (ok_K_Ch.dec 5 rfl rfl) rfl fl_X0_9 rfl rfl rfl rfl rfl (Nat.le_of_ble_eq_true rfl) ?_
  show COk _ _ _ _ _ _ _ _ _ ((h0, .inr (0, [.ref q0, .null, .null, .int 0])) :: (q0, .inl (c0, 8, .inl (fun _ => 0))) :: []) _
  refine co_ald 0 (ok_K_Ch.dec 6 rfl rfl) rfl rfl ?_
  refine co_sp (256) (ok_K_Ch.dec 7 rfl rfl) rfl (by decide) ?_
  refine co_newl 256 (ok_K_Ch.dec 8 rfl rfl) rfl (wd1 80 rfl rfl) (by decide) (by decide) (Nat.le_of_ble_eq_true rfl) (Nat.le_of_ble_eq_true rfl) (Nat.le_of_ble_eq_true rfl) (fun q1 c1 => ?_)
  show COk _ _ _ _ _ _ _ _ _ ((h0, .inr (0, [.ref q0, .null, .null, .int 0])) :: (q0, .inl (c0, 8, .inl (fun _ => 0))) :: (q1, .inl (c1, 256, .inr (.inl (fun _ => 0)))) :: []) _
  refine co_putF (ty := .array .long) (v := .ref q1) (fs := [.ref q0, .null, .null, .int 0]) (w' := (q0, .inl (c0, 8, .inl (fun _ => 0))) :: (q1, .inl (c1, 256, .inr (.inl (fun _ => 0)))) :: []) (ok_K_Ch.dec 9 rfl rfl) rfl fl_X0_15 rfl rfl rfl rfl rfl (Nat.le_of_ble_eq_true rfl) ?_
  show COk _ _ _ _ _ _ _ _ _ ((h0, .inr (0, [.ref q0, .ref q1, .null, .int 0])) :: (q0, .inl (c0, 8, .inl (fun _ => 0))) :: (q1, .inl (c1, 256, .inr (.inl (fun _ => 0)))) :: []) _
  refine co_ald 0 (ok_K_Ch.dec 10 rfl rfl) rfl rfl ?_
  refine co_sp (256) (ok_K_Ch.dec 11 rfl rfl) rfl (by decide) ?_
  refine co_newi 256 (ok_K_Ch.dec 12 rfl rfl) rfl (wd1 69 rfl rfl) (by decide) (by decide) (Nat.le_of_ble_eq_true rfl) (Nat.le_of_ble_eq_true rfl) (Nat.le_of_ble_eq_true rfl) (fun q2 c2 => ?_)
  show COk _ _ _ _ _ _ _ _ _ ((h0, .inr (0, [.ref q0, .ref q1, .null, .int 0])) :: (q0, .inl (c0, 8, .inl (fun _ => 0))) :: (q1, .inl (c1, 256, .inr (.inl (fun _ => 0)))) :: (q2, .inl (c2, 256, .inl (fun _ => 0))) :: []) _
  refine co_putF (ty := .array .int) (v := .ref q2) (fs := [.ref q0, .ref q1, .null, .int 0]) (w' := (q0, .inl (c0, 8, .inl (fun _ => 0))) :: (q1, .inl (c1, 256, .inr (.inl (fun _ => 0)))) :: (q2, .inl (c2, 256, .inl (fun _ => 0))) :: []) (ok_K_Ch.dec 13 rfl rfl) rfl fl_X0_19 rfl rfl rfl rfl rfl (Nat.le_of_ble_eq_true rfl) ?_
  show COk _ _ _ _ _ _ _ _ _ ((h0, .inr (0, [.ref q0, .ref q1, .ref q2, .int 0])) :: (q0, .inl (c0, 8, .inl (fun _ => 0))) :: (q1, .inl (c1, 256, .inr (.inl (fun _ => 0)))) :: (q2, .inl (c2, 256, .inl (fun _ => 0))) :: []) _
  refine co_ald 0 (ok_K_Ch.dec 14 rfl rfl) rfl rfl ?_
  refine co_ic (0) (ok_K_Ch.dec 15 rfl rfl) rfl (by decide) ?_
  refine co_put (ty := .int) (v := .int 0) (fs := [.ref q0, .ref q1, .ref q2, .int 0]) (w' := (q0, .inl (c0, 8, .inl (fun _ => 0))) :: (q1, .inl (c1, 256, .inr (.inl (fun _ => 0)))) :: (q2, .inl (c2, 256, .inl (fun _ => 0))) :: []) (ok_K_Ch.dec 16 rfl rfl) rfl fl_X0_22 rfl rfl rfl rfl (Nat.le_of_ble_eq_true rfl) ?_
  show COk _ _ _ _ _ _ _ _ _ ((h0, .inr (0, [.ref q0, .ref q1, .ref q2, .int 0])) :: (q0, .inl (c0, 8, .inl (fun _ => 0))) :: (q1, .inl (c1, 256, .inr (.inl (fun _ => 0)))) :: (q2, .inl (c2, 256, .inl (fun _ => 0))) :: []) _
  exact co_ret (ok_K_Ch.dec 17 rfl rfl) rfl rfl ⟨q0, c0, q1, c1, q2, c2, rfl, by simp only [List.nil_append, List.cons_append, List.append_assoc]⟩
