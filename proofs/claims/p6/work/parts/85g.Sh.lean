def K_Sh : eM := (RX8, yX8_init, cX8_init, 1, none, { frames := 1, cells := 1, slots := 1216, locals := 12 }, [(0, .aload_n 0, 1), (1, .invokespecial 3, 4), (4, .aload_n 0, 5), (5, .sipush 1216, 8), (8, .newarray .int, 10), (10, .putfield 11, 13), (13, .aload_n 0, 14), (14, .iconst 0, 15), (15, .putfield 15, 18), (18, .return_, 19)])
theorem ok_K_Sh : okN K_Sh := okN_of (by decide +kernel) (wd1 220 rfl rfl) rfl rfl rfl
theorem ny_Sh : (eNm K_Sh).cls ≠ "java/lang/invoke/MethodHandle" ∧ (eNm K_Sh).cls ≠ "java/lang/invoke/VarHandle" ∧ (parseMethodDescriptor (eNm K_Sh).desc).map (fun d => d.parameters.length) = some 0 := ⟨by decide +kernel, by decide +kernel, by decide +kernel⟩
def Q_Sh (h0 : Nat) : va_W → kT → Prop := fun w tys => ∃ (q0 : Nat) (c0 : ClassId), w = (h0, .inr (6, [.ref q0, .int 0])) :: (q0, .inl (c0, 1216, .inl (fun _ => 0))) :: [] ∧ tys = (c0, .int) :: []
set_option maxRecDepth 20000 in
theorem k_Sh (D : va_G) (h0 : Nat) : CM K_Sh D (fun _ => True) h0 [] (.inr (6, [.null, .int 0])) (Q_Sh h0) := by
  refine CM.of ok_K_Sh rfl (Nat.le_of_ble_eq_true rfl) ?_
  show COk _ _ _ _ _ _ _ [(0, .ref h0)] _ _ _
  refine co_ald 0 (ok_K_Sh.dec 0 rfl rfl) rfl rfl ?_
  refine co_obj (ok_K_Sh.dec 1 rfl rfl) rfl (wd1 221 rfl rfl) (wd1 25 rfl rfl) (wd1 26 rfl rfl) (Nat.le_of_ble_eq_true rfl) (Nat.le_of_ble_eq_true rfl) ?_
  refine co_ald 0 (ok_K_Sh.dec 2 rfl rfl) rfl rfl ?_
  refine co_sp (1216) (ok_K_Sh.dec 3 rfl rfl) rfl (by decide) ?_
  refine co_newi 1216 (ok_K_Sh.dec 4 rfl rfl) rfl (wd1 69 rfl rfl) (by decide) (by decide) (Nat.le_of_ble_eq_true rfl) (Nat.le_of_ble_eq_true rfl) (Nat.le_of_ble_eq_true rfl) (fun q0 c0 => ?_)
  show COk _ _ _ _ _ _ _ _ _ ((h0, .inr (6, [.null, .int 0])) :: (q0, .inl (c0, 1216, .inl (fun _ => 0))) :: []) _
  refine co_putF (ty := .array .int) (v := .ref q0) (fs := [.null, .int 0]) (w' := (q0, .inl (c0, 1216, .inl (fun _ => 0))) :: []) (ok_K_Sh.dec 5 rfl rfl) rfl fl_X8_11 rfl rfl rfl rfl rfl (Nat.le_of_ble_eq_true rfl) ?_
  show COk _ _ _ _ _ _ _ _ _ ((h0, .inr (6, [.ref q0, .int 0])) :: (q0, .inl (c0, 1216, .inl (fun _ => 0))) :: []) _
  refine co_ald 0 (ok_K_Sh.dec 6 rfl rfl) rfl rfl ?_
  refine co_ic (0) (ok_K_Sh.dec 7 rfl rfl) rfl (by decide) ?_
  refine co_put (ty := .int) (v := .int 0) (fs := [.ref q0, .int 0]) (w' := (q0, .inl (c0, 1216, .inl (fun _ => 0))) :: []) (ok_K_Sh.dec 8 rfl rfl) rfl fl_X8_15 rfl rfl rfl rfl (Nat.le_of_ble_eq_true rfl) ?_
  show COk _ _ _ _ _ _ _ _ _ ((h0, .inr (6, [.ref q0, .int 0])) :: (q0, .inl (c0, 1216, .inl (fun _ => 0))) :: []) _
  exact co_ret (ok_K_Sh.dec 9 rfl rfl) rfl rfl ⟨q0, c0, rfl, by simp only [List.nil_append, List.cons_append, List.append_assoc]⟩
