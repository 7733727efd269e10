def K_Ta : eM := (RX9, yX9_init, cX9_init, 1, none, { frames := 1, cells := 1, slots := 64, locals := 12 }, [(0, .aload_n 0, 1), (1, .invokespecial 3, 4), (4, .aload_n 0, 5), (5, .bipush 64, 7), (7, .newarray .int, 9), (9, .putfield 9, 12), (12, .aload_n 0, 13), (13, .iconst 0, 14), (14, .putfield 15, 17), (17, .aload_n 0, 18), (18, .iconst 1, 19), (19, .putfield 19, 22), (22, .aload_n 0, 23), (23, .iconst (-1), 24), (24, .putfield 22, 27), (27, .aload_n 0, 28), (28, .iconst 0, 29), (29, .putfield 25, 32), (32, .aload_n 0, 33), (33, .lconst 0, 34), (34, .putfield 29, 37), (37, .aload_n 0, 38), (38, .iconst 0, 39), (39, .putfield 33, 42), (42, .aload_n 0, 43), (43, .iconst 0, 44), (44, .putfield 36, 47), (47, .aload_n 0, 48), (48, .iconst 0, 49), (49, .putfield 39, 52), (52, .return_, 53)])
theorem ok_K_Ta : okN K_Ta := okN_of (by decide +kernel) (wd1 234 rfl rfl) rfl rfl rfl
theorem ny_Ta : (eNm K_Ta).cls ≠ "java/lang/invoke/MethodHandle" ∧ (eNm K_Ta).cls ≠ "java/lang/invoke/VarHandle" ∧ (parseMethodDescriptor (eNm K_Ta).desc).map (fun d => d.parameters.length) = some 0 := ⟨by decide +kernel, by decide +kernel, by decide +kernel⟩
def Q_Ta (h0 : Nat) : va_W → kT → Prop := fun w tys => ∃ (q0 : Nat) (c0 : ClassId), w = (h0, .inr (7, [.ref q0, .int 0, .int 1, .int (-1), .int 0, .long 0, .int 0, .int 0, .int 0])) :: (q0, .inl (c0, 64, .inl (fun _ => 0))) :: [] ∧ tys = (c0, .int) :: []
set_option maxRecDepth 20000 in
theorem k_Ta (D : va_G) (h0 : Nat) : CM K_Ta D (fun _ => True) h0 [] (.inr (7, [.null, .int 0, .int 0, .int 0, .int 0, .long 0, .int 0, .int 0, .int 0])) (Q_Ta h0) := by
  refine CM.of ok_K_Ta rfl (Nat.le_of_ble_eq_true rfl) ?_
  show COk _ _ _ _ _ _ _ [(0, .ref h0)] _ _ _
  refine co_ald 0 (ok_K_Ta.dec 0 rfl rfl) rfl rfl ?_
  refine co_obj (ok_K_Ta.dec 1 rfl rfl) rfl (wd1 235 rfl rfl) (wd1 25 rfl rfl) (wd1 26 rfl rfl) (Nat.le_of_ble_eq_true rfl) (Nat.le_of_ble_eq_true rfl) ?_
  refine co_ald 0 (ok_K_Ta.dec 2 rfl rfl) rfl rfl ?_
  refine co_bp (64) (ok_K_Ta.dec 3 rfl rfl) rfl (by decide) ?_
  refine co_newi 64 (ok_K_Ta.dec 4 rfl rfl) rfl (wd1 69 rfl rfl) (by decide) (by decide) (Nat.le_of_ble_eq_true rfl) (Nat.le_of_ble_eq_true rfl) (Nat.le_of_ble_eq_true rfl) (fun q0 c0 => ?_)
  show COk _ _ _ _ _ _ _ _ _ ((h0, .inr (7, [.null, .int 0, .int 0, .int 0, .int 0, .long 0, .int 0, .int 0, .int 0])) :: (q0, .inl (c0, 64, .inl (fun _ => 0))) :: []) _
  refine co_putF (ty := .array .int) (v := .ref q0) (fs := [.null, .int 0, .int 0, .int 0, .int 0, .long 0, .int 0, .int 0, .int 0]) (w' := (q0, .inl (c0, 64, .inl (fun _ => 0))) :: []) (ok_K_Ta.dec 5 rfl rfl) rfl fl_X9_9 rfl rfl rfl rfl rfl (Nat.le_of_ble_eq_true rfl) ?_
  show COk _ _ _ _ _ _ _ _ _ ((h0, .inr (7, [.ref q0, .int 0, .int 0, .int 0, .int 0, .long 0, .int 0, .int 0, .int 0])) :: (q0, .inl (c0, 64, .inl (fun _ => 0))) :: []) _
  refine co_ald 0 (ok_K_Ta.dec 6 rfl rfl) rfl rfl ?_
  refine co_ic (0) (ok_K_Ta.dec 7 rfl rfl) rfl (by decide) ?_
  refine co_put (ty := .int) (v := .int 0) (fs := [.ref q0, .int 0, .int 0, .int 0, .int 0, .long 0, .int 0, .int 0, .int 0]) (w' := (q0, .inl (c0, 64, .inl (fun _ => 0))) :: []) (ok_K_Ta.dec 8 rfl rfl) rfl fl_X9_15 rfl rfl rfl rfl (Nat.le_of_ble_eq_true rfl) ?_
  show COk _ _ _ _ _ _ _ _ _ ((h0, .inr (7, [.ref q0, .int 0, .int 0, .int 0, .int 0, .long 0, .int 0, .int 0, .int 0])) :: (q0, .inl (c0, 64, .inl (fun _ => 0))) :: []) _
  refine co_ald 0 (ok_K_Ta.dec 9 rfl rfl) rfl rfl ?_
  refine co_ic (1) (ok_K_Ta.dec 10 rfl rfl) rfl (by decide) ?_
  refine co_put (ty := .int) (v := .int 1) (fs := [.ref q0, .int 0, .int 0, .int 0, .int 0, .long 0, .int 0, .int 0, .int 0]) (w' := (q0, .inl (c0, 64, .inl (fun _ => 0))) :: []) (ok_K_Ta.dec 11 rfl rfl) rfl fl_X9_19 rfl rfl rfl rfl (Nat.le_of_ble_eq_true rfl) ?_
  show COk _ _ _ _ _ _ _ _ _ ((h0, .inr (7, [.ref q0, .int 0, .int 1, .int 0, .int 0, .long 0, .int 0, .int 0, .int 0])) :: (q0, .inl (c0, 64, .inl (fun _ => 0))) :: []) _
  refine co_ald 0 (ok_K_Ta.dec 12 rfl rfl) rfl rfl ?_
  refine co_ic (-1) (ok_K_Ta.dec 13 rfl rfl) rfl (by decide) ?_
  refine co_put (ty := .int) (v := .int (-1)) (fs := [.ref q0, .int 0, .int 1, .int 0, .int 0, .long 0, .int 0, .int 0, .int 0]) (w' := (q0, .inl (c0, 64, .inl (fun _ => 0))) :: []) (ok_K_Ta.dec 14 rfl rfl) rfl fl_X9_22 rfl rfl rfl rfl (Nat.le_of_ble_eq_true rfl) ?_
  show COk _ _ _ _ _ _ _ _ _ ((h0, .inr (7, [.ref q0, .int 0, .int 1, .int (-1), .int 0, .long 0, .int 0, .int 0, .int 0])) :: (q0, .inl (c0, 64, .inl (fun _ => 0))) :: []) _
  refine co_ald 0 (ok_K_Ta.dec 15 rfl rfl) rfl rfl ?_
  refine co_ic (0) (ok_K_Ta.dec 16 rfl rfl) rfl (by decide) ?_
  refine co_put (ty := .boolean) (v := .int 0) (fs := [.ref q0, .int 0, .int 1, .int (-1), .int 0, .long 0, .int 0, .int 0, .int 0]) (w' := (q0, .inl (c0, 64, .inl (fun _ => 0))) :: []) (ok_K_Ta.dec 17 rfl rfl) rfl fl_X9_25 rfl rfl rfl rfl (Nat.le_of_ble_eq_true rfl) ?_
  show COk _ _ _ _ _ _ _ _ _ ((h0, .inr (7, [.ref q0, .int 0, .int 1, .int (-1), .int 0, .long 0, .int 0, .int 0, .int 0])) :: (q0, .inl (c0, 64, .inl (fun _ => 0))) :: []) _
  refine co_ald 0 (ok_K_Ta.dec 18 rfl rfl) rfl rfl ?_
  refine co_lc 0 (ok_K_Ta.dec 19 rfl rfl) rfl (by decide) ?_
  refine co_put (ty := .long) (v := .long 0) (fs := [.ref q0, .int 0, .int 1, .int (-1), .int 0, .long 0, .int 0, .int 0, .int 0]) (w' := (q0, .inl (c0, 64, .inl (fun _ => 0))) :: []) (ok_K_Ta.dec 20 rfl rfl) rfl fl_X9_29 rfl rfl rfl rfl (Nat.le_of_ble_eq_true rfl) ?_
  show COk _ _ _ _ _ _ _ _ _ ((h0, .inr (7, [.ref q0, .int 0, .int 1, .int (-1), .int 0, .long 0, .int 0, .int 0, .int 0])) :: (q0, .inl (c0, 64, .inl (fun _ => 0))) :: []) _
  refine co_ald 0 (ok_K_Ta.dec 21 rfl rfl) rfl rfl ?_
  refine co_ic (0) (ok_K_Ta.dec 22 rfl rfl) rfl (by decide) ?_
  refine co_put (ty := .boolean) (v := .int 0) (fs := [.ref q0, .int 0, .int 1, .int (-1), .int 0, .long 0, .int 0, .int 0, .int 0]) (w' := (q0, .inl (c0, 64, .inl (fun _ => 0))) :: []) (ok_K_Ta.dec 23 rfl rfl) rfl fl_X9_33 rfl rfl rfl rfl (Nat.le_of_ble_eq_true rfl) ?_
  show COk _ _ _ _ _ _ _ _ _ ((h0, .inr (7, [.ref q0, .int 0, .int 1, .int (-1), .int 0, .long 0, .int 0, .int 0, .int 0])) :: (q0, .inl (c0, 64, .inl (fun _ => 0))) :: []) _
  refine co_ald 0 (ok_K_Ta.dec 24 rfl rfl) rfl rfl ?_
  refine co_ic (0) (ok_K_Ta.dec 25 rfl rfl) rfl (by decide) ?_
  refine co_put (ty := .int) (v := .int 0) (fs := [.ref q0, .int 0, .int 1, .int (-1), .int 0, .long 0, .int 0, .int 0, .int 0]) (w' := (q0, .inl (c0, 64, .inl (fun _ => 0))) :: []) (ok_K_Ta.dec 26 rfl rfl) rfl fl_X9_36 rfl rfl rfl rfl (Nat.le_of_ble_eq_true rfl) ?_
  show COk _ _ _ _ _ _ _ _ _ ((h0, .inr (7, [.ref q0, .int 0, .int 1, .int (-1), .int 0, .long 0, .int 0, .int 0, .int 0])) :: (q0, .inl (c0, 64, .inl (fun _ => 0))) :: []) _
  refine co_ald 0 (ok_K_Ta.dec 27 rfl rfl) rfl rfl ?_
  refine co_ic (0) (ok_K_Ta.dec 28 rfl rfl) rfl (by decide) ?_
  refine co_put (ty := .int) (v := .int 0) (fs := [.ref q0, .int 0, .int 1, .int (-1), .int 0, .long 0, .int 0, .int 0, .int 0]) (w' := (q0, .inl (c0, 64, .inl (fun _ => 0))) :: []) (ok_K_Ta.dec 29 rfl rfl) rfl fl_X9_39 rfl rfl rfl rfl (Nat.le_of_ble_eq_true rfl) ?_
  show COk _ _ _ _ _ _ _ _ _ ((h0, .inr (7, [.ref q0, .int 0, .int 1, .int (-1), .int 0, .long 0, .int 0, .int 0, .int 0])) :: (q0, .inl (c0, 64, .inl (fun _ => 0))) :: []) _
  exact co_ret (ok_K_Ta.dec 30 rfl rfl) rfl rfl ⟨q0, c0, rfl, by simp only [List.nil_append, List.cons_append, List.append_assoc]⟩
