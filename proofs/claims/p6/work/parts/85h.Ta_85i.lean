section
def K_Ta : eM := (RX9, yX9_init, cX9_init, 1, none, { frames := 1, cells := 1, slots := 64, locals := 12 }, [(0, .aload_n 0, 1), (1, .invokespecial 3, 4), (4, .aload_n 0, 5), (5, .bipush 64, 7), (7, .newarray .int, 9), (9, .putfield 9, 12), (12, .aload_n 0, 13), (13, .iconst 0, 14), (14, .putfield 15, 17), (17, .aload_n 0, 18), (18, .iconst 1, 19), (19, .putfield 19, 22), (22, .aload_n 0, 23), (23, .iconst (-1), 24), (24, .putfield 22, 27), (27, .aload_n 0, 28), (28, .iconst 0, 29), (29, .putfield 25, 32), (32, .aload_n 0, 33), (33, .lconst 0, 34), (34, .putfield 29, 37), (37, .aload_n 0, 38), (38, .iconst 0, 39), (39, .putfield 33, 42), (42, .aload_n 0, 43), (43, .iconst 0, 44), (44, .putfield 36, 47), (47, .aload_n 0, 48), (48, .iconst 0, 49), (49, .putfield 39, 52), (52, .return_, 53)])
theorem ok_K_Ta : okN K_Ta := okN_of (by decide +kernel) (wd1 234 rfl rfl) rfl rfl rfl
theorem ny_Ta : (eNm K_Ta).cls ≠ "java/lang/invoke/MethodHandle" ∧ (eNm K_Ta).cls ≠ "java/lang/invoke/VarHandle" ∧ (parseMethodDescriptor (eNm K_Ta).desc).map (fun d => d.parameters.length) = some 0 := ⟨by decide +kernel, by decide +kernel, by decide +kernel⟩
def Q_Ta (h0 : Nat) : va_W → kT → Prop := fun w tys => ∃ (q0 : Nat) (c0 : ClassId), w = (h0, .inr (7, [.ref q0, .int 0, .int 1, .int (-1), .int 0, .long 0, .int 0, .int 0, .int 0])) :: (q0, .inl (c0, 64, .inl (fun _ => 0))) :: [] ∧ tys = (c0, .int) :: []
set_option maxRecDepth 20000 in
theorem k_Ta (D : va_G) (h0 : Nat) : CM K_Ta D (fun _ => True) h0 [] (.inr (7, [.null, .int 0, .int 0, .int 0, .int 0, .long 0, .int 0, .int 0, .int 0])) (Q_Ta h0) := by
  refine CM.of ok_K_Ta rfl (Nat.le_of_ble_eq_true rfl) ?_
  show COk _ _ _ _ _ _ _ [(0, .ref h0)] _ _ _
  refine co_ald 0 (ok_K_Ta.dec 0 rfl rfl) rfl rfl ?_
  refine co_obj (ok_K_Ta.dec 1 rfl rfl) rfl (wd1 235 rfl rfl) (wd1 25 rfl rfl) (wd1 26 rfl rfl) (Nat.le_of_ble_eq_true rfl) (Nat.le_of_ble_eq_true rfl) ?_
  refine co_ald 0 (ok_K_Ta.dec 2 rfl rfl) rfl rfl ?_
  refine co_bp (64) (ok_K_Ta.dec 3 rfl rfl) rfl (by decide) ?_
  refine co_newi 64 (ok_K_Ta.dec 4 rfl rfl) rfl (wd1 69 rfl rfl) (by decide) (by decide) (Nat.le_of_ble_eq_true rfl) (Nat.le_of_ble_eq_true rfl) (Nat.le_of_ble_eq_true rfl) (fun q0 c0 => ?_)
  show COk _ _ _ _ _ _ _ _ _ ((h0, .inr (7, [.null, .int 0, .int 0, .int 0, .int 0, .long 0, .int 0, .int 0, .int 0])) :: (q0, .inl (c0, 64, .inl (fun _ => 0))) :: []) _
  refine co_putF (ty := .array .int) (v := .ref q0) (fs := [.null, .int 0, .int 0, .int 0, .int 0, .long 0, .int 0, .int 0, .int 0]) (w' := (q0, .inl (c0, 64, .inl (fun _ => 0))) :: []) (ok_K_Ta.dec 5 rfl rfl) rfl fl_X9_9 rfl rfl rfl rfl rfl (Nat.le_of_ble_eq_true rfl) ?_
  show COk _ _ _ _ _ _ _ _ _ ((h0, .inr (7, [.ref q0, .int 0, .int 0, .int 0, .int 0, .long 0, .int 0, .int 0, .int 0])) :: (q0, .inl (c0, 64, .inl (fun _ => 0))) :: []) _
  refine co_ald 0 (ok_K_Ta.dec 6 rfl rfl) rfl rfl ?_
  refine co_ic (0) (ok_K_Ta.dec 7 rfl rfl) rfl (by decide) ?_
  refine co_put (ty := .int) (v := .int 0) (fs := [.ref q0, .int 0, .int 0, .int 0, .int 0, .long 0, .int 0, .int 0, .int 0]) (w' := (q0, .inl (c0, 64, .inl (fun _ => 0))) :: []) (ok_K_Ta.dec 8 rfl rfl) rfl fl_X9_15 rfl rfl rfl rfl (Nat.le_of_ble_eq_true rfl) ?_
  show COk _ _ _ _ _ _ _ _ _ ((h0, .inr (7, [.ref q0, .int 0, .int 0, .int 0, .int 0, .long 0, .int 0, .int 0, .int 0])) :: (q0, .inl (c0, 64, .inl (fun _ => 0))) :: []) _
  refine co_ald 0 (ok_K_Ta.dec 9 rfl rfl) rfl rfl ?_
  refine co_ic (1) (ok_K_Ta.dec 10 rfl rfl) rfl (by decide) ?_
  refine co_put (ty := .int) (v := .int 1) (fs := [.ref q0, .int 0, .int 0, .int 0, .int 0, .long 0, .int 0, .int 0, .int 0]) (w' := (q0, .inl (c0, 64, .inl (fun _ => 0))) :: []) (ok_K_Ta.dec 11 rfl rfl) rfl fl_X9_19 rfl rfl rfl rfl (Nat.le_of_ble_eq_true rfl) ?_
  show COk _ _ _ _ _ _ _ _ _ ((h0, .inr (7, [.ref q0, .int 0, .int 1, .int 0, .int 0, .long 0, .int 0, .int 0, .int 0])) :: (q0, .inl (c0, 64, .inl (fun _ => 0))) :: []) _
  refine co_ald 0 (ok_K_Ta.dec 12 rfl rfl) rfl rfl ?_
  refine co_ic (-1) (ok_K_Ta.dec 13 rfl rfl) rfl (by decide) ?_
  refine co_put (ty := .int) (v := .int (-1)) (fs := [.ref q0, .int 0, .int 1, .int 0, .int 0, .long 0, .int 0, .int 0, .int 0]) (w' := (q0, .inl (c0, 64, .inl (fun _ => 0))) :: []) (ok_K_Ta.dec 14 rfl rfl) rfl fl_X9_22 rfl rfl rfl rfl (Nat.le_of_ble_eq_true rfl) ?_
  show COk _ _ _ _ _ _ _ _ _ ((h0, .inr (7, [.ref q0, .int 0, .int 1, .int (-1), .int 0, .long 0, .int 0, .int 0, .int 0])) :: (q0, .inl (c0, 64, .inl (fun _ => 0))) :: []) _
  refine co_ald 0 (ok_K_Ta.dec 15 rfl rfl) rfl rfl ?_
  refine co_ic (0) (ok_K_Ta.dec 16 rfl rfl) rfl (by decide) ?_
  refine co_put (ty := .boolean) (v := .int 0) (fs := [.ref q0, .int 0, .int 1, .int (-1), .int 0, .long 0, .int 0, .int 0, .int 0]) (w' := (q0, .inl (c0, 64, .inl (fun _ => 0))) :: []) (ok_K_Ta.dec 17 rfl rfl) rfl fl_X9_25 rfl rfl rfl rfl (Nat.le_of_ble_eq_true rfl) ?_
  show COk _ _ _ _ _ _ _ _ _ ((h0, .inr (7, [.ref q0, .int 0, .int 1, .int (-1), .int 0, .long 0, .int 0, .int 0, .int 0])) :: (q0, .inl (c0, 64, .inl (fun _ => 0))) :: []) _
  refine co_ald 0 (ok_K_Ta.dec 18 rfl rfl) rfl rfl ?_
  refine co_lc 0 (ok_K_Ta.dec 19 rfl rfl) rfl (by decide) ?_
  refine co_put (ty := .long) (v := .long 0) (fs := [.ref q0, .int 0, .int 1, .int (-1), .int 0, .long 0, .int 0, .int 0, .int 0]) (w' := (q0, .inl (c0, 64, .inl (fun _ => 0))) :: []) (ok_K_Ta.dec 20 rfl rfl) rfl fl_X9_29 rfl rfl rfl rfl (Nat.le_of_ble_eq_true rfl) ?_
  show COk _ _ _ _ _ _ _ _ _ ((h0, .inr (7, [.ref q0, .int 0, .int 1, .int (-1), .int 0, .long 0, .int 0, .int 0, .int 0])) :: (q0, .inl (c0, 64, .inl (fun _ => 0))) :: []) _
  refine co_ald 0 (ok_K_Ta.dec 21 rfl rfl) rfl rfl ?_
  refine co_ic (0) (ok_K_Ta.dec 22 rfl rfl) rfl (by decide) ?_
  refine co_put (ty := .boolean) (v := .int 0) (fs := [.ref q0, .int 0, .int 1, .int (-1), .int 0, .long 0, .int 0, .int 0, .int 0]) (w' := (q0, .inl (c0, 64, .inl (fun _ => 0))) :: []) (ok_K_Ta.dec 23 rfl rfl) rfl fl_X9_33 rfl rfl rfl rfl (Nat.le_of_ble_eq_true rfl) ?_
  show COk _ _ _ _ _ _ _ _ _ ((h0, .inr (7, [.ref q0, .int 0, .int 1, .int (-1), .int 0, .long 0, .int 0, .int 0, .int 0])) :: (q0, .inl (c0, 64, .inl (fun _ => 0))) :: []) _
  refine co_ald 0 (ok_K_Ta.dec 24 rfl rfl) rfl rfl ?_
  refine co_ic (0) (ok_K_Ta.dec 25 rfl rfl) rfl (by decide) ?_
  refine co_put (ty := .int) (v := .int 0) (fs := [.ref q0, .int 0, .int 1, .int (-1), .int 0, .long 0, .int 0, .int 0, .int 0]) (w' := (q0, .inl (c0, 64, .inl (fun _ => 0))) :: []) (ok_K_Ta.dec 26 rfl rfl) rfl fl_X9_36 rfl rfl rfl rfl (Nat.le_of_ble_eq_true rfl) ?_
  show COk _ _ _ _ _ _ _ _ _ ((h0, .inr (7, [.ref q0, .int 0, .int 1, .int (-1), .int 0, .long 0, .int 0, .int 0, .int 0])) :: (q0, .inl (c0, 64, .inl (fun _ => 0))) :: []) _
  refine co_ald 0 (ok_K_Ta.dec 27 rfl rfl) rfl rfl ?_
  refine co_ic (0) (ok_K_Ta.dec 28 rfl rfl) rfl (by decide) ?_
  refine co_put (ty := .int) (v := .int 0) (fs := [.ref q0, .int 0, .int 1, .int (-1), .int 0, .long 0, .int 0, .int 0, .int 0]) (w' := (q0, .inl (c0, 64, .inl (fun _ => 0))) :: []) (ok_K_Ta.dec 29 rfl rfl) rfl fl_X9_39 rfl rfl rfl rfl (Nat.le_of_ble_eq_true rfl) ?_
  show COk _ _ _ _ _ _ _ _ _ ((h0, .inr (7, [.ref q0, .int 0, .int 1, .int (-1), .int 0, .long 0, .int 0, .int 0, .int 0])) :: (q0, .inl (c0, 64, .inl (fun _ => 0))) :: []) _
  exact co_ret (ok_K_Ta.dec 30 rfl rfl) rfl rfl ⟨q0, c0, rfl, by simp only [List.nil_append, List.cons_append, List.append_assoc]⟩
end
section
def K_Se : eM := (RX7, yX7_init, cX7_init, 3, none, { frames := 2, cells := 14, slots := 377, locals := 33 }, [(0, .aload_n 0, 1), (1, .invokespecial 3, 4), (4, .aload_n 0, 5), (5, .iconst 5, 6), (6, .anewarray 11, 9), (9, .putfield 13, 12), (12, .aload_n 0, 13), (13, .bipush 16, 15), (15, .newarray .int, 17), (17, .putfield 17, 20), (20, .aload_n 0, 21), (21, .iconst 3, 22), (22, .newarray .int, 24), (24, .putfield 21, 27), (27, .aload_n 0, 28), (28, .iconst 3, 29), (29, .newarray .int, 31), (31, .putfield 24, 34), (34, .aload_n 0, 35), (35, .aload_n 1, 36), (36, .putfield 27, 39), (39, .iconst 0, 40), (40, .istore_n 2, 41), (41, .iload_n 2, 42), (42, .iconst 4, 43), (43, .if_icmp .gt 23, 46), (46, .aload_n 0, 47), (47, .getfield 13, 50), (50, .iload_n 2, 51), (51, .new 11, 54), (54, .dup, 55), (55, .aload_n 1, 56), (56, .invokespecial 31, 59), (59, .aastore, 60), (60, .iinc 2 1, 63), (63, .goto (-22), 66), (66, .return_, 67)])
theorem ok_K_Se : okN K_Se := okN_of (by decide +kernel) (wd1 173 rfl rfl) rfl rfl rfl
theorem ny_Se : (eNm K_Se).cls ≠ "java/lang/invoke/MethodHandle" ∧ (eNm K_Se).cls ≠ "java/lang/invoke/VarHandle" ∧ (parseMethodDescriptor (eNm K_Se).desc).map (fun d => d.parameters.length) = some 1 := ⟨by decide +kernel, by decide +kernel, by decide +kernel⟩
def Q_Se (h0 : Nat) (hc0 : Nat) : va_W → kT → Prop := fun w tys => ∃ (q0 : Nat) (c0 : ClassId) (q1 : Nat) (c1 : ClassId) (q2 : Nat) (c2 : ClassId) (q3 : Nat) (c3 : ClassId) (q0_6 : Nat) (c0_6 : ClassId) (a4 : Nat) (q0_9 : Nat) (c0_9 : ClassId) (a7 : Nat) (q0_12 : Nat) (c0_12 : ClassId) (a10 : Nat) (q0_15 : Nat) (c0_15 : ClassId) (a13 : Nat) (q0_18 : Nat) (c0_18 : ClassId) (a16 : Nat), w = (h0, .inr (5, [.ref hc0, .ref q0, .ref q1, .ref q2, .ref q3])) :: (q0, .inl (c0, 5, .inr (.inr (.inr (.inr (va_up (va_up (va_up (va_up (va_up (fun _ => none) 0 (some a4)) 1 (some a7)) 2 (some a10)) 3 (some a13)) 4 (some a16))))))) :: (q1, .inl (c1, 16, .inl (fun _ => 0))) :: (q2, .inl (c2, 3, .inl (fun _ => 0))) :: (q3, .inl (c3, 3, .inl (fun _ => 0))) :: (a4, .inr (3, [.ref hc0, .ref q0_6, .int 0, .int 0, .int 0, .int 0])) :: (q0_6, .inl (c0_6, 64, .inl (fun _ => 0))) :: (a7, .inr (3, [.ref hc0, .ref q0_9, .int 0, .int 0, .int 0, .int 0])) :: (q0_9, .inl (c0_9, 64, .inl (fun _ => 0))) :: (a10, .inr (3, [.ref hc0, .ref q0_12, .int 0, .int 0, .int 0, .int 0])) :: (q0_12, .inl (c0_12, 64, .inl (fun _ => 0))) :: (a13, .inr (3, [.ref hc0, .ref q0_15, .int 0, .int 0, .int 0, .int 0])) :: (q0_15, .inl (c0_15, 64, .inl (fun _ => 0))) :: (a16, .inr (3, [.ref hc0, .ref q0_18, .int 0, .int 0, .int 0, .int 0])) :: (q0_18, .inl (c0_18, 64, .inl (fun _ => 0))) :: [] ∧ tys = (c0, .object "EvenTables$Peeler") :: (c1, .int) :: (c2, .int) :: (c3, .int) :: (c0_6, .int) :: [] ++ ((c0_9, .int) :: [] ++ ((c0_12, .int) :: [] ++ ((c0_15, .int) :: [] ++ ((c0_18, .int) :: []))))
set_option maxRecDepth 20000 in
theorem k_Se (D : va_G) (h0 : Nat) (hc0 : Nat) : CM K_Se D (va_AO "EvenTables$Peeler") h0 [.ref hc0] (.inr (5, [.null, .null, .null, .null, .null])) (Q_Se h0 hc0) := by
  refine CM.of ok_K_Se rfl (Nat.le_of_ble_eq_true rfl) ?_
  show COk _ _ _ _ _ _ _ [(0, .ref h0), (1, .ref hc0)] _ _ _
  refine co_ald 0 (ok_K_Se.dec 0 rfl rfl) rfl rfl ?_
  refine co_obj (ok_K_Se.dec 1 rfl rfl) rfl (wd1 174 rfl rfl) (wd1 25 rfl rfl) (wd1 26 rfl rfl) (Nat.le_of_ble_eq_true rfl) (Nat.le_of_ble_eq_true rfl) ?_
  refine co_ald 0 (ok_K_Se.dec 2 rfl rfl) rfl rfl ?_
  refine co_ic (5) (ok_K_Se.dec 3 rfl rfl) rfl (by decide) ?_
  refine co_newq "EvenTables$Peeler" 5 (ok_K_Se.dec 4 rfl rfl) rfl (wd1 175 rfl rfl) (fun U h => h) (by decide) (by decide) (Nat.le_of_ble_eq_true rfl) (Nat.le_of_ble_eq_true rfl) (Nat.le_of_ble_eq_true rfl) (fun q0 c0 => ?_)
  show COk _ _ _ _ _ _ _ _ _ ((h0, .inr (5, [.null, .null, .null, .null, .null])) :: (q0, .inl (c0, 5, .inr (.inr (.inr (.inr (fun _ => none)))))) :: []) _
  refine co_putF (ty := .array (.object "EvenTables$Peeler")) (v := .ref q0) (fs := [.null, .null, .null, .null, .null]) (w' := (q0, .inl (c0, 5, .inr (.inr (.inr (.inr (fun _ => none)))))) :: []) (ok_K_Se.dec 5 rfl rfl) rfl fl_X7_13 rfl rfl rfl rfl rfl (Nat.le_of_ble_eq_true rfl) ?_
  show COk _ _ _ _ _ _ _ _ _ ((h0, .inr (5, [.null, .ref q0, .null, .null, .null])) :: (q0, .inl (c0, 5, .inr (.inr (.inr (.inr (fun _ => none)))))) :: []) _
  refine co_ald 0 (ok_K_Se.dec 6 rfl rfl) rfl rfl ?_
  refine co_bp (16) (ok_K_Se.dec 7 rfl rfl) rfl (by decide) ?_
  refine co_newi 16 (ok_K_Se.dec 8 rfl rfl) rfl (wd1 69 rfl rfl) (by decide) (by decide) (Nat.le_of_ble_eq_true rfl) (Nat.le_of_ble_eq_true rfl) (Nat.le_of_ble_eq_true rfl) (fun q1 c1 => ?_)
  show COk _ _ _ _ _ _ _ _ _ ((h0, .inr (5, [.null, .ref q0, .null, .null, .null])) :: (q0, .inl (c0, 5, .inr (.inr (.inr (.inr (fun _ => none)))))) :: (q1, .inl (c1, 16, .inl (fun _ => 0))) :: []) _
  refine co_putF (ty := .array .int) (v := .ref q1) (fs := [.null, .ref q0, .null, .null, .null]) (w' := (q0, .inl (c0, 5, .inr (.inr (.inr (.inr (fun _ => none)))))) :: (q1, .inl (c1, 16, .inl (fun _ => 0))) :: []) (ok_K_Se.dec 9 rfl rfl) rfl fl_X7_17 rfl rfl rfl rfl rfl (Nat.le_of_ble_eq_true rfl) ?_
  show COk _ _ _ _ _ _ _ _ _ ((h0, .inr (5, [.null, .ref q0, .ref q1, .null, .null])) :: (q0, .inl (c0, 5, .inr (.inr (.inr (.inr (fun _ => none)))))) :: (q1, .inl (c1, 16, .inl (fun _ => 0))) :: []) _
  refine co_ald 0 (ok_K_Se.dec 10 rfl rfl) rfl rfl ?_
  refine co_ic (3) (ok_K_Se.dec 11 rfl rfl) rfl (by decide) ?_
  refine co_newi 3 (ok_K_Se.dec 12 rfl rfl) rfl (wd1 69 rfl rfl) (by decide) (by decide) (Nat.le_of_ble_eq_true rfl) (Nat.le_of_ble_eq_true rfl) (Nat.le_of_ble_eq_true rfl) (fun q2 c2 => ?_)
  show COk _ _ _ _ _ _ _ _ _ ((h0, .inr (5, [.null, .ref q0, .ref q1, .null, .null])) :: (q0, .inl (c0, 5, .inr (.inr (.inr (.inr (fun _ => none)))))) :: (q1, .inl (c1, 16, .inl (fun _ => 0))) :: (q2, .inl (c2, 3, .inl (fun _ => 0))) :: []) _
  refine co_putF (ty := .array .int) (v := .ref q2) (fs := [.null, .ref q0, .ref q1, .null, .null]) (w' := (q0, .inl (c0, 5, .inr (.inr (.inr (.inr (fun _ => none)))))) :: (q1, .inl (c1, 16, .inl (fun _ => 0))) :: (q2, .inl (c2, 3, .inl (fun _ => 0))) :: []) (ok_K_Se.dec 13 rfl rfl) rfl fl_X7_21 rfl rfl rfl rfl rfl (Nat.le_of_ble_eq_true rfl) ?_
  show COk _ _ _ _ _ _ _ _ _ ((h0, .inr (5, [.null, .ref q0, .ref q1, .ref q2, .null])) :: (q0, .inl (c0, 5, .inr (.inr (.inr (.inr (fun _ => none)))))) :: (q1, .inl (c1, 16, .inl (fun _ => 0))) :: (q2, .inl (c2, 3, .inl (fun _ => 0))) :: []) _
  refine co_ald 0 (ok_K_Se.dec 14 rfl rfl) rfl rfl ?_
  refine co_ic (3) (ok_K_Se.dec 15 rfl rfl) rfl (by decide) ?_
  refine co_newi 3 (ok_K_Se.dec 16 rfl rfl) rfl (wd1 69 rfl rfl) (by decide) (by decide) (Nat.le_of_ble_eq_true rfl) (Nat.le_of_ble_eq_true rfl) (Nat.le_of_ble_eq_true rfl) (fun q3 c3 => ?_)
  show COk _ _ _ _ _ _ _ _ _ ((h0, .inr (5, [.null, .ref q0, .ref q1, .ref q2, .null])) :: (q0, .inl (c0, 5, .inr (.inr (.inr (.inr (fun _ => none)))))) :: (q1, .inl (c1, 16, .inl (fun _ => 0))) :: (q2, .inl (c2, 3, .inl (fun _ => 0))) :: (q3, .inl (c3, 3, .inl (fun _ => 0))) :: []) _
  refine co_putF (ty := .array .int) (v := .ref q3) (fs := [.null, .ref q0, .ref q1, .ref q2, .null]) (w' := (q0, .inl (c0, 5, .inr (.inr (.inr (.inr (fun _ => none)))))) :: (q1, .inl (c1, 16, .inl (fun _ => 0))) :: (q2, .inl (c2, 3, .inl (fun _ => 0))) :: (q3, .inl (c3, 3, .inl (fun _ => 0))) :: []) (ok_K_Se.dec 17 rfl rfl) rfl fl_X7_24 rfl rfl rfl rfl rfl (Nat.le_of_ble_eq_true rfl) ?_
  show COk _ _ _ _ _ _ _ _ _ ((h0, .inr (5, [.null, .ref q0, .ref q1, .ref q2, .ref q3])) :: (q0, .inl (c0, 5, .inr (.inr (.inr (.inr (fun _ => none)))))) :: (q1, .inl (c1, 16, .inl (fun _ => 0))) :: (q2, .inl (c2, 3, .inl (fun _ => 0))) :: (q3, .inl (c3, 3, .inl (fun _ => 0))) :: []) _
  refine co_ald 0 (ok_K_Se.dec 18 rfl rfl) rfl rfl ?_
  refine co_ald 1 (ok_K_Se.dec 19 rfl rfl) rfl rfl ?_
  refine co_putF (ty := .object "EvenTables$Choices") (v := .ref hc0) (fs := [.null, .ref q0, .ref q1, .ref q2, .ref q3]) (w' := (q0, .inl (c0, 5, .inr (.inr (.inr (.inr (fun _ => none)))))) :: (q1, .inl (c1, 16, .inl (fun _ => 0))) :: (q2, .inl (c2, 3, .inl (fun _ => 0))) :: (q3, .inl (c3, 3, .inl (fun _ => 0))) :: []) (ok_K_Se.dec 20 rfl rfl) rfl fl_X7_27 rfl rfl rfl rfl rfl (Nat.le_of_ble_eq_true rfl) ?_
  show COk _ _ _ _ _ _ _ _ _ ((h0, .inr (5, [.ref hc0, .ref q0, .ref q1, .ref q2, .ref q3])) :: (q0, .inl (c0, 5, .inr (.inr (.inr (.inr (fun _ => none)))))) :: (q1, .inl (c1, 16, .inl (fun _ => 0))) :: (q2, .inl (c2, 3, .inl (fun _ => 0))) :: (q3, .inl (c3, 3, .inl (fun _ => 0))) :: []) _
  refine co_ic (0) (ok_K_Se.dec 21 rfl rfl) rfl (by decide) ?_
  refine co_ist [(2, .int 0), (0, .ref h0), (1, .ref hc0)] (ok_K_Se.dec 22 rfl rfl) rfl (Nat.le_of_ble_eq_true rfl) rfl ?_
  refine co_ild 0 (ok_K_Se.dec 23 rfl rfl) rfl rfl ?_
  refine co_ic (4) (ok_K_Se.dec 24 rfl rfl) rfl (by decide) ?_
  refine co_gtF (tgt := 66) (ok_K_Se.dec 25 rfl rfl) rfl rfl (by decide +kernel) ?_
  refine co_ald 1 (ok_K_Se.dec 26 rfl rfl) rfl rfl ?_
  refine co_get (.ref q0) (fs := [.ref hc0, .ref q0, .ref q1, .ref q2, .ref q3]) (w' := (q0, .inl (c0, 5, .inr (.inr (.inr (.inr (fun _ => none)))))) :: (q1, .inl (c1, 16, .inl (fun _ => 0))) :: (q2, .inl (c2, 3, .inl (fun _ => 0))) :: (q3, .inl (c3, 3, .inl (fun _ => 0))) :: []) (ok_K_Se.dec 27 rfl rfl) rfl fl_X7_13 rfl ?_
  refine co_ild 0 (ok_K_Se.dec 28 rfl rfl) rfl rfl ?_
  refine co_new (ci := 3) [.null, .null, .int 0, .int 0, .int 0, .int 0] (ok_K_Se.dec 29 rfl rfl) rfl (RX5, TX5, 6) rfl (Nat.le_of_ble_eq_true rfl) (wd1 175 rfl rfl) (wd1 104 rfl rfl) (wd1 5 rfl rfl) (fun j hj => by rcases (show j = 0 ∨ j = 1 ∨ j = 2 ∨ j = 3 ∨ j = 4 ∨ j = 5 by have : j < 6 := hj; omega) with rfl | rfl | rfl | rfl | rfl | rfl <;> rfl) (Nat.le_of_ble_eq_true rfl) (Nat.le_of_ble_eq_true rfl) (fun a4 => ?_)
  show COk _ _ _ _ _ _ _ _ _ ((h0, .inr (5, [.ref hc0, .ref q0, .ref q1, .ref q2, .ref q3])) :: (q0, .inl (c0, 5, .inr (.inr (.inr (.inr (fun _ => none)))))) :: (q1, .inl (c1, 16, .inl (fun _ => 0))) :: (q2, .inl (c2, 3, .inl (fun _ => 0))) :: (q3, .inl (c3, 3, .inl (fun _ => 0))) :: ([] ++ [(a4, .inr (3, [.null, .null, .int 0, .int 0, .int 0, .int 0]))])) _
  refine co_dup (ok_K_Se.dec 30 rfl rfl) rfl rfl ?_
  refine co_ald 2 (ok_K_Se.dec 31 rfl rfl) rfl rfl ?_
  show COk _ _ _ _ _ _ _ _ _ (((h0, .inr (5, [.ref hc0, .ref q0, .ref q1, .ref q2, .ref q3])) :: (q0, .inl (c0, 5, .inr (.inr (.inr (.inr (fun _ => none)))))) :: (q1, .inl (c1, 16, .inl (fun _ => 0))) :: (q2, .inl (c2, 3, .inl (fun _ => 0))) :: (q3, .inl (c3, 3, .inl (fun _ => 0))) :: []) ++ [(a4, .inr (3, [.null, .null, .int 0, .int 0, .int 0, .int 0]))]) _
  refine co_call (M' := K_Pe) (As := [.ref hc0]) (ok_K_Se.dec 32 rfl rfl) rfl (k_Pe D a4 hc0) (wd1 177 rfl rfl) (wd1 5 rfl rfl) (wd1 106 rfl rfl) rfl ny_Pe ⟨(Nat.le_of_ble_eq_true rfl), (Nat.le_of_ble_eq_true rfl)⟩ rfl (Nat.le_of_ble_eq_true rfl) ⟨(Nat.le_of_ble_eq_true rfl), (Nat.le_of_ble_eq_true rfl)⟩ (fun _ _ _ _ => trivial) (fun _ _ _ _ _ => trivial) (fun w5 t5 p5 => ?_)
  obtain ⟨q0_6, c0_6, e1_, e2_⟩ := p5
  subst e1_; subst e2_
  refine co_astQ (cA := c0) (n := 5) (f := (fun _ => none)) (vs := [.ref hc0, .ref q0_6, .int 0, .int 0, .int 0, .int 0]) 1 0 ((h0, .inr (5, [.ref hc0, .ref q0, .ref q1, .ref q2, .ref q3])) :: (q0, .inl (c0, 5, .inr (.inr (.inr (.inr (fun _ => none)))))) :: (q1, .inl (c1, 16, .inl (fun _ => 0))) :: (q2, .inl (c2, 3, .inl (fun _ => 0))) :: (q3, .inl (c3, 3, .inl (fun _ => 0))) :: [] : va_W).length 3 0 (RX5, TX5, 6) (ok_K_Se.dec 33 rfl rfl) rfl ?_ ?_ ?_ rfl ?_ ?_ ?_
  · rfl
  · rfl
  · exact ap_at _ _ _
  · unfold vp_in; decide +kernel
  · decide +kernel
  show COk _ _ _ _ _ _ _ _ _ ((h0, .inr (5, [.ref hc0, .ref q0, .ref q1, .ref q2, .ref q3])) :: (q0, .inl (c0, 5, .inr (.inr (.inr (.inr (va_up (fun _ => none) 0 (some a4))))))) :: (q1, .inl (c1, 16, .inl (fun _ => 0))) :: (q2, .inl (c2, 3, .inl (fun _ => 0))) :: (q3, .inl (c3, 3, .inl (fun _ => 0))) :: ([] ++ [(a4, .inr (3, [.ref hc0, .ref q0_6, .int 0, .int 0, .int 0, .int 0])), (q0_6, .inl (c0_6, 64, .inl (fun _ => 0)))])) _
  refine co_inc (j := 0) 1 [(2, .int 1), (0, .ref h0), (1, .ref hc0)] (ok_K_Se.dec 34 rfl rfl) rfl rfl (by decide +kernel) (Nat.le_of_ble_eq_true rfl) rfl ?_
  refine co_goto (tgt := 41) (ok_K_Se.dec 35 rfl rfl) rfl ?_
  refine co_ild 0 (ok_K_Se.dec 23 rfl rfl) rfl rfl ?_
  refine co_ic (4) (ok_K_Se.dec 24 rfl rfl) rfl (by decide) ?_
  refine co_gtF (tgt := 66) (ok_K_Se.dec 25 rfl rfl) rfl rfl (by decide +kernel) ?_
  refine co_ald 1 (ok_K_Se.dec 26 rfl rfl) rfl rfl ?_
  refine co_get (.ref q0) (fs := [.ref hc0, .ref q0, .ref q1, .ref q2, .ref q3]) (w' := (q0, .inl (c0, 5, .inr (.inr (.inr (.inr (va_up (fun _ => none) 0 (some a4))))))) :: (q1, .inl (c1, 16, .inl (fun _ => 0))) :: (q2, .inl (c2, 3, .inl (fun _ => 0))) :: (q3, .inl (c3, 3, .inl (fun _ => 0))) :: ([] ++ [(a4, .inr (3, [.ref hc0, .ref q0_6, .int 0, .int 0, .int 0, .int 0])), (q0_6, .inl (c0_6, 64, .inl (fun _ => 0)))])) (ok_K_Se.dec 27 rfl rfl) rfl fl_X7_13 rfl ?_
  refine co_ild 0 (ok_K_Se.dec 28 rfl rfl) rfl rfl ?_
  refine co_new (ci := 3) [.null, .null, .int 0, .int 0, .int 0, .int 0] (ok_K_Se.dec 29 rfl rfl) rfl (RX5, TX5, 6) rfl (Nat.le_of_ble_eq_true rfl) (wd1 175 rfl rfl) (wd1 104 rfl rfl) (wd1 5 rfl rfl) (fun j hj => by rcases (show j = 0 ∨ j = 1 ∨ j = 2 ∨ j = 3 ∨ j = 4 ∨ j = 5 by have : j < 6 := hj; omega) with rfl | rfl | rfl | rfl | rfl | rfl <;> rfl) (Nat.le_of_ble_eq_true rfl) (Nat.le_of_ble_eq_true rfl) (fun a7 => ?_)
  show COk _ _ _ _ _ _ _ _ _ ((h0, .inr (5, [.ref hc0, .ref q0, .ref q1, .ref q2, .ref q3])) :: (q0, .inl (c0, 5, .inr (.inr (.inr (.inr (va_up (fun _ => none) 0 (some a4))))))) :: (q1, .inl (c1, 16, .inl (fun _ => 0))) :: (q2, .inl (c2, 3, .inl (fun _ => 0))) :: (q3, .inl (c3, 3, .inl (fun _ => 0))) :: (([] ++ [(a4, .inr (3, [.ref hc0, .ref q0_6, .int 0, .int 0, .int 0, .int 0])), (q0_6, .inl (c0_6, 64, .inl (fun _ => 0)))]) ++ [(a7, .inr (3, [.null, .null, .int 0, .int 0, .int 0, .int 0]))])) _
  refine co_dup (ok_K_Se.dec 30 rfl rfl) rfl rfl ?_
  refine co_ald 2 (ok_K_Se.dec 31 rfl rfl) rfl rfl ?_
  show COk _ _ _ _ _ _ _ _ _ (((h0, .inr (5, [.ref hc0, .ref q0, .ref q1, .ref q2, .ref q3])) :: (q0, .inl (c0, 5, .inr (.inr (.inr (.inr (va_up (fun _ => none) 0 (some a4))))))) :: (q1, .inl (c1, 16, .inl (fun _ => 0))) :: (q2, .inl (c2, 3, .inl (fun _ => 0))) :: (q3, .inl (c3, 3, .inl (fun _ => 0))) :: ([] ++ [(a4, .inr (3, [.ref hc0, .ref q0_6, .int 0, .int 0, .int 0, .int 0])), (q0_6, .inl (c0_6, 64, .inl (fun _ => 0)))])) ++ [(a7, .inr (3, [.null, .null, .int 0, .int 0, .int 0, .int 0]))]) _
  refine co_call (M' := K_Pe) (As := [.ref hc0]) (ok_K_Se.dec 32 rfl rfl) rfl (k_Pe D a7 hc0) (wd1 177 rfl rfl) (wd1 5 rfl rfl) (wd1 106 rfl rfl) rfl ny_Pe ⟨(Nat.le_of_ble_eq_true rfl), (Nat.le_of_ble_eq_true rfl)⟩ rfl (Nat.le_of_ble_eq_true rfl) ⟨(Nat.le_of_ble_eq_true rfl), (Nat.le_of_ble_eq_true rfl)⟩ (fun _ _ _ _ => trivial) (fun _ _ _ _ _ => trivial) (fun w8 t8 p8 => ?_)
  obtain ⟨q0_9, c0_9, e1_, e2_⟩ := p8
  subst e1_; subst e2_
  refine co_astQ (cA := c0) (n := 5) (f := (va_up (fun _ => none) 0 (some a4))) (vs := [.ref hc0, .ref q0_9, .int 0, .int 0, .int 0, .int 0]) 1 0 ((h0, .inr (5, [.ref hc0, .ref q0, .ref q1, .ref q2, .ref q3])) :: (q0, .inl (c0, 5, .inr (.inr (.inr (.inr (va_up (fun _ => none) 0 (some a4))))))) :: (q1, .inl (c1, 16, .inl (fun _ => 0))) :: (q2, .inl (c2, 3, .inl (fun _ => 0))) :: (q3, .inl (c3, 3, .inl (fun _ => 0))) :: ([] ++ [(a4, .inr (3, [.ref hc0, .ref q0_6, .int 0, .int 0, .int 0, .int 0])), (q0_6, .inl (c0_6, 64, .inl (fun _ => 0)))]) : va_W).length 3 1 (RX5, TX5, 6) (ok_K_Se.dec 33 rfl rfl) rfl ?_ ?_ ?_ rfl ?_ ?_ ?_
  · rfl
  · rfl
  · exact ap_at _ _ _
  · unfold vp_in; decide +kernel
  · decide +kernel
  show COk _ _ _ _ _ _ _ _ _ ((h0, .inr (5, [.ref hc0, .ref q0, .ref q1, .ref q2, .ref q3])) :: (q0, .inl (c0, 5, .inr (.inr (.inr (.inr (va_up (va_up (fun _ => none) 0 (some a4)) 1 (some a7))))))) :: (q1, .inl (c1, 16, .inl (fun _ => 0))) :: (q2, .inl (c2, 3, .inl (fun _ => 0))) :: (q3, .inl (c3, 3, .inl (fun _ => 0))) :: (([] ++ [(a4, .inr (3, [.ref hc0, .ref q0_6, .int 0, .int 0, .int 0, .int 0])), (q0_6, .inl (c0_6, 64, .inl (fun _ => 0)))]) ++ [(a7, .inr (3, [.ref hc0, .ref q0_9, .int 0, .int 0, .int 0, .int 0])), (q0_9, .inl (c0_9, 64, .inl (fun _ => 0)))])) _
  refine co_inc (j := 0) 2 [(2, .int 2), (0, .ref h0), (1, .ref hc0)] (ok_K_Se.dec 34 rfl rfl) rfl rfl (by decide +kernel) (Nat.le_of_ble_eq_true rfl) rfl ?_
  refine co_goto (tgt := 41) (ok_K_Se.dec 35 rfl rfl) rfl ?_
  refine co_ild 0 (ok_K_Se.dec 23 rfl rfl) rfl rfl ?_
  refine co_ic (4) (ok_K_Se.dec 24 rfl rfl) rfl (by decide) ?_
  refine co_gtF (tgt := 66) (ok_K_Se.dec 25 rfl rfl) rfl rfl (by decide +kernel) ?_
  refine co_ald 1 (ok_K_Se.dec 26 rfl rfl) rfl rfl ?_
  refine co_get (.ref q0) (fs := [.ref hc0, .ref q0, .ref q1, .ref q2, .ref q3]) (w' := (q0, .inl (c0, 5, .inr (.inr (.inr (.inr (va_up (va_up (fun _ => none) 0 (some a4)) 1 (some a7))))))) :: (q1, .inl (c1, 16, .inl (fun _ => 0))) :: (q2, .inl (c2, 3, .inl (fun _ => 0))) :: (q3, .inl (c3, 3, .inl (fun _ => 0))) :: (([] ++ [(a4, .inr (3, [.ref hc0, .ref q0_6, .int 0, .int 0, .int 0, .int 0])), (q0_6, .inl (c0_6, 64, .inl (fun _ => 0)))]) ++ [(a7, .inr (3, [.ref hc0, .ref q0_9, .int 0, .int 0, .int 0, .int 0])), (q0_9, .inl (c0_9, 64, .inl (fun _ => 0)))])) (ok_K_Se.dec 27 rfl rfl) rfl fl_X7_13 rfl ?_
  refine co_ild 0 (ok_K_Se.dec 28 rfl rfl) rfl rfl ?_
  refine co_new (ci := 3) [.null, .null, .int 0, .int 0, .int 0, .int 0] (ok_K_Se.dec 29 rfl rfl) rfl (RX5, TX5, 6) rfl (Nat.le_of_ble_eq_true rfl) (wd1 175 rfl rfl) (wd1 104 rfl rfl) (wd1 5 rfl rfl) (fun j hj => by rcases (show j = 0 ∨ j = 1 ∨ j = 2 ∨ j = 3 ∨ j = 4 ∨ j = 5 by have : j < 6 := hj; omega) with rfl | rfl | rfl | rfl | rfl | rfl <;> rfl) (Nat.le_of_ble_eq_true rfl) (Nat.le_of_ble_eq_true rfl) (fun a10 => ?_)
  show COk _ _ _ _ _ _ _ _ _ ((h0, .inr (5, [.ref hc0, .ref q0, .ref q1, .ref q2, .ref q3])) :: (q0, .inl (c0, 5, .inr (.inr (.inr (.inr (va_up (va_up (fun _ => none) 0 (some a4)) 1 (some a7))))))) :: (q1, .inl (c1, 16, .inl (fun _ => 0))) :: (q2, .inl (c2, 3, .inl (fun _ => 0))) :: (q3, .inl (c3, 3, .inl (fun _ => 0))) :: ((([] ++ [(a4, .inr (3, [.ref hc0, .ref q0_6, .int 0, .int 0, .int 0, .int 0])), (q0_6, .inl (c0_6, 64, .inl (fun _ => 0)))]) ++ [(a7, .inr (3, [.ref hc0, .ref q0_9, .int 0, .int 0, .int 0, .int 0])), (q0_9, .inl (c0_9, 64, .inl (fun _ => 0)))]) ++ [(a10, .inr (3, [.null, .null, .int 0, .int 0, .int 0, .int 0]))])) _
  refine co_dup (ok_K_Se.dec 30 rfl rfl) rfl rfl ?_
  refine co_ald 2 (ok_K_Se.dec 31 rfl rfl) rfl rfl ?_
  show COk _ _ _ _ _ _ _ _ _ (((h0, .inr (5, [.ref hc0, .ref q0, .ref q1, .ref q2, .ref q3])) :: (q0, .inl (c0, 5, .inr (.inr (.inr (.inr (va_up (va_up (fun _ => none) 0 (some a4)) 1 (some a7))))))) :: (q1, .inl (c1, 16, .inl (fun _ => 0))) :: (q2, .inl (c2, 3, .inl (fun _ => 0))) :: (q3, .inl (c3, 3, .inl (fun _ => 0))) :: (([] ++ [(a4, .inr (3, [.ref hc0, .ref q0_6, .int 0, .int 0, .int 0, .int 0])), (q0_6, .inl (c0_6, 64, .inl (fun _ => 0)))]) ++ [(a7, .inr (3, [.ref hc0, .ref q0_9, .int 0, .int 0, .int 0, .int 0])), (q0_9, .inl (c0_9, 64, .inl (fun _ => 0)))])) ++ [(a10, .inr (3, [.null, .null, .int 0, .int 0, .int 0, .int 0]))]) _
  refine co_call (M' := K_Pe) (As := [.ref hc0]) (ok_K_Se.dec 32 rfl rfl) rfl (k_Pe D a10 hc0) (wd1 177 rfl rfl) (wd1 5 rfl rfl) (wd1 106 rfl rfl) rfl ny_Pe ⟨(Nat.le_of_ble_eq_true rfl), (Nat.le_of_ble_eq_true rfl)⟩ rfl (Nat.le_of_ble_eq_true rfl) ⟨(Nat.le_of_ble_eq_true rfl), (Nat.le_of_ble_eq_true rfl)⟩ (fun _ _ _ _ => trivial) (fun _ _ _ _ _ => trivial) (fun w11 t11 p11 => ?_)
  obtain ⟨q0_12, c0_12, e1_, e2_⟩ := p11
  subst e1_; subst e2_
  refine co_astQ (cA := c0) (n := 5) (f := (va_up (va_up (fun _ => none) 0 (some a4)) 1 (some a7))) (vs := [.ref hc0, .ref q0_12, .int 0, .int 0, .int 0, .int 0]) 1 0 ((h0, .inr (5, [.ref hc0, .ref q0, .ref q1, .ref q2, .ref q3])) :: (q0, .inl (c0, 5, .inr (.inr (.inr (.inr (va_up (va_up (fun _ => none) 0 (some a4)) 1 (some a7))))))) :: (q1, .inl (c1, 16, .inl (fun _ => 0))) :: (q2, .inl (c2, 3, .inl (fun _ => 0))) :: (q3, .inl (c3, 3, .inl (fun _ => 0))) :: (([] ++ [(a4, .inr (3, [.ref hc0, .ref q0_6, .int 0, .int 0, .int 0, .int 0])), (q0_6, .inl (c0_6, 64, .inl (fun _ => 0)))]) ++ [(a7, .inr (3, [.ref hc0, .ref q0_9, .int 0, .int 0, .int 0, .int 0])), (q0_9, .inl (c0_9, 64, .inl (fun _ => 0)))]) : va_W).length 3 2 (RX5, TX5, 6) (ok_K_Se.dec 33 rfl rfl) rfl ?_ ?_ ?_ rfl ?_ ?_ ?_
  · rfl
  · rfl
  · exact ap_at _ _ _
  · unfold vp_in; decide +kernel
  · decide +kernel
  show COk _ _ _ _ _ _ _ _ _ ((h0, .inr (5, [.ref hc0, .ref q0, .ref q1, .ref q2, .ref q3])) :: (q0, .inl (c0, 5, .inr (.inr (.inr (.inr (va_up (va_up (va_up (fun _ => none) 0 (some a4)) 1 (some a7)) 2 (some a10))))))) :: (q1, .inl (c1, 16, .inl (fun _ => 0))) :: (q2, .inl (c2, 3, .inl (fun _ => 0))) :: (q3, .inl (c3, 3, .inl (fun _ => 0))) :: ((([] ++ [(a4, .inr (3, [.ref hc0, .ref q0_6, .int 0, .int 0, .int 0, .int 0])), (q0_6, .inl (c0_6, 64, .inl (fun _ => 0)))]) ++ [(a7, .inr (3, [.ref hc0, .ref q0_9, .int 0, .int 0, .int 0, .int 0])), (q0_9, .inl (c0_9, 64, .inl (fun _ => 0)))]) ++ [(a10, .inr (3, [.ref hc0, .ref q0_12, .int 0, .int 0, .int 0, .int 0])), (q0_12, .inl (c0_12, 64, .inl (fun _ => 0)))])) _
  refine co_inc (j := 0) 3 [(2, .int 3), (0, .ref h0), (1, .ref hc0)] (ok_K_Se.dec 34 rfl rfl) rfl rfl (by decide +kernel) (Nat.le_of_ble_eq_true rfl) rfl ?_
  refine co_goto (tgt := 41) (ok_K_Se.dec 35 rfl rfl) rfl ?_
  refine co_ild 0 (ok_K_Se.dec 23 rfl rfl) rfl rfl ?_
  refine co_ic (4) (ok_K_Se.dec 24 rfl rfl) rfl (by decide) ?_
  refine co_gtF (tgt := 66) (ok_K_Se.dec 25 rfl rfl) rfl rfl (by decide +kernel) ?_
  refine co_ald 1 (ok_K_Se.dec 26 rfl rfl) rfl rfl ?_
  refine co_get (.ref q0) (fs := [.ref hc0, .ref q0, .ref q1, .ref q2, .ref q3]) (w' := (q0, .inl (c0, 5, .inr (.inr (.inr (.inr (va_up (va_up (va_up (fun _ => none) 0 (some a4)) 1 (some a7)) 2 (some a10))))))) :: (q1, .inl (c1, 16, .inl (fun _ => 0))) :: (q2, .inl (c2, 3, .inl (fun _ => 0))) :: (q3, .inl (c3, 3, .inl (fun _ => 0))) :: ((([] ++ [(a4, .inr (3, [.ref hc0, .ref q0_6, .int 0, .int 0, .int 0, .int 0])), (q0_6, .inl (c0_6, 64, .inl (fun _ => 0)))]) ++ [(a7, .inr (3, [.ref hc0, .ref q0_9, .int 0, .int 0, .int 0, .int 0])), (q0_9, .inl (c0_9, 64, .inl (fun _ => 0)))]) ++ [(a10, .inr (3, [.ref hc0, .ref q0_12, .int 0, .int 0, .int 0, .int 0])), (q0_12, .inl (c0_12, 64, .inl (fun _ => 0)))])) (ok_K_Se.dec 27 rfl rfl) rfl fl_X7_13 rfl ?_
  refine co_ild 0 (ok_K_Se.dec 28 rfl rfl) rfl rfl ?_
  refine co_new (ci := 3) [.null, .null, .int 0, .int 0, .int 0, .int 0] (ok_K_Se.dec 29 rfl rfl) rfl (RX5, TX5, 6) rfl (Nat.le_of_ble_eq_true rfl) (wd1 175 rfl rfl) (wd1 104 rfl rfl) (wd1 5 rfl rfl) (fun j hj => by rcases (show j = 0 ∨ j = 1 ∨ j = 2 ∨ j = 3 ∨ j = 4 ∨ j = 5 by have : j < 6 := hj; omega) with rfl | rfl | rfl | rfl | rfl | rfl <;> rfl) (Nat.le_of_ble_eq_true rfl) (Nat.le_of_ble_eq_true rfl) (fun a13 => ?_)
  show COk _ _ _ _ _ _ _ _ _ ((h0, .inr (5, [.ref hc0, .ref q0, .ref q1, .ref q2, .ref q3])) :: (q0, .inl (c0, 5, .inr (.inr (.inr (.inr (va_up (va_up (va_up (fun _ => none) 0 (some a4)) 1 (some a7)) 2 (some a10))))))) :: (q1, .inl (c1, 16, .inl (fun _ => 0))) :: (q2, .inl (c2, 3, .inl (fun _ => 0))) :: (q3, .inl (c3, 3, .inl (fun _ => 0))) :: (((([] ++ [(a4, .inr (3, [.ref hc0, .ref q0_6, .int 0, .int 0, .int 0, .int 0])), (q0_6, .inl (c0_6, 64, .inl (fun _ => 0)))]) ++ [(a7, .inr (3, [.ref hc0, .ref q0_9, .int 0, .int 0, .int 0, .int 0])), (q0_9, .inl (c0_9, 64, .inl (fun _ => 0)))]) ++ [(a10, .inr (3, [.ref hc0, .ref q0_12, .int 0, .int 0, .int 0, .int 0])), (q0_12, .inl (c0_12, 64, .inl (fun _ => 0)))]) ++ [(a13, .inr (3, [.null, .null, .int 0, .int 0, .int 0, .int 0]))])) _
  refine co_dup (ok_K_Se.dec 30 rfl rfl) rfl rfl ?_
  refine co_ald 2 (ok_K_Se.dec 31 rfl rfl) rfl rfl ?_
  show COk _ _ _ _ _ _ _ _ _ (((h0, .inr (5, [.ref hc0, .ref q0, .ref q1, .ref q2, .ref q3])) :: (q0, .inl (c0, 5, .inr (.inr (.inr (.inr (va_up (va_up (va_up (fun _ => none) 0 (some a4)) 1 (some a7)) 2 (some a10))))))) :: (q1, .inl (c1, 16, .inl (fun _ => 0))) :: (q2, .inl (c2, 3, .inl (fun _ => 0))) :: (q3, .inl (c3, 3, .inl (fun _ => 0))) :: ((([] ++ [(a4, .inr (3, [.ref hc0, .ref q0_6, .int 0, .int 0, .int 0, .int 0])), (q0_6, .inl (c0_6, 64, .inl (fun _ => 0)))]) ++ [(a7, .inr (3, [.ref hc0, .ref q0_9, .int 0, .int 0, .int 0, .int 0])), (q0_9, .inl (c0_9, 64, .inl (fun _ => 0)))]) ++ [(a10, .inr (3, [.ref hc0, .ref q0_12, .int 0, .int 0, .int 0, .int 0])), (q0_12, .inl (c0_12, 64, .inl (fun _ => 0)))])) ++ [(a13, .inr (3, [.null, .null, .int 0, .int 0, .int 0, .int 0]))]) _
  refine co_call (M' := K_Pe) (As := [.ref hc0]) (ok_K_Se.dec 32 rfl rfl) rfl (k_Pe D a13 hc0) (wd1 177 rfl rfl) (wd1 5 rfl rfl) (wd1 106 rfl rfl) rfl ny_Pe ⟨(Nat.le_of_ble_eq_true rfl), (Nat.le_of_ble_eq_true rfl)⟩ rfl (Nat.le_of_ble_eq_true rfl) ⟨(Nat.le_of_ble_eq_true rfl), (Nat.le_of_ble_eq_true rfl)⟩ (fun _ _ _ _ => trivial) (fun _ _ _ _ _ => trivial) (fun w14 t14 p14 => ?_)
  obtain ⟨q0_15, c0_15, e1_, e2_⟩ := p14
  subst e1_; subst e2_
  refine co_astQ (cA := c0) (n := 5) (f := (va_up (va_up (va_up (fun _ => none) 0 (some a4)) 1 (some a7)) 2 (some a10))) (vs := [.ref hc0, .ref q0_15, .int 0, .int 0, .int 0, .int 0]) 1 0 ((h0, .inr (5, [.ref hc0, .ref q0, .ref q1, .ref q2, .ref q3])) :: (q0, .inl (c0, 5, .inr (.inr (.inr (.inr (va_up (va_up (va_up (fun _ => none) 0 (some a4)) 1 (some a7)) 2 (some a10))))))) :: (q1, .inl (c1, 16, .inl (fun _ => 0))) :: (q2, .inl (c2, 3, .inl (fun _ => 0))) :: (q3, .inl (c3, 3, .inl (fun _ => 0))) :: ((([] ++ [(a4, .inr (3, [.ref hc0, .ref q0_6, .int 0, .int 0, .int 0, .int 0])), (q0_6, .inl (c0_6, 64, .inl (fun _ => 0)))]) ++ [(a7, .inr (3, [.ref hc0, .ref q0_9, .int 0, .int 0, .int 0, .int 0])), (q0_9, .inl (c0_9, 64, .inl (fun _ => 0)))]) ++ [(a10, .inr (3, [.ref hc0, .ref q0_12, .int 0, .int 0, .int 0, .int 0])), (q0_12, .inl (c0_12, 64, .inl (fun _ => 0)))]) : va_W).length 3 3 (RX5, TX5, 6) (ok_K_Se.dec 33 rfl rfl) rfl ?_ ?_ ?_ rfl ?_ ?_ ?_
  · rfl
  · rfl
  · exact ap_at _ _ _
  · unfold vp_in; decide +kernel
  · decide +kernel
  show COk _ _ _ _ _ _ _ _ _ ((h0, .inr (5, [.ref hc0, .ref q0, .ref q1, .ref q2, .ref q3])) :: (q0, .inl (c0, 5, .inr (.inr (.inr (.inr (va_up (va_up (va_up (va_up (fun _ => none) 0 (some a4)) 1 (some a7)) 2 (some a10)) 3 (some a13))))))) :: (q1, .inl (c1, 16, .inl (fun _ => 0))) :: (q2, .inl (c2, 3, .inl (fun _ => 0))) :: (q3, .inl (c3, 3, .inl (fun _ => 0))) :: (((([] ++ [(a4, .inr (3, [.ref hc0, .ref q0_6, .int 0, .int 0, .int 0, .int 0])), (q0_6, .inl (c0_6, 64, .inl (fun _ => 0)))]) ++ [(a7, .inr (3, [.ref hc0, .ref q0_9, .int 0, .int 0, .int 0, .int 0])), (q0_9, .inl (c0_9, 64, .inl (fun _ => 0)))]) ++ [(a10, .inr (3, [.ref hc0, .ref q0_12, .int 0, .int 0, .int 0, .int 0])), (q0_12, .inl (c0_12, 64, .inl (fun _ => 0)))]) ++ [(a13, .inr (3, [.ref hc0, .ref q0_15, .int 0, .int 0, .int 0, .int 0])), (q0_15, .inl (c0_15, 64, .inl (fun _ => 0)))])) _
  refine co_inc (j := 0) 4 [(2, .int 4), (0, .ref h0), (1, .ref hc0)] (ok_K_Se.dec 34 rfl rfl) rfl rfl (by decide +kernel) (Nat.le_of_ble_eq_true rfl) rfl ?_
  refine co_goto (tgt := 41) (ok_K_Se.dec 35 rfl rfl) rfl ?_
  refine co_ild 0 (ok_K_Se.dec 23 rfl rfl) rfl rfl ?_
  refine co_ic (4) (ok_K_Se.dec 24 rfl rfl) rfl (by decide) ?_
  refine co_gtF (tgt := 66) (ok_K_Se.dec 25 rfl rfl) rfl rfl (by decide +kernel) ?_
  refine co_ald 1 (ok_K_Se.dec 26 rfl rfl) rfl rfl ?_
  refine co_get (.ref q0) (fs := [.ref hc0, .ref q0, .ref q1, .ref q2, .ref q3]) (w' := (q0, .inl (c0, 5, .inr (.inr (.inr (.inr (va_up (va_up (va_up (va_up (fun _ => none) 0 (some a4)) 1 (some a7)) 2 (some a10)) 3 (some a13))))))) :: (q1, .inl (c1, 16, .inl (fun _ => 0))) :: (q2, .inl (c2, 3, .inl (fun _ => 0))) :: (q3, .inl (c3, 3, .inl (fun _ => 0))) :: (((([] ++ [(a4, .inr (3, [.ref hc0, .ref q0_6, .int 0, .int 0, .int 0, .int 0])), (q0_6, .inl (c0_6, 64, .inl (fun _ => 0)))]) ++ [(a7, .inr (3, [.ref hc0, .ref q0_9, .int 0, .int 0, .int 0, .int 0])), (q0_9, .inl (c0_9, 64, .inl (fun _ => 0)))]) ++ [(a10, .inr (3, [.ref hc0, .ref q0_12, .int 0, .int 0, .int 0, .int 0])), (q0_12, .inl (c0_12, 64, .inl (fun _ => 0)))]) ++ [(a13, .inr (3, [.ref hc0, .ref q0_15, .int 0, .int 0, .int 0, .int 0])), (q0_15, .inl (c0_15, 64, .inl (fun _ => 0)))])) (ok_K_Se.dec 27 rfl rfl) rfl fl_X7_13 rfl ?_
  refine co_ild 0 (ok_K_Se.dec 28 rfl rfl) rfl rfl ?_
  refine co_new (ci := 3) [.null, .null, .int 0, .int 0, .int 0, .int 0] (ok_K_Se.dec 29 rfl rfl) rfl (RX5, TX5, 6) rfl (Nat.le_of_ble_eq_true rfl) (wd1 175 rfl rfl) (wd1 104 rfl rfl) (wd1 5 rfl rfl) (fun j hj => by rcases (show j = 0 ∨ j = 1 ∨ j = 2 ∨ j = 3 ∨ j = 4 ∨ j = 5 by have : j < 6 := hj; omega) with rfl | rfl | rfl | rfl | rfl | rfl <;> rfl) (Nat.le_of_ble_eq_true rfl) (Nat.le_of_ble_eq_true rfl) (fun a16 => ?_)
  show COk _ _ _ _ _ _ _ _ _ ((h0, .inr (5, [.ref hc0, .ref q0, .ref q1, .ref q2, .ref q3])) :: (q0, .inl (c0, 5, .inr (.inr (.inr (.inr (va_up (va_up (va_up (va_up (fun _ => none) 0 (some a4)) 1 (some a7)) 2 (some a10)) 3 (some a13))))))) :: (q1, .inl (c1, 16, .inl (fun _ => 0))) :: (q2, .inl (c2, 3, .inl (fun _ => 0))) :: (q3, .inl (c3, 3, .inl (fun _ => 0))) :: ((((([] ++ [(a4, .inr (3, [.ref hc0, .ref q0_6, .int 0, .int 0, .int 0, .int 0])), (q0_6, .inl (c0_6, 64, .inl (fun _ => 0)))]) ++ [(a7, .inr (3, [.ref hc0, .ref q0_9, .int 0, .int 0, .int 0, .int 0])), (q0_9, .inl (c0_9, 64, .inl (fun _ => 0)))]) ++ [(a10, .inr (3, [.ref hc0, .ref q0_12, .int 0, .int 0, .int 0, .int 0])), (q0_12, .inl (c0_12, 64, .inl (fun _ => 0)))]) ++ [(a13, .inr (3, [.ref hc0, .ref q0_15, .int 0, .int 0, .int 0, .int 0])), (q0_15, .inl (c0_15, 64, .inl (fun _ => 0)))]) ++ [(a16, .inr (3, [.null, .null, .int 0, .int 0, .int 0, .int 0]))])) _
  refine co_dup (ok_K_Se.dec 30 rfl rfl) rfl rfl ?_
  refine co_ald 2 (ok_K_Se.dec 31 rfl rfl) rfl rfl ?_
  show COk _ _ _ _ _ _ _ _ _ (((h0, .inr (5, [.ref hc0, .ref q0, .ref q1, .ref q2, .ref q3])) :: (q0, .inl (c0, 5, .inr (.inr (.inr (.inr (va_up (va_up (va_up (va_up (fun _ => none) 0 (some a4)) 1 (some a7)) 2 (some a10)) 3 (some a13))))))) :: (q1, .inl (c1, 16, .inl (fun _ => 0))) :: (q2, .inl (c2, 3, .inl (fun _ => 0))) :: (q3, .inl (c3, 3, .inl (fun _ => 0))) :: (((([] ++ [(a4, .inr (3, [.ref hc0, .ref q0_6, .int 0, .int 0, .int 0, .int 0])), (q0_6, .inl (c0_6, 64, .inl (fun _ => 0)))]) ++ [(a7, .inr (3, [.ref hc0, .ref q0_9, .int 0, .int 0, .int 0, .int 0])), (q0_9, .inl (c0_9, 64, .inl (fun _ => 0)))]) ++ [(a10, .inr (3, [.ref hc0, .ref q0_12, .int 0, .int 0, .int 0, .int 0])), (q0_12, .inl (c0_12, 64, .inl (fun _ => 0)))]) ++ [(a13, .inr (3, [.ref hc0, .ref q0_15, .int 0, .int 0, .int 0, .int 0])), (q0_15, .inl (c0_15, 64, .inl (fun _ => 0)))])) ++ [(a16, .inr (3, [.null, .null, .int 0, .int 0, .int 0, .int 0]))]) _
  refine co_call (M' := K_Pe) (As := [.ref hc0]) (ok_K_Se.dec 32 rfl rfl) rfl (k_Pe D a16 hc0) (wd1 177 rfl rfl) (wd1 5 rfl rfl) (wd1 106 rfl rfl) rfl ny_Pe ⟨(Nat.le_of_ble_eq_true rfl), (Nat.le_of_ble_eq_true rfl)⟩ rfl (Nat.le_of_ble_eq_true rfl) ⟨(Nat.le_of_ble_eq_true rfl), (Nat.le_of_ble_eq_true rfl)⟩ (fun _ _ _ _ => trivial) (fun _ _ _ _ _ => trivial) (fun w17 t17 p17 => ?_)
  obtain ⟨q0_18, c0_18, e1_, e2_⟩ := p17
  subst e1_; subst e2_
  refine co_astQ (cA := c0) (n := 5) (f := (va_up (va_up (va_up (va_up (fun _ => none) 0 (some a4)) 1 (some a7)) 2 (some a10)) 3 (some a13))) (vs := [.ref hc0, .ref q0_18, .int 0, .int 0, .int 0, .int 0]) 1 0 ((h0, .inr (5, [.ref hc0, .ref q0, .ref q1, .ref q2, .ref q3])) :: (q0, .inl (c0, 5, .inr (.inr (.inr (.inr (va_up (va_up (va_up (va_up (fun _ => none) 0 (some a4)) 1 (some a7)) 2 (some a10)) 3 (some a13))))))) :: (q1, .inl (c1, 16, .inl (fun _ => 0))) :: (q2, .inl (c2, 3, .inl (fun _ => 0))) :: (q3, .inl (c3, 3, .inl (fun _ => 0))) :: (((([] ++ [(a4, .inr (3, [.ref hc0, .ref q0_6, .int 0, .int 0, .int 0, .int 0])), (q0_6, .inl (c0_6, 64, .inl (fun _ => 0)))]) ++ [(a7, .inr (3, [.ref hc0, .ref q0_9, .int 0, .int 0, .int 0, .int 0])), (q0_9, .inl (c0_9, 64, .inl (fun _ => 0)))]) ++ [(a10, .inr (3, [.ref hc0, .ref q0_12, .int 0, .int 0, .int 0, .int 0])), (q0_12, .inl (c0_12, 64, .inl (fun _ => 0)))]) ++ [(a13, .inr (3, [.ref hc0, .ref q0_15, .int 0, .int 0, .int 0, .int 0])), (q0_15, .inl (c0_15, 64, .inl (fun _ => 0)))]) : va_W).length 3 4 (RX5, TX5, 6) (ok_K_Se.dec 33 rfl rfl) rfl ?_ ?_ ?_ rfl ?_ ?_ ?_
  · rfl
  · rfl
  · exact ap_at _ _ _
  · unfold vp_in; decide +kernel
  · decide +kernel
  show COk _ _ _ _ _ _ _ _ _ ((h0, .inr (5, [.ref hc0, .ref q0, .ref q1, .ref q2, .ref q3])) :: (q0, .inl (c0, 5, .inr (.inr (.inr (.inr (va_up (va_up (va_up (va_up (va_up (fun _ => none) 0 (some a4)) 1 (some a7)) 2 (some a10)) 3 (some a13)) 4 (some a16))))))) :: (q1, .inl (c1, 16, .inl (fun _ => 0))) :: (q2, .inl (c2, 3, .inl (fun _ => 0))) :: (q3, .inl (c3, 3, .inl (fun _ => 0))) :: ((((([] ++ [(a4, .inr (3, [.ref hc0, .ref q0_6, .int 0, .int 0, .int 0, .int 0])), (q0_6, .inl (c0_6, 64, .inl (fun _ => 0)))]) ++ [(a7, .inr (3, [.ref hc0, .ref q0_9, .int 0, .int 0, .int 0, .int 0])), (q0_9, .inl (c0_9, 64, .inl (fun _ => 0)))]) ++ [(a10, .inr (3, [.ref hc0, .ref q0_12, .int 0, .int 0, .int 0, .int 0])), (q0_12, .inl (c0_12, 64, .inl (fun _ => 0)))]) ++ [(a13, .inr (3, [.ref hc0, .ref q0_15, .int 0, .int 0, .int 0, .int 0])), (q0_15, .inl (c0_15, 64, .inl (fun _ => 0)))]) ++ [(a16, .inr (3, [.ref hc0, .ref q0_18, .int 0, .int 0, .int 0, .int 0])), (q0_18, .inl (c0_18, 64, .inl (fun _ => 0)))])) _
  refine co_inc (j := 0) 5 [(2, .int 5), (0, .ref h0), (1, .ref hc0)] (ok_K_Se.dec 34 rfl rfl) rfl rfl (by decide +kernel) (Nat.le_of_ble_eq_true rfl) rfl ?_
  refine co_goto (tgt := 41) (ok_K_Se.dec 35 rfl rfl) rfl ?_
  refine co_ild 0 (ok_K_Se.dec 23 rfl rfl) rfl rfl ?_
  refine co_ic (4) (ok_K_Se.dec 24 rfl rfl) rfl (by decide) ?_
  refine co_gtT (tgt := 66) (ok_K_Se.dec 25 rfl rfl) rfl (by decide +kernel) ?_
  exact co_ret (ok_K_Se.dec 36 rfl rfl) rfl rfl ⟨q0, c0, q1, c1, q2, c2, q3, c3, q0_6, c0_6, a4, q0_9, c0_9, a7, q0_12, c0_12, a10, q0_15, c0_15, a13, q0_18, c0_18, a16, by simp only [List.nil_append, List.cons_append, List.append_assoc], by simp only [List.nil_append, List.cons_append, List.append_assoc]⟩
end
