def K_Mk : eM := (RX2, yX2_init, cX2_init, 1, none, { frames := 1, cells := 1, slots := 64, locals := 12 }, [(0, .aload_n 0, 1), (1, .invokespecial 3, 4), (4, .aload_n 0, 5), (5, .bipush 64, 7), (7, .newarray .long, 9), (9, .putfield 9, 12), (12, .return_, 13)])
theorem ok_K_Mk : okN K_Mk := okN_of (by decide +kernel) (wd1 74 rfl rfl) rfl rfl rfl
theorem ny_Mk : (eNm K_Mk).cls ≠ "java/lang/invoke/MethodHandle" ∧ (eNm K_Mk).cls ≠ "java/lang/invoke/VarHandle" ∧ (parseMethodDescriptor (eNm K_Mk).desc).map (fun d => d.parameters.length) = some 0 := ⟨by decide +kernel, by decide +kernel, by decide +kernel⟩
def Q_Mk (h0 : Nat) : va_W → kT → Prop := fun w tys => ∃ (q0 : Nat) (c0 : ClassId), w = (h0, .inr (1, [.ref q0])) :: (q0, .inl (c0, 64, .inr (.inl (fun _ => 0)))) :: [] ∧ tys = (c0, .long) :: []
set_option maxRecDepth 20000 in
theorem k_Mk (D : va_G) (h0 : Nat) : CM K_Mk D (fun _ => True) h0 [] (.inr (1, [.null])) (Q_Mk h0) := by
  refine CM.of ok_K_Mk rfl (Nat.le_of_ble_eq_true rfl) ?_
  show COk _ _ _ _ _ _ _ [(0, .ref h0)] _ _ _
  refine co_ald 0 (ok_K_Mk.dec 0 rfl rfl) rfl rfl ?_
  refine co_obj (ok_K_Mk.dec 1 rfl rfl) rfl (wd1 75 rfl rfl) (wd1 25 rfl rfl) (wd1 26 rfl rfl) (Nat.le_of_ble_eq_true rfl) (Nat.le_of_ble_eq_true rfl) ?_
  refine co_ald 0 (ok_K_Mk.dec 2 rfl rfl) rfl rfl ?_
  refine co_bp (64) (ok_K_Mk.dec 3 rfl rfl) rfl (by decide) ?_
  refine co_newl 64 (ok_K_Mk.dec 4 rfl rfl) rfl (wd1 80 rfl rfl) (by decide) (by decide) (Nat.le_of_ble_eq_true rfl) (Nat.le_of_ble_eq_true rfl) (Nat.le_of_ble_eq_true rfl) (fun q0 c0 => ?_)
  show COk _ _ _ _ _ _ _ _ _ ((h0, .inr (1, [.null])) :: (q0, .inl (c0, 64, .inr (.inl (fun _ => 0)))) :: []) _
  refine co_putF (ty := .array .long) (v := .ref q0) (fs := [.null]) (w' := (q0, .inl (c0, 64, .inr (.inl (fun _ => 0)))) :: []) (ok_K_Mk.dec 5 rfl rfl) rfl fl_X2_9 rfl rfl rfl rfl rfl (Nat.le_of_ble_eq_true rfl) ?_
  show COk _ _ _ _ _ _ _ _ _ ((h0, .inr (1, [.ref q0])) :: (q0, .inl (c0, 64, .inr (.inl (fun _ => 0)))) :: []) _
  exact co_ret (ok_K_Mk.dec 6 rfl rfl) rfl rfl ⟨q0, c0, rfl, by simp only [List.nil_append, List.cons_append, List.append_assoc]⟩
