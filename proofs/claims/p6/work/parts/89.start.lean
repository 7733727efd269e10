set_option maxHeartbeats 4000000 in
set_option maxRecDepth 100000 in
/-- THE LAW, from its entry -/
theorem whole_start {p : Program} {e : Env} {s : State} {m : MethodId} {below : List Frame} {meth : Method} {c : Code} (l : Launch) (hflags : l.flags = flags0) {b L : Nat} {xs : Nat → Int32} (hL : L ≤ 4096) (C0 : lw_At p s m meth c b L xs) : W p l e room_1 s m #[Value.ref b] below meth c s.heap [] 0 0 (lw_Z below #[Value.ref b] s) (entryFrame m ([Value.ref b] : List Value).toArray 4) := by
  obtain ⟨hx, hb, hr, hml, hown, hts0, hX, hbl, hlocks, hgv⟩ := id C0
  have hts : ∀ w ∈ eTbl, w.before #[Value.ref b] s = true := fun w hw => hts0 w (eTbl_in hw)
  have hA : ∀ q : Nat, s.heap.size ≤ q → (fun q : Nat => s.heap.size ≤ q) q := fun _ h => h
  obtain ⟨D, hKc⟩ := z_K hts
  have hS : va_S (fun q : Nat => s.heap.size ≤ q) s.heap s.heap [] := va_S.rf
  have hK : va_K D eCl [] s := ⟨hKc, fun k q h => by simp at h⟩
  have hP : va_P D eCl [] s.heap := fun k q h => by simp at h
  have hD : va_D (fun q : Nat => s.heap.size ≤ q) [] := ⟨fun i j p q h => by simp at h, fun k q h => by simp at h⟩
  have hl := lv_entry ([.ref b]) (n := 4) (Nat.le_of_ble_eq_true rfl)
  rw [lg_entry_eq]
  generalize (lg_sl ([.ref b]) ++ List.replicate (4 - (lg_sl ([.ref b])).length) Slot.unset).toArray = ls at hl ⊢
  have hl : lv_has ls 4 [(0, .ref b)] := hl
  have hN : N_Ev s := z_N hts0
  refine va_new (ci := 9) (fs := [.null, .null, .null, .null, .null, .null, .null, .null, .null]) (C := RX11) (T := TX11) (N := 9) hx hb hts (eCl_in (ci := 9) rfl) (eTyOf.getD 9 (fun _ => .int)) (eCl_ty 9 (Nat.le_of_ble_eq_true rfl) _ rfl) hown (hts _ (wd1 19 rfl rfl)) (hts _ (wd1 20 rfl rfl)) (hts _ (wd1 1 rfl rfl)) hK hP hD hS hA rfl z_fsX11 (Nat.le_of_ble_eq_true rfl) (Nat.le_of_ble_eq_true rfl) (tS_ok.d 0 rfl rfl) (fun hE H hP hD hS => ?_)
  refine lv_dup hx hb (tS_ok.d 1 rfl rfl) rfl ?_
  refine lo_ctor C0 (tS_ok.d 2 rfl rfl) (k_Ev D hE) (wd1 21 rfl rfl) (wd1 1 rfl rfl) (wd1 22 rfl rfl) rfl ⟨by decide, by decide, rfl⟩ ⟨(Nat.le_of_ble_eq_true rfl), (Nat.le_of_ble_eq_true rfl)⟩ ⟨(Nat.le_of_ble_eq_true rfl), (Nat.le_of_ble_eq_true rfl)⟩ (fun U hW => z_NW hN hW) z_NB hl.1 (Nat.le_of_ble_eq_true rfl) hK hP hD hS (fun wEv tEv H locs qEv hK hP hD hS => ?_)
  refine lv_astore_n (lv' := [(1, .ref hE), (0, .ref b)]) hx hb (tS_ok.d 3 rfl rfl) rfl hl (by decide) rfl (fun ls hl => ?_)
  refine va_new (ci := 10) (fs := [.null, .null, .null, .null, .long 0, .null, .int 0, .int 0, .int 0, .int 0, .int 0, .int 0, .int 0, .int 0, .int 0, .int 0, .null, .null, .int 0, .int 0, .null, .null, .int 0, .null, .null, .null, .null, .int 0, .int 0, .int 0, .int 0, .int 0, .null, .null, .null, .null, .null, .null, .null, .null, .null, .null, .int 0]) (C := RX12) (T := TX12) (N := 43) hx hb hts (eCl_in (ci := 10) rfl) (eTyOf.getD 10 (fun _ => .int)) (eCl_ty 10 (Nat.le_of_ble_eq_true rfl) _ rfl) hown (hts _ (wd4 225 rfl rfl)) (hts _ (wd4 226 rfl rfl)) (hts _ (wd1 11 rfl rfl)) hK hP hD hS hA rfl z_fsX12 (Nat.le_of_ble_eq_true rfl) (Nat.le_of_ble_eq_true rfl) (tS_ok.d 4 rfl rfl) (fun hM H hP hD hS => ?_)
  refine lv_dup hx hb (tS_ok.d 5 rfl rfl) rfl ?_
  refine lo_ctor C0 (tS_ok.d 6 rfl rfl) (k_Mo D hM) (wd4 227 rfl rfl) (wd1 11 rfl rfl) (wd4 228 rfl rfl) rfl ⟨by decide, by decide, rfl⟩ ⟨(Nat.le_of_ble_eq_true rfl), (Nat.le_of_ble_eq_true rfl)⟩ ⟨(Nat.le_of_ble_eq_true rfl), (Nat.le_of_ble_eq_true rfl)⟩ (fun _ _ => trivial) (fun _ _ _ _ _ => trivial) hl.1 (Nat.le_of_ble_eq_true rfl) hK hP hD hS (fun wMo tMo H locs qMo hK hP hD hS => ?_)
  refine lv_astore_n (lv' := [(2, .ref hM), (1, .ref hE), (0, .ref b)]) hx hb (tS_ok.d 7 rfl rfl) rfl hl (by decide) rfl (fun ls hl => ?_)
  refine lv_iconst (v := 0) hx hb (tS_ok.d 8 rfl rfl) (by decide) ?_
  refine lv_istore_n (lv' := [(3, .int 0), (2, .ref hM), (1, .ref hE), (0, .ref b)]) hx hb (tS_ok.d 9 rfl rfl) rfl hl (by decide) rfl (fun ls hl => ?_)
  obtain ⟨dA, ad, a0, hfA, htA⟩ := zA_asm qEv
  obtain ⟨dB, bd, b0, hfB, htB⟩ := zB_asm qMo
  obtain ⟨hC, hH⟩ := z_LC C0 (t1 := tEv) (t2 := tMo) hK (w1 := wEv) (w2 := wMo) hP hD hS hfA htA hfB htB
  exact lw_lp hL (Nat.le_of_ble_eq_true rfl) (Nat.le_of_ble_eq_true rfl) L 0 zA zB (by omega) (by omega) (by omega) z_JJ l p e s m below meth c D dA ad dB bd H locs ls hC hH (z_ls hl a0 b0) trivial
