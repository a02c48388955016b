def iQ : Nat → Int32 := fun j => match j with
  | 0 => nI 4
  | 1 => nI 10
  | 2 => nI 4
  | 3 => (-1)
  | 6 => (-6)
  | 11 => (-6)
  | _ => nI 0
def oQ : Nat → Int32 := fun _ => 0
theorem yI_X3 : yI yX3_init cX3_init 1 := ⟨yi_X3_init.1, yi_X3_init.2.1, yi_X3_init.2.2, rfl, by decide, by decide, by decide +kernel⟩
theorem yI_X2 : yI yX2_init cX2_init 1 := ⟨yi_X2_init.1, yi_X2_init.2.1, yi_X2_init.2.2, rfl, by decide, by decide, by decide +kernel⟩
theorem yI_X1 : yI yX1_init cX1_init 2 := ⟨yi_X1_init.1, yi_X1_init.2.1, yi_X1_init.2.2, rfl, by decide, by decide, by decide +kernel⟩
theorem yI_X0 : yI yX0_init cX0_init 2 := ⟨yi_X0_init.1, yi_X0_init.2.1, yi_X0_init.2.2, rfl, by decide, by decide, by decide +kernel⟩
theorem yI_X4 : yI yX4_init cX4_init 2 := ⟨yi_X4_init.1, yi_X4_init.2.1, yi_X4_init.2.2, rfl, by decide, by decide, by decide +kernel⟩
set_option maxHeartbeats 4000000 in
set_option maxRecDepth 100000 in
theorem c_X3_init (l : Launch) (D : va_G) (k : Nat → ClassId) (b : Nat) : mC l yX3_init (wsY yX3_init cX3_init 1 none) 1 0 0 D k [.ref b] [qC b oQ] (fun w => w = [qC b iQ]) := by
  refine mC_intro rfl rfl (Nat.le_of_ble_eq_true rfl) ?_
  intro p e s m args below meth c A Q ls X hW hl hmn hQ
  have hx := X.hx
  have hb := X.hb
  have hl : lv_has ls 1 [(0, .ref b)] := hl
  refine lv_aload_n hx hb dX3_init_0 rfl (lv_at hl 0 rfl) ?_
  refine k_obj X lk_X3_3 hl.1 ⟨Nat.le_of_ble_eq_true rfl, Nat.le_of_ble_eq_true rfl⟩ dX3_init_1 ?_
  refine lv_aload_n hx hb dX3_init_4 rfl (lv_at hl 0 rfl) ?_
  refine lv_iconst (v := nI 4) hx hb dX3_init_5 (by decide +kernel) ?_
  refine k_put X hW inG3 rfl tyX3_ok nmX3 0 (by decide) fl_X3_9 rfl rfl 0 rfl rfl rfl (Nat.le_of_ble_eq_true rfl) dX3_init_6 (w' := [qC b (upd oQ 0 (nI 4))]) rfl (fun H locs hW => ?_)
  refine lv_aload_n hx hb dX3_init_9 rfl (lv_at hl 0 rfl) ?_
  refine lv_bipush (v := nI 10) hx hb dX3_init_10 (by decide +kernel) ?_
  refine k_put X hW inG3 rfl tyX3_ok nmX3 1 (by decide) fl_X3_15 rfl rfl 0 rfl rfl rfl (Nat.le_of_ble_eq_true rfl) dX3_init_12 (w' := [qC b (upd (upd oQ 0 (nI 4)) 1 (nI 10))]) rfl (fun H locs hW => ?_)
  refine lv_aload_n hx hb dX3_init_15 rfl (lv_at hl 0 rfl) ?_
  refine lv_iconst (v := nI 4) hx hb dX3_init_16 (by decide +kernel) ?_
  refine k_put X hW inG3 rfl tyX3_ok nmX3 2 (by decide) fl_X3_18 rfl rfl 0 rfl rfl rfl (Nat.le_of_ble_eq_true rfl) dX3_init_17 (w' := [qC b (upd (upd (upd oQ 0 (nI 4)) 1 (nI 10)) 2 (nI 4))]) rfl (fun H locs hW => ?_)
  refine lv_aload_n hx hb dX3_init_20 rfl (lv_at hl 0 rfl) ?_
  refine lv_iconst (v := (-1)) hx hb dX3_init_21 (by decide +kernel) ?_
  refine k_put X hW inG3 rfl tyX3_ok nmX3 3 (by decide) fl_X3_21 rfl rfl 0 rfl rfl rfl (Nat.le_of_ble_eq_true rfl) dX3_init_22 (w' := [qC b (upd (upd (upd (upd oQ 0 (nI 4)) 1 (nI 10)) 2 (nI 4)) 3 (-1))]) rfl (fun H locs hW => ?_)
  refine lv_aload_n hx hb dX3_init_25 rfl (lv_at hl 0 rfl) ?_
  refine lv_iconst (v := nI 0) hx hb dX3_init_26 (by decide +kernel) ?_
  refine k_put X hW inG3 rfl tyX3_ok nmX3 4 (by decide) fl_X3_24 rfl rfl 0 rfl rfl rfl (Nat.le_of_ble_eq_true rfl) dX3_init_27 (w' := [qC b (upd (upd (upd (upd (upd oQ 0 (nI 4)) 1 (nI 10)) 2 (nI 4)) 3 (-1)) 4 (nI 0))]) rfl (fun H locs hW => ?_)
  refine lv_aload_n hx hb dX3_init_30 rfl (lv_at hl 0 rfl) ?_
  refine lv_iconst (v := nI 0) hx hb dX3_init_31 (by decide +kernel) ?_
  refine k_put X hW inG3 rfl tyX3_ok nmX3 5 (by decide) fl_X3_28 rfl rfl 0 rfl rfl rfl (Nat.le_of_ble_eq_true rfl) dX3_init_32 (w' := [qC b (upd (upd (upd (upd (upd (upd oQ 0 (nI 4)) 1 (nI 10)) 2 (nI 4)) 3 (-1)) 4 (nI 0)) 5 (nI 0))]) rfl (fun H locs hW => ?_)
  refine lv_aload_n hx hb dX3_init_35 rfl (lv_at hl 0 rfl) ?_
  refine lv_bipush (v := (-6)) hx hb dX3_init_36 (by decide +kernel) ?_
  refine k_put X hW inG3 rfl tyX3_ok nmX3 6 (by decide) fl_X3_31 rfl rfl 0 rfl rfl rfl (Nat.le_of_ble_eq_true rfl) dX3_init_38 (w' := [qC b (upd (upd (upd (upd (upd (upd (upd oQ 0 (nI 4)) 1 (nI 10)) 2 (nI 4)) 3 (-1)) 4 (nI 0)) 5 (nI 0)) 6 (-6))]) rfl (fun H locs hW => ?_)
  refine lv_aload_n hx hb dX3_init_41 rfl (lv_at hl 0 rfl) ?_
  refine lv_iconst (v := nI 0) hx hb dX3_init_42 (by decide +kernel) ?_
  refine k_put X hW inG3 rfl tyX3_ok nmX3 7 (by decide) fl_X3_34 rfl rfl 0 rfl rfl rfl (Nat.le_of_ble_eq_true rfl) dX3_init_43 (w' := [qC b (upd (upd (upd (upd (upd (upd (upd (upd oQ 0 (nI 4)) 1 (nI 10)) 2 (nI 4)) 3 (-1)) 4 (nI 0)) 5 (nI 0)) 6 (-6)) 7 (nI 0))]) rfl (fun H locs hW => ?_)
  refine lv_aload_n hx hb dX3_init_46 rfl (lv_at hl 0 rfl) ?_
  refine lv_iconst (v := nI 0) hx hb dX3_init_47 (by decide +kernel) ?_
  refine k_put X hW inG3 rfl tyX3_ok nmX3 8 (by decide) fl_X3_37 rfl rfl 0 rfl rfl rfl (Nat.le_of_ble_eq_true rfl) dX3_init_48 (w' := [qC b (upd (upd (upd (upd (upd (upd (upd (upd (upd oQ 0 (nI 4)) 1 (nI 10)) 2 (nI 4)) 3 (-1)) 4 (nI 0)) 5 (nI 0)) 6 (-6)) 7 (nI 0)) 8 (nI 0))]) rfl (fun H locs hW => ?_)
  refine lv_aload_n hx hb dX3_init_51 rfl (lv_at hl 0 rfl) ?_
  refine lv_iconst (v := nI 0) hx hb dX3_init_52 (by decide +kernel) ?_
  refine k_put X hW inG3 rfl tyX3_ok nmX3 9 (by decide) fl_X3_40 rfl rfl 0 rfl rfl rfl (Nat.le_of_ble_eq_true rfl) dX3_init_53 (w' := [qC b (upd (upd (upd (upd (upd (upd (upd (upd (upd (upd oQ 0 (nI 4)) 1 (nI 10)) 2 (nI 4)) 3 (-1)) 4 (nI 0)) 5 (nI 0)) 6 (-6)) 7 (nI 0)) 8 (nI 0)) 9 (nI 0))]) rfl (fun H locs hW => ?_)
  refine lv_aload_n hx hb dX3_init_56 rfl (lv_at hl 0 rfl) ?_
  refine lv_iconst (v := nI 0) hx hb dX3_init_57 (by decide +kernel) ?_
  refine k_put X hW inG3 rfl tyX3_ok nmX3 10 (by decide) fl_X3_43 rfl rfl 0 rfl rfl rfl (Nat.le_of_ble_eq_true rfl) dX3_init_58 (w' := [qC b (upd (upd (upd (upd (upd (upd (upd (upd (upd (upd (upd oQ 0 (nI 4)) 1 (nI 10)) 2 (nI 4)) 3 (-1)) 4 (nI 0)) 5 (nI 0)) 6 (-6)) 7 (nI 0)) 8 (nI 0)) 9 (nI 0)) 10 (nI 0))]) rfl (fun H locs hW => ?_)
  refine lv_aload_n hx hb dX3_init_61 rfl (lv_at hl 0 rfl) ?_
  refine lv_bipush (v := (-6)) hx hb dX3_init_62 (by decide +kernel) ?_
  refine k_put X hW inG3 rfl tyX3_ok nmX3 11 (by decide) fl_X3_46 rfl rfl 0 rfl rfl rfl (Nat.le_of_ble_eq_true rfl) dX3_init_64 (w' := [qC b (upd (upd (upd (upd (upd (upd (upd (upd (upd (upd (upd (upd oQ 0 (nI 4)) 1 (nI 10)) 2 (nI 4)) 3 (-1)) 4 (nI 0)) 5 (nI 0)) 6 (-6)) 7 (nI 0)) 8 (nI 0)) 9 (nI 0)) 10 (nI 0)) 11 (-6))]) rfl (fun H locs hW => ?_)
  refine lv_aload_n hx hb dX3_init_67 rfl (lv_at hl 0 rfl) ?_
  refine lv_iconst (v := nI 0) hx hb dX3_init_68 (by decide +kernel) ?_
  refine k_put X hW inG3 rfl tyX3_ok nmX3 12 (by decide) fl_X3_49 rfl rfl 0 rfl rfl rfl (Nat.le_of_ble_eq_true rfl) dX3_init_69 (w' := [qC b (upd (upd (upd (upd (upd (upd (upd (upd (upd (upd (upd (upd (upd oQ 0 (nI 4)) 1 (nI 10)) 2 (nI 4)) 3 (-1)) 4 (nI 0)) 5 (nI 0)) 6 (-6)) 7 (nI 0)) 8 (nI 0)) 9 (nI 0)) 10 (nI 0)) 11 (-6)) 12 (nI 0))]) rfl (fun H locs hW => ?_)
  exact hQ _ _ _ _ _ hW dX3_init_72 rfl
def iP : Nat → Int32 := fun j => match j with
  | 4 => nI 109
  | _ => nI 0
set_option maxHeartbeats 4000000 in
set_option maxRecDepth 100000 in
theorem c_X2_init (l : Launch) (D : va_G) (k : Nat → ClassId) (b : Nat) : mC l yX2_init (wsY yX2_init cX2_init 1 none) 1 1 80 D k [.ref b] [(b, .inr (2, [.null, .int 0, .int 0, .int 0, .int 0, .int 0, .int 0, .int 0, .int 0]))] (fun w => ∃ q, w = padW k b q iP oQ) := by
  refine mC_intro rfl rfl (Nat.le_of_ble_eq_true rfl) ?_
  intro p e s m args below meth c A Q ls X hW hl hmn hQ
  have hx := X.hx
  have hb := X.hb
  have hl : lv_has ls 1 [(0, .ref b)] := hl
  refine lv_aload_n hx hb dX2_init_0 rfl (lv_at hl 0 rfl) ?_
  refine k_obj X lk_X2_3 hl.1 ⟨Nat.le_of_ble_eq_true rfl, Nat.le_of_ble_eq_true rfl⟩ dX2_init_1 ?_
  refine lv_aload_n hx hb dX2_init_4 rfl (lv_at hl 0 rfl) ?_
  refine lv_bipush (v := nI 80) hx hb dX2_init_5 (by decide +kernel) ?_
  refine k_newa X hW ac_char rfl 2 rfl (fun _ _ h => h) (N' := 80) (a0 := (80, .inl oQ)) (fun _ => rfl) rfl (by decide) (by decide) ⟨Nat.le_of_ble_eq_true rfl, Nat.le_of_ble_eq_true rfl⟩ dX2_init_7 (fun q H hW => ?_)
  refine k_putF X hW hmn inG2 rfl tyX2_ok nmX2 0 (by decide) fl_X2_11 rfl rfl 0 rfl rfl rfl (Nat.le_of_ble_eq_true rfl) dX2_init_9 (w' := padW k b q oQ oQ) rfl (fun H locs hW => ?_)
  refine lv_aload_n hx hb dX2_init_12 rfl (lv_at hl 0 rfl) ?_
  refine lv_iconst (v := nI 0) hx hb dX2_init_13 (by decide +kernel) ?_
  refine k_put X hW inG2 rfl tyX2_ok nmX2 1 (by decide) fl_X2_15 rfl rfl 0 rfl rfl rfl (Nat.le_of_ble_eq_true rfl) dX2_init_14 (w' := padW k b q (upd oQ 1 (nI 0)) oQ) rfl (fun H locs hW => ?_)
  refine lv_aload_n hx hb dX2_init_17 rfl (lv_at hl 0 rfl) ?_
  refine lv_iconst (v := nI 0) hx hb dX2_init_18 (by decide +kernel) ?_
  refine k_put X hW inG2 rfl tyX2_ok nmX2 2 (by decide) fl_X2_19 rfl rfl 0 rfl rfl rfl (Nat.le_of_ble_eq_true rfl) dX2_init_19 (w' := padW k b q (upd (upd oQ 1 (nI 0)) 2 (nI 0)) oQ) rfl (fun H locs hW => ?_)
  refine lv_aload_n hx hb dX2_init_22 rfl (lv_at hl 0 rfl) ?_
  refine lv_iconst (v := nI 0) hx hb dX2_init_23 (by decide +kernel) ?_
  refine k_put X hW inG2 rfl tyX2_ok nmX2 3 (by decide) fl_X2_22 rfl rfl 0 rfl rfl rfl (Nat.le_of_ble_eq_true rfl) dX2_init_24 (w' := padW k b q (upd (upd (upd oQ 1 (nI 0)) 2 (nI 0)) 3 (nI 0)) oQ) rfl (fun H locs hW => ?_)
  refine lv_aload_n hx hb dX2_init_27 rfl (lv_at hl 0 rfl) ?_
  refine lv_bipush (v := nI 109) hx hb dX2_init_28 (by decide +kernel) ?_
  refine k_put X hW inG2 rfl tyX2_ok nmX2 4 (by decide) fl_X2_26 rfl rfl 0 rfl rfl rfl (Nat.le_of_ble_eq_true rfl) dX2_init_30 (w' := padW k b q (upd (upd (upd (upd oQ 1 (nI 0)) 2 (nI 0)) 3 (nI 0)) 4 (nI 109)) oQ) rfl (fun H locs hW => ?_)
  refine lv_aload_n hx hb dX2_init_33 rfl (lv_at hl 0 rfl) ?_
  refine lv_iconst (v := nI 0) hx hb dX2_init_34 (by decide +kernel) ?_
  refine k_put X hW inG2 rfl tyX2_ok nmX2 5 (by decide) fl_X2_30 rfl rfl 0 rfl rfl rfl (Nat.le_of_ble_eq_true rfl) dX2_init_35 (w' := padW k b q (upd (upd (upd (upd (upd oQ 1 (nI 0)) 2 (nI 0)) 3 (nI 0)) 4 (nI 109)) 5 (nI 0)) oQ) rfl (fun H locs hW => ?_)
  refine lv_aload_n hx hb dX2_init_38 rfl (lv_at hl 0 rfl) ?_
  refine lv_iconst (v := nI 0) hx hb dX2_init_39 (by decide +kernel) ?_
  refine k_put X hW inG2 rfl tyX2_ok nmX2 6 (by decide) fl_X2_33 rfl rfl 0 rfl rfl rfl (Nat.le_of_ble_eq_true rfl) dX2_init_40 (w' := padW k b q (upd (upd (upd (upd (upd (upd oQ 1 (nI 0)) 2 (nI 0)) 3 (nI 0)) 4 (nI 109)) 5 (nI 0)) 6 (nI 0)) oQ) rfl (fun H locs hW => ?_)
  refine lv_aload_n hx hb dX2_init_43 rfl (lv_at hl 0 rfl) ?_
  refine lv_iconst (v := nI 0) hx hb dX2_init_44 (by decide +kernel) ?_
  refine k_put X hW inG2 rfl tyX2_ok nmX2 7 (by decide) fl_X2_36 rfl rfl 0 rfl rfl rfl (Nat.le_of_ble_eq_true rfl) dX2_init_45 (w' := padW k b q (upd (upd (upd (upd (upd (upd (upd oQ 1 (nI 0)) 2 (nI 0)) 3 (nI 0)) 4 (nI 109)) 5 (nI 0)) 6 (nI 0)) 7 (nI 0)) oQ) rfl (fun H locs hW => ?_)
  refine lv_aload_n hx hb dX2_init_48 rfl (lv_at hl 0 rfl) ?_
  refine lv_iconst (v := nI 0) hx hb dX2_init_49 (by decide +kernel) ?_
  refine k_put X hW inG2 rfl tyX2_ok nmX2 8 (by decide) fl_X2_39 rfl rfl 0 rfl rfl rfl (Nat.le_of_ble_eq_true rfl) dX2_init_50 (w' := padW k b q (upd (upd (upd (upd (upd (upd (upd (upd oQ 1 (nI 0)) 2 (nI 0)) 3 (nI 0)) 4 (nI 109)) 5 (nI 0)) 6 (nI 0)) 7 (nI 0)) 8 (nI 0)) oQ) rfl (fun H locs hW => ?_)
  exact hQ _ _ _ _ _ hW dX2_init_53 ⟨_, rfl⟩
