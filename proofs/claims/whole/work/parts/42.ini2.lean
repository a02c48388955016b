def iRf : Nat → Int32 := (m_X5_lays_f (m_X5_lays_f (m_X5_lays_f (m_X5_lays_f (m_X5_lays_f (m_X5_lays_f (m_X5_lays_f (m_X5_lays_f (m_X5_lays_f (m_X5_lays_f (m_X5_lays_f (m_X5_lays_f (upd (upd (upd oQ 0 (nI 16)) 1 (nI 4)) 3 (nI 6)) 0 0 (nI 4)) 0 1 (nI 10)) 0 2 (nI 4)) 0 8 (-6)) 1 0 (nI 4)) 1 1 (nI 10)) 1 2 (nI 4)) 1 8 (-6)) 2 0 (nI 4)) 2 1 (nI 10)) 2 2 (nI 4)) 2 8 (-6))
set_option maxHeartbeats 4000000 in
set_option maxRecDepth 100000 in
theorem c_X5_init (l : Launch) (D : va_G) (k : Nat → ClassId) (b : Nat) : mC l yX5_init (wsY yX5_init cX5_init 2 none) 1 7 16485 D k [.ref b] [(b, .inr (5, [.null, .null, .null, .int 0, .null, .null, .null, .int 0, .int 0, .int 0, .null]))] (fun w => ∃ a : Nat → Nat, a 0 = b ∧ w = refW k a oQ iRf oQ oQ oQ oQ oQ oQ) := by
  refine mC_intro rfl rfl (Nat.le_of_ble_eq_true rfl) ?_
  intro p e s m args below meth c A Q ls X hW hl hmn hQ
  have hx := X.hx
  have hb := X.hb
  have hl : lv_has ls 2 [(0, .ref b)] := hl
  refine lv_aload_n hx hb dX5_init_0 rfl (lv_at hl 0 rfl) ?_
  refine k_obj X lk_X5_1 hl.1 ⟨Nat.le_of_ble_eq_true rfl, Nat.le_of_ble_eq_true rfl⟩ dX5_init_1 ?_
  refine lv_aload_n hx hb dX5_init_4 rfl (lv_at hl 0 rfl) ?_
  refine lv_sipush (v := nI 1640) hx hb dX5_init_5 (by decide +kernel) ?_
  refine k_newa X hW ac_int rfl 0 rfl (fun _ _ h => h) (N' := 1640) (a0 := (1640, .inl oQ)) (fun _ => rfl) rfl (by decide) (by decide) ⟨Nat.le_of_ble_eq_true rfl, Nat.le_of_ble_eq_true rfl⟩ dX5_init_8 (fun q1 H hW => ?_)
  refine k_putF X hW hmn inG5 rfl tyX5_ok nmX5 0 (by decide) fl_X5_7 rfl rfl 0 rfl rfl rfl (Nat.le_of_ble_eq_true rfl) dX5_init_10 (w' := [(b, .inr (5, [.ref q1, .null, .null, .int 0, .null, .null, .null, .int 0, .int 0, .int 0, .null])), (q1, .inl (k 0, 1640, .inl oQ))]) rfl (fun H locs hW => ?_)
  refine lv_aload_n hx hb dX5_init_13 rfl (lv_at hl 0 rfl) ?_
  refine lv_sipush (v := nI 1640) hx hb dX5_init_14 (by decide +kernel) ?_
  refine k_newa X hW ac_int rfl 0 rfl (fun _ _ h => h) (N' := 1640) (a0 := (1640, .inl oQ)) (fun _ => rfl) rfl (by decide) (by decide) ⟨Nat.le_of_ble_eq_true rfl, Nat.le_of_ble_eq_true rfl⟩ dX5_init_17 (fun q2 H hW => ?_)
  refine k_putF X hW hmn inG5 rfl tyX5_ok nmX5 1 (by decide) fl_X5_13 rfl rfl 0 rfl rfl rfl (Nat.le_of_ble_eq_true rfl) dX5_init_19 (w' := [(b, .inr (5, [.ref q1, .ref q2, .null, .int 0, .null, .null, .null, .int 0, .int 0, .int 0, .null])), (q1, .inl (k 0, 1640, .inl oQ)), (q2, .inl (k 0, 1640, .inl oQ))]) rfl (fun H locs hW => ?_)
  refine lv_aload_n hx hb dX5_init_22 rfl (lv_at hl 0 rfl) ?_
  refine lv_sipush (v := nI 9840) hx hb dX5_init_23 (by decide +kernel) ?_
  refine k_newa X hW ac_int rfl 0 rfl (fun _ _ h => h) (N' := 9840) (a0 := (9840, .inl oQ)) (fun _ => rfl) rfl (by decide) (by decide) ⟨Nat.le_of_ble_eq_true rfl, Nat.le_of_ble_eq_true rfl⟩ dX5_init_26 (fun q3 H hW => ?_)
  refine k_putF X hW hmn inG5 rfl tyX5_ok nmX5 2 (by decide) fl_X5_16 rfl rfl 0 rfl rfl rfl (Nat.le_of_ble_eq_true rfl) dX5_init_28 (w' := [(b, .inr (5, [.ref q1, .ref q2, .ref q3, .int 0, .null, .null, .null, .int 0, .int 0, .int 0, .null])), (q1, .inl (k 0, 1640, .inl oQ)), (q2, .inl (k 0, 1640, .inl oQ)), (q3, .inl (k 0, 9840, .inl oQ))]) rfl (fun H locs hW => ?_)
  refine lv_aload_n hx hb dX5_init_31 rfl (lv_at hl 0 rfl) ?_
  refine lv_sipush (v := nI 3280) hx hb dX5_init_32 (by decide +kernel) ?_
  refine k_newa X hW ac_int rfl 0 rfl (fun _ _ h => h) (N' := 3280) (a0 := (3280, .inl oQ)) (fun _ => rfl) rfl (by decide) (by decide) ⟨Nat.le_of_ble_eq_true rfl, Nat.le_of_ble_eq_true rfl⟩ dX5_init_35 (fun q4 H hW => ?_)
  refine k_putF X hW hmn inG5 rfl tyX5_ok nmX5 4 (by decide) fl_X5_19 rfl rfl 0 rfl rfl rfl (Nat.le_of_ble_eq_true rfl) dX5_init_37 (w' := [(b, .inr (5, [.ref q1, .ref q2, .ref q3, .int 0, .ref q4, .null, .null, .int 0, .int 0, .int 0, .null])), (q1, .inl (k 0, 1640, .inl oQ)), (q2, .inl (k 0, 1640, .inl oQ)), (q3, .inl (k 0, 9840, .inl oQ)), (q4, .inl (k 0, 3280, .inl oQ))]) rfl (fun H locs hW => ?_)
  refine lv_aload_n hx hb dX5_init_40 rfl (lv_at hl 0 rfl) ?_
  refine lv_iconst (v := nI 2) hx hb dX5_init_41 (by decide +kernel) ?_
  refine k_newa X hW ac_int rfl 0 rfl (fun _ _ h => h) (N' := 2) (a0 := (2, .inl oQ)) (fun _ => rfl) rfl (by decide) (by decide) ⟨Nat.le_of_ble_eq_true rfl, Nat.le_of_ble_eq_true rfl⟩ dX5_init_42 (fun q5 H hW => ?_)
  refine k_putF X hW hmn inG5 rfl tyX5_ok nmX5 5 (by decide) fl_X5_22 rfl rfl 0 rfl rfl rfl (Nat.le_of_ble_eq_true rfl) dX5_init_44 (w' := [(b, .inr (5, [.ref q1, .ref q2, .ref q3, .int 0, .ref q4, .ref q5, .null, .int 0, .int 0, .int 0, .null])), (q1, .inl (k 0, 1640, .inl oQ)), (q2, .inl (k 0, 1640, .inl oQ)), (q3, .inl (k 0, 9840, .inl oQ)), (q4, .inl (k 0, 3280, .inl oQ)), (q5, .inl (k 0, 2, .inl oQ))]) rfl (fun H locs hW => ?_)
  refine lv_aload_n hx hb dX5_init_47 rfl (lv_at hl 0 rfl) ?_
  refine lv_bipush (v := nI 80) hx hb dX5_init_48 (by decide +kernel) ?_
  refine k_newa X hW ac_int rfl 0 rfl (fun _ _ h => h) (N' := 80) (a0 := (80, .inl oQ)) (fun _ => rfl) rfl (by decide) (by decide) ⟨Nat.le_of_ble_eq_true rfl, Nat.le_of_ble_eq_true rfl⟩ dX5_init_50 (fun q6 H hW => ?_)
  refine k_putF X hW hmn inG5 rfl tyX5_ok nmX5 6 (by decide) fl_X5_25 rfl rfl 0 rfl rfl rfl (Nat.le_of_ble_eq_true rfl) dX5_init_52 (w' := [(b, .inr (5, [.ref q1, .ref q2, .ref q3, .int 0, .ref q4, .ref q5, .ref q6, .int 0, .int 0, .int 0, .null])), (q1, .inl (k 0, 1640, .inl oQ)), (q2, .inl (k 0, 1640, .inl oQ)), (q3, .inl (k 0, 9840, .inl oQ)), (q4, .inl (k 0, 3280, .inl oQ)), (q5, .inl (k 0, 2, .inl oQ)), (q6, .inl (k 0, 80, .inl oQ))]) rfl (fun H locs hW => ?_)
  refine lv_aload_n hx hb dX5_init_55 rfl (lv_at hl 0 rfl) ?_
  refine lv_iconst (v := nI 3) hx hb dX5_init_56 (by decide +kernel) ?_
  refine k_newa X hW ac_int rfl 0 rfl (fun _ _ h => h) (N' := 3) (a0 := (3, .inl oQ)) (fun _ => rfl) rfl (by decide) (by decide) ⟨Nat.le_of_ble_eq_true rfl, Nat.le_of_ble_eq_true rfl⟩ dX5_init_57 (fun q7 H hW => ?_)
  refine k_putF X hW hmn inG5 rfl tyX5_ok nmX5 10 (by decide) fl_X5_28 rfl rfl 0 rfl rfl rfl (Nat.le_of_ble_eq_true rfl) dX5_init_59 (w' := [(b, .inr (5, [.ref q1, .ref q2, .ref q3, .int 0, .ref q4, .ref q5, .ref q6, .int 0, .int 0, .int 0, .ref q7])), (q1, .inl (k 0, 1640, .inl oQ)), (q2, .inl (k 0, 1640, .inl oQ)), (q3, .inl (k 0, 9840, .inl oQ)), (q4, .inl (k 0, 3280, .inl oQ)), (q5, .inl (k 0, 2, .inl oQ)), (q6, .inl (k 0, 80, .inl oQ)), (q7, .inl (k 0, 3, .inl oQ))]) rfl (fun H locs hW => ?_)
  obtain ⟨a, e0, e1, e2, e3, e4, e5, e6, e7⟩ : ∃ a : Nat → Nat, a 0 = b ∧ a 1 = q1 ∧ a 2 = q2 ∧ a 3 = q3 ∧ a 4 = q4 ∧ a 5 = q5 ∧ a 6 = q6 ∧ a 7 = q7 := ⟨fun j => match j with | 0 => b | 1 => q1 | 2 => q2 | 3 => q3 | 4 => q4 | 5 => q5 | 6 => q6 | _ => q7, rfl, rfl, rfl, rfl, rfl, rfl, rfl, rfl⟩
  subst e0 e1 e2 e3 e4 e5 e6 e7
  have hW := hW.eq (w' := refW k a oQ oQ oQ oQ oQ oQ oQ oQ) rfl
  have hl : lv_has ls 2 [(0, .ref (a 0))] := hl
  refine lv_aload_n hx hb dX5_init_62 rfl (lv_at hl 0 rfl) ?_
  refine k_get X hW inG5 rfl 0 (by decide) fl_X5_7 rfl 0 rfl (v := .ref (a 1)) rfl dX5_init_63 ?_
  refine lv_iconst (v := nI 0) hx hb dX5_init_66 (by decide +kernel) ?_
  refine lv_bipush (v := nI 16) hx hb dX5_init_67 (by decide +kernel) ?_
  refine k_iast X hW 1 rfl (j := 0) rfl (by decide) (by decide) dX5_init_69 (w' := refW k a oQ (upd oQ 0 (nI 16)) oQ oQ oQ oQ oQ oQ) rfl (fun H locs hW => ?_)
  refine lv_aload_n hx hb dX5_init_70 rfl (lv_at hl 0 rfl) ?_
  refine k_get X hW inG5 rfl 0 (by decide) fl_X5_7 rfl 0 rfl (v := .ref (a 1)) rfl dX5_init_71 ?_
  refine lv_iconst (v := nI 1) hx hb dX5_init_74 (by decide +kernel) ?_
  refine lv_iconst (v := nI 4) hx hb dX5_init_75 (by decide +kernel) ?_
  refine k_iast X hW 1 rfl (j := 1) rfl (by decide) (by decide) dX5_init_76 (w' := refW k a oQ (upd (upd oQ 0 (nI 16)) 1 (nI 4)) oQ oQ oQ oQ oQ oQ) rfl (fun H locs hW => ?_)
  refine lv_aload_n hx hb dX5_init_77 rfl (lv_at hl 0 rfl) ?_
  refine k_get X hW inG5 rfl 0 (by decide) fl_X5_7 rfl 0 rfl (v := .ref (a 1)) rfl dX5_init_78 ?_
  refine lv_iconst (v := nI 3) hx hb dX5_init_81 (by decide +kernel) ?_
  refine lv_bipush (v := nI 6) hx hb dX5_init_82 (by decide +kernel) ?_
  refine k_iast X hW 1 rfl (j := 3) rfl (by decide) (by decide) dX5_init_84 (w' := refW k a oQ (upd (upd (upd oQ 0 (nI 16)) 1 (nI 4)) 3 (nI 6)) oQ oQ oQ oQ oQ oQ) rfl (fun H locs hW => ?_)
  refine lv_iconst (v := nI 0) hx hb dX5_init_85 (by decide +kernel) ?_
  refine lv_istore_n (lv' := [(1, .int (nI 0)), (0, .ref (a 0))]) hx hb dX5_init_86 rfl hl (by decide) rfl (fun ls hl => ?_)
  refine lv_iload_n hx hb dX5_init_87 rfl (lv_at hl 0 rfl) ?_
  refine lv_iconst (v := nI 3) hx hb dX5_init_88 (by decide +kernel) ?_
  refine lv_icmp_ge (tgt := 129) hx hb dX5_init_89 (by decide) (fun c => absurd c (by decide +kernel)) (fun _ => ?_)
  refine lv_aload_n hx hb dX5_init_92 rfl (lv_at hl 1 rfl) ?_
  refine lv_iload_n hx hb dX5_init_93 rfl (lv_at hl 0 rfl) ?_
  refine lv_iconst (v := nI 0) hx hb dX5_init_94 (by decide +kernel) ?_
  refine lv_iconst (v := nI 4) hx hb dX5_init_95 (by decide +kernel) ?_
  obtain ⟨z_2, hz_2⟩ : ∃ zq, m_X5_lays_f (upd (upd (upd oQ 0 (nI 16)) 1 (nI 4)) 3 (nI 6)) 0 0 (nI 4) = zq := ⟨_, rfl⟩
  have hM_3 := (c_X5_lays l D k a oQ (upd (upd (upd oQ 0 (nI 16)) 1 (nI 4)) 3 (nI 6)) oQ oQ oQ oQ oQ oQ 0 0 (nI 4) (by first | decide | omega) (by first | decide | omega))
  rw [hz_2] at hM_3
  refine kVv (As := [.int (nI 0), .int (nI 0), .int (nI 4)]) (rest := []) X hW hM_3 yw_X5_lays lk_X5_31 ⟨Nat.le_of_ble_eq_true rfl, Nat.le_of_ble_eq_true rfl⟩ (wr := []) (List.Perm.refl _) (w' := refW k a oQ z_2 oQ oQ oQ oQ oQ oQ) (List.Perm.refl _) (k_rcv X hW (ci := 5) (q0 := 0) rfl rfl) rfl hl.1 rfl (Nat.le_of_ble_eq_true rfl) ⟨Nat.le_of_ble_eq_true rfl, Nat.le_of_ble_eq_true rfl⟩ dX5_init_96 (fun H locs hW => ?_)
  refine lv_aload_n hx hb dX5_init_99 rfl (lv_at hl 1 rfl) ?_
  refine lv_iload_n hx hb dX5_init_100 rfl (lv_at hl 0 rfl) ?_
  refine lv_iconst (v := nI 1) hx hb dX5_init_101 (by decide +kernel) ?_
  refine lv_bipush (v := nI 10) hx hb dX5_init_102 (by decide +kernel) ?_
  obtain ⟨z_4, hz_4⟩ : ∃ zq, m_X5_lays_f z_2 0 1 (nI 10) = zq := ⟨_, rfl⟩
  have hM_5 := (c_X5_lays l D k a oQ z_2 oQ oQ oQ oQ oQ oQ 0 1 (nI 10) (by first | decide | omega) (by first | decide | omega))
  rw [hz_4] at hM_5
  refine kVv (As := [.int (nI 0), .int (nI 1), .int (nI 10)]) (rest := []) X hW hM_5 yw_X5_lays lk_X5_31 ⟨Nat.le_of_ble_eq_true rfl, Nat.le_of_ble_eq_true rfl⟩ (wr := []) (List.Perm.refl _) (w' := refW k a oQ z_4 oQ oQ oQ oQ oQ oQ) (List.Perm.refl _) (k_rcv X hW (ci := 5) (q0 := 0) rfl rfl) rfl hl.1 rfl (Nat.le_of_ble_eq_true rfl) ⟨Nat.le_of_ble_eq_true rfl, Nat.le_of_ble_eq_true rfl⟩ dX5_init_104 (fun H locs hW => ?_)
  refine lv_aload_n hx hb dX5_init_107 rfl (lv_at hl 1 rfl) ?_
  refine lv_iload_n hx hb dX5_init_108 rfl (lv_at hl 0 rfl) ?_
  refine lv_iconst (v := nI 2) hx hb dX5_init_109 (by decide +kernel) ?_
  refine lv_iconst (v := nI 4) hx hb dX5_init_110 (by decide +kernel) ?_
  obtain ⟨z_6, hz_6⟩ : ∃ zq, m_X5_lays_f z_4 0 2 (nI 4) = zq := ⟨_, rfl⟩
  have hM_7 := (c_X5_lays l D k a oQ z_4 oQ oQ oQ oQ oQ oQ 0 2 (nI 4) (by first | decide | omega) (by first | decide | omega))
  rw [hz_6] at hM_7
  refine kVv (As := [.int (nI 0), .int (nI 2), .int (nI 4)]) (rest := []) X hW hM_7 yw_X5_lays lk_X5_31 ⟨Nat.le_of_ble_eq_true rfl, Nat.le_of_ble_eq_true rfl⟩ (wr := []) (List.Perm.refl _) (w' := refW k a oQ z_6 oQ oQ oQ oQ oQ oQ) (List.Perm.refl _) (k_rcv X hW (ci := 5) (q0 := 0) rfl rfl) rfl hl.1 rfl (Nat.le_of_ble_eq_true rfl) ⟨Nat.le_of_ble_eq_true rfl, Nat.le_of_ble_eq_true rfl⟩ dX5_init_111 (fun H locs hW => ?_)
  refine lv_aload_n hx hb dX5_init_114 rfl (lv_at hl 1 rfl) ?_
  refine lv_iload_n hx hb dX5_init_115 rfl (lv_at hl 0 rfl) ?_
  refine lv_bipush (v := nI 8) hx hb dX5_init_116 (by decide +kernel) ?_
  refine lv_bipush (v := (-6)) hx hb dX5_init_118 (by decide +kernel) ?_
  obtain ⟨z_8, hz_8⟩ : ∃ zq, m_X5_lays_f z_6 0 8 (-6) = zq := ⟨_, rfl⟩
  have hM_9 := (c_X5_lays l D k a oQ z_6 oQ oQ oQ oQ oQ oQ 0 8 (-6) (by first | decide | omega) (by first | decide | omega))
  rw [hz_8] at hM_9
  refine kVv (As := [.int (nI 0), .int (nI 8), .int (-6)]) (rest := []) X hW hM_9 yw_X5_lays lk_X5_31 ⟨Nat.le_of_ble_eq_true rfl, Nat.le_of_ble_eq_true rfl⟩ (wr := []) (List.Perm.refl _) (w' := refW k a oQ z_8 oQ oQ oQ oQ oQ oQ) (List.Perm.refl _) (k_rcv X hW (ci := 5) (q0 := 0) rfl rfl) rfl hl.1 rfl (Nat.le_of_ble_eq_true rfl) ⟨Nat.le_of_ble_eq_true rfl, Nat.le_of_ble_eq_true rfl⟩ dX5_init_120 (fun H locs hW => ?_)
  refine lv_iinc (v := nI 1) (lv' := [(1, .int (nI 1)), (0, .ref (a 0))]) hx hb dX5_init_123 hl (k := 0) rfl (k_inc _) (by decide) rfl (fun ls hl => ?_)
  refine lv_goto (tgt := 87) hx hb dX5_init_126 (by decide) ?_
  refine lv_iload_n hx hb dX5_init_87 rfl (lv_at hl 0 rfl) ?_
  refine lv_iconst (v := nI 3) hx hb dX5_init_88 (by decide +kernel) ?_
  refine lv_icmp_ge (tgt := 129) hx hb dX5_init_89 (by decide) (fun c => absurd c (by decide +kernel)) (fun _ => ?_)
  refine lv_aload_n hx hb dX5_init_92 rfl (lv_at hl 1 rfl) ?_
  refine lv_iload_n hx hb dX5_init_93 rfl (lv_at hl 0 rfl) ?_
  refine lv_iconst (v := nI 0) hx hb dX5_init_94 (by decide +kernel) ?_
  refine lv_iconst (v := nI 4) hx hb dX5_init_95 (by decide +kernel) ?_
  obtain ⟨z_11, hz_11⟩ : ∃ zq, m_X5_lays_f z_8 1 0 (nI 4) = zq := ⟨_, rfl⟩
  have hM_12 := (c_X5_lays l D k a oQ z_8 oQ oQ oQ oQ oQ oQ 1 0 (nI 4) (by first | decide | omega) (by first | decide | omega))
  rw [hz_11] at hM_12
  refine kVv (As := [.int (nI 1), .int (nI 0), .int (nI 4)]) (rest := []) X hW hM_12 yw_X5_lays lk_X5_31 ⟨Nat.le_of_ble_eq_true rfl, Nat.le_of_ble_eq_true rfl⟩ (wr := []) (List.Perm.refl _) (w' := refW k a oQ z_11 oQ oQ oQ oQ oQ oQ) (List.Perm.refl _) (k_rcv X hW (ci := 5) (q0 := 0) rfl rfl) rfl hl.1 rfl (Nat.le_of_ble_eq_true rfl) ⟨Nat.le_of_ble_eq_true rfl, Nat.le_of_ble_eq_true rfl⟩ dX5_init_96 (fun H locs hW => ?_)
  refine lv_aload_n hx hb dX5_init_99 rfl (lv_at hl 1 rfl) ?_
  refine lv_iload_n hx hb dX5_init_100 rfl (lv_at hl 0 rfl) ?_
  refine lv_iconst (v := nI 1) hx hb dX5_init_101 (by decide +kernel) ?_
  refine lv_bipush (v := nI 10) hx hb dX5_init_102 (by decide +kernel) ?_
  obtain ⟨z_13, hz_13⟩ : ∃ zq, m_X5_lays_f z_11 1 1 (nI 10) = zq := ⟨_, rfl⟩
  have hM_14 := (c_X5_lays l D k a oQ z_11 oQ oQ oQ oQ oQ oQ 1 1 (nI 10) (by first | decide | omega) (by first | decide | omega))
  rw [hz_13] at hM_14
  refine kVv (As := [.int (nI 1), .int (nI 1), .int (nI 10)]) (rest := []) X hW hM_14 yw_X5_lays lk_X5_31 ⟨Nat.le_of_ble_eq_true rfl, Nat.le_of_ble_eq_true rfl⟩ (wr := []) (List.Perm.refl _) (w' := refW k a oQ z_13 oQ oQ oQ oQ oQ oQ) (List.Perm.refl _) (k_rcv X hW (ci := 5) (q0 := 0) rfl rfl) rfl hl.1 rfl (Nat.le_of_ble_eq_true rfl) ⟨Nat.le_of_ble_eq_true rfl, Nat.le_of_ble_eq_true rfl⟩ dX5_init_104 (fun H locs hW => ?_)
  refine lv_aload_n hx hb dX5_init_107 rfl (lv_at hl 1 rfl) ?_
  refine lv_iload_n hx hb dX5_init_108 rfl (lv_at hl 0 rfl) ?_
  refine lv_iconst (v := nI 2) hx hb dX5_init_109 (by decide +kernel) ?_
  refine lv_iconst (v := nI 4) hx hb dX5_init_110 (by decide +kernel) ?_
  obtain ⟨z_15, hz_15⟩ : ∃ zq, m_X5_lays_f z_13 1 2 (nI 4) = zq := ⟨_, rfl⟩
  have hM_16 := (c_X5_lays l D k a oQ z_13 oQ oQ oQ oQ oQ oQ 1 2 (nI 4) (by first | decide | omega) (by first | decide | omega))
  rw [hz_15] at hM_16
  refine kVv (As := [.int (nI 1), .int (nI 2), .int (nI 4)]) (rest := []) X hW hM_16 yw_X5_lays lk_X5_31 ⟨Nat.le_of_ble_eq_true rfl, Nat.le_of_ble_eq_true rfl⟩ (wr := []) (List.Perm.refl _) (w' := refW k a oQ z_15 oQ oQ oQ oQ oQ oQ) (List.Perm.refl _) (k_rcv X hW (ci := 5) (q0 := 0) rfl rfl) rfl hl.1 rfl (Nat.le_of_ble_eq_true rfl) ⟨Nat.le_of_ble_eq_true rfl, Nat.le_of_ble_eq_true rfl⟩ dX5_init_111 (fun H locs hW => ?_)
  refine lv_aload_n hx hb dX5_init_114 rfl (lv_at hl 1 rfl) ?_
  refine lv_iload_n hx hb dX5_init_115 rfl (lv_at hl 0 rfl) ?_
  refine lv_bipush (v := nI 8) hx hb dX5_init_116 (by decide +kernel) ?_
  refine lv_bipush (v := (-6)) hx hb dX5_init_118 (by decide +kernel) ?_
  obtain ⟨z_17, hz_17⟩ : ∃ zq, m_X5_lays_f z_15 1 8 (-6) = zq := ⟨_, rfl⟩
  have hM_18 := (c_X5_lays l D k a oQ z_15 oQ oQ oQ oQ oQ oQ 1 8 (-6) (by first | decide | omega) (by first | decide | omega))
  rw [hz_17] at hM_18
  refine kVv (As := [.int (nI 1), .int (nI 8), .int (-6)]) (rest := []) X hW hM_18 yw_X5_lays lk_X5_31 ⟨Nat.le_of_ble_eq_true rfl, Nat.le_of_ble_eq_true rfl⟩ (wr := []) (List.Perm.refl _) (w' := refW k a oQ z_17 oQ oQ oQ oQ oQ oQ) (List.Perm.refl _) (k_rcv X hW (ci := 5) (q0 := 0) rfl rfl) rfl hl.1 rfl (Nat.le_of_ble_eq_true rfl) ⟨Nat.le_of_ble_eq_true rfl, Nat.le_of_ble_eq_true rfl⟩ dX5_init_120 (fun H locs hW => ?_)
  refine lv_iinc (v := nI 2) (lv' := [(1, .int (nI 2)), (0, .ref (a 0))]) hx hb dX5_init_123 hl (k := 0) rfl (k_inc _) (by decide) rfl (fun ls hl => ?_)
  refine lv_goto (tgt := 87) hx hb dX5_init_126 (by decide) ?_
  refine lv_iload_n hx hb dX5_init_87 rfl (lv_at hl 0 rfl) ?_
  refine lv_iconst (v := nI 3) hx hb dX5_init_88 (by decide +kernel) ?_
  refine lv_icmp_ge (tgt := 129) hx hb dX5_init_89 (by decide) (fun c => absurd c (by decide +kernel)) (fun _ => ?_)
  refine lv_aload_n hx hb dX5_init_92 rfl (lv_at hl 1 rfl) ?_
  refine lv_iload_n hx hb dX5_init_93 rfl (lv_at hl 0 rfl) ?_
  refine lv_iconst (v := nI 0) hx hb dX5_init_94 (by decide +kernel) ?_
  refine lv_iconst (v := nI 4) hx hb dX5_init_95 (by decide +kernel) ?_
  obtain ⟨z_20, hz_20⟩ : ∃ zq, m_X5_lays_f z_17 2 0 (nI 4) = zq := ⟨_, rfl⟩
  have hM_21 := (c_X5_lays l D k a oQ z_17 oQ oQ oQ oQ oQ oQ 2 0 (nI 4) (by first | decide | omega) (by first | decide | omega))
  rw [hz_20] at hM_21
  refine kVv (As := [.int (nI 2), .int (nI 0), .int (nI 4)]) (rest := []) X hW hM_21 yw_X5_lays lk_X5_31 ⟨Nat.le_of_ble_eq_true rfl, Nat.le_of_ble_eq_true rfl⟩ (wr := []) (List.Perm.refl _) (w' := refW k a oQ z_20 oQ oQ oQ oQ oQ oQ) (List.Perm.refl _) (k_rcv X hW (ci := 5) (q0 := 0) rfl rfl) rfl hl.1 rfl (Nat.le_of_ble_eq_true rfl) ⟨Nat.le_of_ble_eq_true rfl, Nat.le_of_ble_eq_true rfl⟩ dX5_init_96 (fun H locs hW => ?_)
  refine lv_aload_n hx hb dX5_init_99 rfl (lv_at hl 1 rfl) ?_
  refine lv_iload_n hx hb dX5_init_100 rfl (lv_at hl 0 rfl) ?_
  refine lv_iconst (v := nI 1) hx hb dX5_init_101 (by decide +kernel) ?_
  refine lv_bipush (v := nI 10) hx hb dX5_init_102 (by decide +kernel) ?_
  obtain ⟨z_22, hz_22⟩ : ∃ zq, m_X5_lays_f z_20 2 1 (nI 10) = zq := ⟨_, rfl⟩
  have hM_23 := (c_X5_lays l D k a oQ z_20 oQ oQ oQ oQ oQ oQ 2 1 (nI 10) (by first | decide | omega) (by first | decide | omega))
  rw [hz_22] at hM_23
  refine kVv (As := [.int (nI 2), .int (nI 1), .int (nI 10)]) (rest := []) X hW hM_23 yw_X5_lays lk_X5_31 ⟨Nat.le_of_ble_eq_true rfl, Nat.le_of_ble_eq_true rfl⟩ (wr := []) (List.Perm.refl _) (w' := refW k a oQ z_22 oQ oQ oQ oQ oQ oQ) (List.Perm.refl _) (k_rcv X hW (ci := 5) (q0 := 0) rfl rfl) rfl hl.1 rfl (Nat.le_of_ble_eq_true rfl) ⟨Nat.le_of_ble_eq_true rfl, Nat.le_of_ble_eq_true rfl⟩ dX5_init_104 (fun H locs hW => ?_)
  refine lv_aload_n hx hb dX5_init_107 rfl (lv_at hl 1 rfl) ?_
  refine lv_iload_n hx hb dX5_init_108 rfl (lv_at hl 0 rfl) ?_
  refine lv_iconst (v := nI 2) hx hb dX5_init_109 (by decide +kernel) ?_
  refine lv_iconst (v := nI 4) hx hb dX5_init_110 (by decide +kernel) ?_
  obtain ⟨z_24, hz_24⟩ : ∃ zq, m_X5_lays_f z_22 2 2 (nI 4) = zq := ⟨_, rfl⟩
  have hM_25 := (c_X5_lays l D k a oQ z_22 oQ oQ oQ oQ oQ oQ 2 2 (nI 4) (by first | decide | omega) (by first | decide | omega))
  rw [hz_24] at hM_25
  refine kVv (As := [.int (nI 2), .int (nI 2), .int (nI 4)]) (rest := []) X hW hM_25 yw_X5_lays lk_X5_31 ⟨Nat.le_of_ble_eq_true rfl, Nat.le_of_ble_eq_true rfl⟩ (wr := []) (List.Perm.refl _) (w' := refW k a oQ z_24 oQ oQ oQ oQ oQ oQ) (List.Perm.refl _) (k_rcv X hW (ci := 5) (q0 := 0) rfl rfl) rfl hl.1 rfl (Nat.le_of_ble_eq_true rfl) ⟨Nat.le_of_ble_eq_true rfl, Nat.le_of_ble_eq_true rfl⟩ dX5_init_111 (fun H locs hW => ?_)
  refine lv_aload_n hx hb dX5_init_114 rfl (lv_at hl 1 rfl) ?_
  refine lv_iload_n hx hb dX5_init_115 rfl (lv_at hl 0 rfl) ?_
  refine lv_bipush (v := nI 8) hx hb dX5_init_116 (by decide +kernel) ?_
  refine lv_bipush (v := (-6)) hx hb dX5_init_118 (by decide +kernel) ?_
  obtain ⟨z_26, hz_26⟩ : ∃ zq, m_X5_lays_f z_24 2 8 (-6) = zq := ⟨_, rfl⟩
  have hM_27 := (c_X5_lays l D k a oQ z_24 oQ oQ oQ oQ oQ oQ 2 8 (-6) (by first | decide | omega) (by first | decide | omega))
  rw [hz_26] at hM_27
  refine kVv (As := [.int (nI 2), .int (nI 8), .int (-6)]) (rest := []) X hW hM_27 yw_X5_lays lk_X5_31 ⟨Nat.le_of_ble_eq_true rfl, Nat.le_of_ble_eq_true rfl⟩ (wr := []) (List.Perm.refl _) (w' := refW k a oQ z_26 oQ oQ oQ oQ oQ oQ) (List.Perm.refl _) (k_rcv X hW (ci := 5) (q0 := 0) rfl rfl) rfl hl.1 rfl (Nat.le_of_ble_eq_true rfl) ⟨Nat.le_of_ble_eq_true rfl, Nat.le_of_ble_eq_true rfl⟩ dX5_init_120 (fun H locs hW => ?_)
  refine lv_iinc (v := nI 3) (lv' := [(1, .int (nI 3)), (0, .ref (a 0))]) hx hb dX5_init_123 hl (k := 0) rfl (k_inc _) (by decide) rfl (fun ls hl => ?_)
  refine lv_goto (tgt := 87) hx hb dX5_init_126 (by decide) ?_
  refine lv_iload_n hx hb dX5_init_87 rfl (lv_at hl 0 rfl) ?_
  refine lv_iconst (v := nI 3) hx hb dX5_init_88 (by decide +kernel) ?_
  refine lv_icmp_ge (tgt := 129) hx hb dX5_init_89 (by decide) (fun _ => ?_) (fun c => absurd (by decide +kernel) c)
  exact hQ _ _ _ _ _ hW dX5_init_129 ⟨a, rfl, by subst hz_26; subst hz_24; subst hz_22; subst hz_20; subst hz_17; subst hz_15; subst hz_13; subst hz_11; subst hz_8; subst hz_6; subst hz_4; subst hz_2; rw [iRf]⟩
