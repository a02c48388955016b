def m_X0_copyFrom_u (u : CS) (v : CS) : CS := st2 (st2 (st2 (st2 (st2 (st2 (st2 (st2 (st2 u 0 (upd (upd (u 0) 2 (v 0 2)) 3 (nI (cn v)))) 1 (va_cpy (v 1) (u 1) 0 0 4)) 2 (va_cpy (v 2) (u 2) 0 0 (cn v))) 3 (va_cpy (v 3) (u 3) 0 0 (cn v))) 4 (va_cpy (v 4) (u 4) 0 0 (cn v))) 5 (va_cpy (v 5) (u 5) 0 0 (cn v))) 6 (m_X3_copyFrom_q (u 6) (v 6))) 7 (m_X3_copyFrom_q (u 7) (v 7))) 8 (m_X3_copyFrom_q (u 8) (v 8))
set_option maxHeartbeats 4000000 in
set_option maxRecDepth 100000 in
theorem c_X0_copyFrom (l : Launch) (D : va_G) (k : Nat → ClassId) (a b : Nat → Nat) (u : CS) (v : CS)  (hc : CM v) (hb0 : BB (v 6 4)) (hb1 : BB (v 7 4)) (hb2 : BB (v 8 4)) : mV l yX0_copyFrom (wsY yX0_copyFrom cX0_copyFrom 3 none) 1 D k [.ref (a 0), .ref (b 0)] (cardW k a u ++ cardW k b v) (cardW k a (m_X0_copyFrom_u u v) ++ cardW k b v) := by
  refine mV_intro rfl (Nat.le_of_ble_eq_true rfl) ?_
  intro p e s m args below meth c A Q ls X hW hl hQ
  have hx := X.hx
  have hb := X.hb
  have hl : lv_has ls 3 [(0, .ref (a 0)), (1, .ref (b 0))] := hl
  have hc4 := hc.2.1
  refine lv_aload_n hx hb dX0_copyFrom_0 rfl (lv_at hl 1 rfl) ?_
  refine k_get X hW inG0 rfl 0 (by decide) fl_X0_13 rfl 10 rfl (v := .ref (b 1)) rfl dX0_copyFrom_1 ?_
  refine lv_iconst (v := nI 0) hx hb dX0_copyFrom_4 (by decide +kernel) ?_
  refine lv_aload_n hx hb dX0_copyFrom_5 rfl (lv_at hl 0 rfl) ?_
  refine k_get X hW inG0 rfl 0 (by decide) fl_X0_13 rfl 0 rfl (v := .ref (a 1)) rfl dX0_copyFrom_6 ?_
  refine lv_iconst (v := nI 0) hx hb dX0_copyFrom_9 (by decide +kernel) ?_
  refine lv_aload_n hx hb dX0_copyFrom_10 rfl (lv_at hl 0 rfl) ?_
  refine k_get X hW inG0 rfl 0 (by decide) fl_X0_13 rfl 0 rfl (v := .ref (a 1)) rfl dX0_copyFrom_11 ?_
  refine k_alen X hW 1 0 rfl rfl (v := nI 4) rfl dX0_copyFrom_14 ?_
  refine k_copy X hW 11 1 rfl rfl rfl rfl (N := 4) rfl (by decide) (by decide) hl.1 (by decide) ⟨Nat.le_of_ble_eq_true rfl, Nat.le_of_ble_eq_true rfl⟩ lk_X0_43 dX0_copyFrom_15 (w' := cardW k a (st2 u 1 (va_cpy (v 1) (u 1) 0 0 4)) ++ cardW k b v) rfl (fun H locs hW => ?_)
  refine lv_iconst (v := nI 0) hx hb dX0_copyFrom_18 (by decide +kernel) ?_
  refine lv_istore_n (lv' := [(2, .int (nI 0)), (0, .ref (a 0)), (1, .ref (b 0))]) hx hb dX0_copyFrom_19 rfl hl (by decide) rfl (fun ls hl => ?_)
  refine lv_iload_n hx hb dX0_copyFrom_20 rfl (lv_at hl 0 rfl) ?_
  refine lv_iconst (v := nI 3) hx hb dX0_copyFrom_21 (by decide +kernel) ?_
  refine lv_icmp_ge (tgt := 46) hx hb dX0_copyFrom_22 (by decide) (fun c => absurd c (by decide +kernel)) (fun _ => ?_)
  refine lv_aload_n hx hb dX0_copyFrom_25 rfl (lv_at hl 1 rfl) ?_
  refine k_get X hW inG0 rfl 1 (by decide) fl_X0_20 rfl 0 rfl (v := .ref (a 2)) rfl dX0_copyFrom_26 ?_
  refine lv_iload_n hx hb dX0_copyFrom_29 rfl (lv_at hl 0 rfl) ?_
  refine k_aald X hW 2 1 rfl rfl (j := 0) (b := a 7) rfl (by decide) (by decide) rfl dX0_copyFrom_30 ?_
  refine lv_aload_n hx hb dX0_copyFrom_31 rfl (lv_at hl 2 rfl) ?_
  refine k_get X hW inG0 rfl 1 (by decide) fl_X0_20 rfl 10 rfl (v := .ref (b 2)) rfl dX0_copyFrom_32 ?_
  refine lv_iload_n hx hb dX0_copyFrom_35 rfl (lv_at hl 0 rfl) ?_
  refine k_aald X hW 12 1 rfl rfl (j := 0) (b := b 7) rfl (by decide) (by decide) rfl dX0_copyFrom_36 ?_
  obtain ⟨z_2, hz_2⟩ : ∃ zq, m_X3_copyFrom_q (u 6) (v 6) = zq := ⟨_, rfl⟩
  have hM_3 := (c_X3_copyFrom l D k (a 7) (b 7) (u 6) (v 6) hb0)
  rw [hz_2] at hM_3
  refine kNv (As := [.ref (b 7)]) (rest := []) X hW hM_3 yw_X3_copyFrom lkn_X0_50 ⟨Nat.le_of_ble_eq_true rfl, Nat.le_of_ble_eq_true rfl⟩ (wr := [cO a (st2 u 1 (va_cpy (v 1) (u 1) 0 0 4)), cSe k a (st2 u 1 (va_cpy (v 1) (u 1) 0 0 4)), cQs k a, cFl k a (st2 u 1 (va_cpy (v 1) (u 1) 0 0 4)), cCa k a (st2 u 1 (va_cpy (v 1) (u 1) 0 0 4)), cHo k a (st2 u 1 (va_cpy (v 1) (u 1) 0 0 4)), cTa k a (st2 u 1 (va_cpy (v 1) (u 1) 0 0 4)), qC (a 8) (u 7), qC (a 9) (u 8), cO b v, cSe k b v, cQs k b, cFl k b v, cCa k b v, cHo k b v, cTa k b v, qC (b 8) (v 7), qC (b 9) (v 8)]) (w_idx (n := 20) [0, 1, 2, 3, 4, 5, 6, 8, 9, 10, 11, 12, 13, 14, 15, 16, 18, 19, 7, 17] rfl (by decide) rfl) (w' := cardW k a (st2 (st2 u 1 (va_cpy (v 1) (u 1) 0 0 4)) 6 z_2) ++ cardW k b v) (w_idx (n := 20) [0, 1, 2, 3, 4, 5, 6, 18, 7, 8, 9, 10, 11, 12, 13, 14, 15, 19, 16, 17] rfl (by decide) rfl) (k_rcv X hW (ci := 3) (q0 := 7) rfl rfl) rfl hl.1 rfl (Nat.le_of_ble_eq_true rfl) ⟨Nat.zero_le _, Nat.zero_le _⟩ dX0_copyFrom_37 (fun H locs hW => ?_)
  refine lv_iinc (v := nI 1) (lv' := [(2, .int (nI 1)), (0, .ref (a 0)), (1, .ref (b 0))]) hx hb dX0_copyFrom_40 hl (k := 0) rfl (k_inc _) (by decide) rfl (fun ls hl => ?_)
  refine lv_goto (tgt := 20) hx hb dX0_copyFrom_43 (by decide) ?_
  refine lv_iload_n hx hb dX0_copyFrom_20 rfl (lv_at hl 0 rfl) ?_
  refine lv_iconst (v := nI 3) hx hb dX0_copyFrom_21 (by decide +kernel) ?_
  refine lv_icmp_ge (tgt := 46) hx hb dX0_copyFrom_22 (by decide) (fun c => absurd c (by decide +kernel)) (fun _ => ?_)
  refine lv_aload_n hx hb dX0_copyFrom_25 rfl (lv_at hl 1 rfl) ?_
  refine k_get X hW inG0 rfl 1 (by decide) fl_X0_20 rfl 0 rfl (v := .ref (a 2)) rfl dX0_copyFrom_26 ?_
  refine lv_iload_n hx hb dX0_copyFrom_29 rfl (lv_at hl 0 rfl) ?_
  refine k_aald X hW 2 1 rfl rfl (j := 1) (b := a 8) rfl (by decide) (by decide) rfl dX0_copyFrom_30 ?_
  refine lv_aload_n hx hb dX0_copyFrom_31 rfl (lv_at hl 2 rfl) ?_
  refine k_get X hW inG0 rfl 1 (by decide) fl_X0_20 rfl 10 rfl (v := .ref (b 2)) rfl dX0_copyFrom_32 ?_
  refine lv_iload_n hx hb dX0_copyFrom_35 rfl (lv_at hl 0 rfl) ?_
  refine k_aald X hW 12 1 rfl rfl (j := 1) (b := b 8) rfl (by decide) (by decide) rfl dX0_copyFrom_36 ?_
  obtain ⟨z_5, hz_5⟩ : ∃ zq, m_X3_copyFrom_q (u 7) (v 7) = zq := ⟨_, rfl⟩
  have hM_6 := (c_X3_copyFrom l D k (a 8) (b 8) (u 7) (v 7) hb1)
  rw [hz_5] at hM_6
  refine kNv (As := [.ref (b 8)]) (rest := []) X hW hM_6 yw_X3_copyFrom lkn_X0_50 ⟨Nat.le_of_ble_eq_true rfl, Nat.le_of_ble_eq_true rfl⟩ (wr := [cO a (st2 (st2 u 1 (va_cpy (v 1) (u 1) 0 0 4)) 6 z_2), cSe k a (st2 (st2 u 1 (va_cpy (v 1) (u 1) 0 0 4)) 6 z_2), cQs k a, cFl k a (st2 (st2 u 1 (va_cpy (v 1) (u 1) 0 0 4)) 6 z_2), cCa k a (st2 (st2 u 1 (va_cpy (v 1) (u 1) 0 0 4)) 6 z_2), cHo k a (st2 (st2 u 1 (va_cpy (v 1) (u 1) 0 0 4)) 6 z_2), cTa k a (st2 (st2 u 1 (va_cpy (v 1) (u 1) 0 0 4)) 6 z_2), qC (a 7) z_2, qC (a 9) (u 8), cO b v, cSe k b v, cQs k b, cFl k b v, cCa k b v, cHo k b v, cTa k b v, qC (b 7) (v 6), qC (b 9) (v 8)]) (w_idx (n := 20) [0, 1, 2, 3, 4, 5, 6, 7, 9, 10, 11, 12, 13, 14, 15, 16, 17, 19, 8, 18] rfl (by decide) rfl) (w' := cardW k a (st2 (st2 (st2 u 1 (va_cpy (v 1) (u 1) 0 0 4)) 6 z_2) 7 z_5) ++ cardW k b v) (w_idx (n := 20) [0, 1, 2, 3, 4, 5, 6, 7, 18, 8, 9, 10, 11, 12, 13, 14, 15, 16, 19, 17] rfl (by decide) rfl) (k_rcv X hW (ci := 3) (q0 := 8) rfl rfl) rfl hl.1 rfl (Nat.le_of_ble_eq_true rfl) ⟨Nat.zero_le _, Nat.zero_le _⟩ dX0_copyFrom_37 (fun H locs hW => ?_)
  refine lv_iinc (v := nI 2) (lv' := [(2, .int (nI 2)), (0, .ref (a 0)), (1, .ref (b 0))]) hx hb dX0_copyFrom_40 hl (k := 0) rfl (k_inc _) (by decide) rfl (fun ls hl => ?_)
  refine lv_goto (tgt := 20) hx hb dX0_copyFrom_43 (by decide) ?_
  refine lv_iload_n hx hb dX0_copyFrom_20 rfl (lv_at hl 0 rfl) ?_
  refine lv_iconst (v := nI 3) hx hb dX0_copyFrom_21 (by decide +kernel) ?_
  refine lv_icmp_ge (tgt := 46) hx hb dX0_copyFrom_22 (by decide) (fun c => absurd c (by decide +kernel)) (fun _ => ?_)
  refine lv_aload_n hx hb dX0_copyFrom_25 rfl (lv_at hl 1 rfl) ?_
  refine k_get X hW inG0 rfl 1 (by decide) fl_X0_20 rfl 0 rfl (v := .ref (a 2)) rfl dX0_copyFrom_26 ?_
  refine lv_iload_n hx hb dX0_copyFrom_29 rfl (lv_at hl 0 rfl) ?_
  refine k_aald X hW 2 1 rfl rfl (j := 2) (b := a 9) rfl (by decide) (by decide) rfl dX0_copyFrom_30 ?_
  refine lv_aload_n hx hb dX0_copyFrom_31 rfl (lv_at hl 2 rfl) ?_
  refine k_get X hW inG0 rfl 1 (by decide) fl_X0_20 rfl 10 rfl (v := .ref (b 2)) rfl dX0_copyFrom_32 ?_
  refine lv_iload_n hx hb dX0_copyFrom_35 rfl (lv_at hl 0 rfl) ?_
  refine k_aald X hW 12 1 rfl rfl (j := 2) (b := b 9) rfl (by decide) (by decide) rfl dX0_copyFrom_36 ?_
  obtain ⟨z_8, hz_8⟩ : ∃ zq, m_X3_copyFrom_q (u 8) (v 8) = zq := ⟨_, rfl⟩
  have hM_9 := (c_X3_copyFrom l D k (a 9) (b 9) (u 8) (v 8) hb2)
  rw [hz_8] at hM_9
  refine kNv (As := [.ref (b 9)]) (rest := []) X hW hM_9 yw_X3_copyFrom lkn_X0_50 ⟨Nat.le_of_ble_eq_true rfl, Nat.le_of_ble_eq_true rfl⟩ (wr := [cO a (st2 (st2 (st2 u 1 (va_cpy (v 1) (u 1) 0 0 4)) 6 z_2) 7 z_5), cSe k a (st2 (st2 (st2 u 1 (va_cpy (v 1) (u 1) 0 0 4)) 6 z_2) 7 z_5), cQs k a, cFl k a (st2 (st2 (st2 u 1 (va_cpy (v 1) (u 1) 0 0 4)) 6 z_2) 7 z_5), cCa k a (st2 (st2 (st2 u 1 (va_cpy (v 1) (u 1) 0 0 4)) 6 z_2) 7 z_5), cHo k a (st2 (st2 (st2 u 1 (va_cpy (v 1) (u 1) 0 0 4)) 6 z_2) 7 z_5), cTa k a (st2 (st2 (st2 u 1 (va_cpy (v 1) (u 1) 0 0 4)) 6 z_2) 7 z_5), qC (a 7) z_2, qC (a 8) z_5, cO b v, cSe k b v, cQs k b, cFl k b v, cCa k b v, cHo k b v, cTa k b v, qC (b 7) (v 6), qC (b 8) (v 7)]) (w_idx (n := 20) [0, 1, 2, 3, 4, 5, 6, 7, 8, 10, 11, 12, 13, 14, 15, 16, 17, 18, 9, 19] rfl (by decide) rfl) (w' := cardW k a (st2 (st2 (st2 (st2 u 1 (va_cpy (v 1) (u 1) 0 0 4)) 6 z_2) 7 z_5) 8 z_8) ++ cardW k b v) (w_idx (n := 20) [0, 1, 2, 3, 4, 5, 6, 7, 8, 18, 9, 10, 11, 12, 13, 14, 15, 16, 17, 19] rfl (by decide) rfl) (k_rcv X hW (ci := 3) (q0 := 9) rfl rfl) rfl hl.1 rfl (Nat.le_of_ble_eq_true rfl) ⟨Nat.zero_le _, Nat.zero_le _⟩ dX0_copyFrom_37 (fun H locs hW => ?_)
  refine lv_iinc (v := nI 3) (lv' := [(2, .int (nI 3)), (0, .ref (a 0)), (1, .ref (b 0))]) hx hb dX0_copyFrom_40 hl (k := 0) rfl (k_inc _) (by decide) rfl (fun ls hl => ?_)
  refine lv_goto (tgt := 20) hx hb dX0_copyFrom_43 (by decide) ?_
  refine lv_iload_n hx hb dX0_copyFrom_20 rfl (lv_at hl 0 rfl) ?_
  refine lv_iconst (v := nI 3) hx hb dX0_copyFrom_21 (by decide +kernel) ?_
  refine lv_icmp_ge (tgt := 46) hx hb dX0_copyFrom_22 (by decide) (fun _ => ?_) (fun c => absurd (by decide +kernel) c)
  refine lv_aload_n hx hb dX0_copyFrom_46 rfl (lv_at hl 1 rfl) ?_
  refine lv_aload_n hx hb dX0_copyFrom_47 rfl (lv_at hl 2 rfl) ?_
  refine k_get X hW inG0 rfl 2 (by decide) fl_X0_24 rfl 10 rfl (v := .int (v 0 2)) rfl dX0_copyFrom_48 ?_
  refine k_put X hW inG0 rfl tyX0_ok nmX0 2 (by decide) fl_X0_24 rfl rfl 0 rfl rfl rfl (Nat.le_of_ble_eq_true rfl) dX0_copyFrom_51 (w' := cardW k a (st2 (st2 (st2 (st2 (st2 u 0 (upd (u 0) 2 (v 0 2))) 1 (va_cpy (v 1) (u 1) 0 0 4)) 6 z_2) 7 z_5) 8 z_8) ++ cardW k b v) rfl (fun H locs hW => ?_)
  refine lv_aload_n hx hb dX0_copyFrom_54 rfl (lv_at hl 1 rfl) ?_
  refine lv_aload_n hx hb dX0_copyFrom_55 rfl (lv_at hl 2 rfl) ?_
  refine k_get X hW inG0 rfl 3 (by decide) fl_X0_28 rfl 10 rfl (v := .int (v 0 3)) rfl dX0_copyFrom_56 ?_
  refine k_top (y := nI (cn v)) (hc.1) ?_
  refine k_put X hW inG0 rfl tyX0_ok nmX0 3 (by decide) fl_X0_28 rfl rfl 0 rfl rfl rfl (Nat.le_of_ble_eq_true rfl) dX0_copyFrom_59 (w' := cardW k a (st2 (st2 (st2 (st2 (st2 u 0 (upd (upd (u 0) 2 (v 0 2)) 3 (nI (cn v)))) 1 (va_cpy (v 1) (u 1) 0 0 4)) 6 z_2) 7 z_5) 8 z_8) ++ cardW k b v) rfl (fun H locs hW => ?_)
  refine lv_aload_n hx hb dX0_copyFrom_62 rfl (lv_at hl 2 rfl) ?_
  refine k_get X hW inG0 rfl 4 (by decide) fl_X0_31 rfl 10 rfl (v := .ref (b 3)) rfl dX0_copyFrom_63 ?_
  refine lv_iconst (v := nI 0) hx hb dX0_copyFrom_66 (by decide +kernel) ?_
  refine lv_aload_n hx hb dX0_copyFrom_67 rfl (lv_at hl 1 rfl) ?_
  refine k_get X hW inG0 rfl 4 (by decide) fl_X0_31 rfl 0 rfl (v := .ref (a 3)) rfl dX0_copyFrom_68 ?_
  refine lv_iconst (v := nI 0) hx hb dX0_copyFrom_71 (by decide +kernel) ?_
  refine lv_aload_n hx hb dX0_copyFrom_72 rfl (lv_at hl 1 rfl) ?_
  refine k_get X hW inG0 rfl 3 (by decide) fl_X0_28 rfl 0 rfl (v := .int (nI (cn v))) rfl dX0_copyFrom_73 ?_
  refine k_copy X hW 13 3 rfl rfl rfl rfl (N := (cn v)) rfl (by omega) (by omega) hl.1 (by decide) ⟨Nat.le_of_ble_eq_true rfl, Nat.le_of_ble_eq_true rfl⟩ lk_X0_43 dX0_copyFrom_76 (w' := cardW k a (st2 (st2 (st2 (st2 (st2 (st2 u 0 (upd (upd (u 0) 2 (v 0 2)) 3 (nI (cn v)))) 1 (va_cpy (v 1) (u 1) 0 0 4)) 2 (va_cpy (v 2) (u 2) 0 0 (cn v))) 6 z_2) 7 z_5) 8 z_8) ++ cardW k b v) rfl (fun H locs hW => ?_)
  refine lv_aload_n hx hb dX0_copyFrom_79 rfl (lv_at hl 2 rfl) ?_
  refine k_get X hW inG0 rfl 5 (by decide) fl_X0_34 rfl 10 rfl (v := .ref (b 4)) rfl dX0_copyFrom_80 ?_
  refine lv_iconst (v := nI 0) hx hb dX0_copyFrom_83 (by decide +kernel) ?_
  refine lv_aload_n hx hb dX0_copyFrom_84 rfl (lv_at hl 1 rfl) ?_
  refine k_get X hW inG0 rfl 5 (by decide) fl_X0_34 rfl 0 rfl (v := .ref (a 4)) rfl dX0_copyFrom_85 ?_
  refine lv_iconst (v := nI 0) hx hb dX0_copyFrom_88 (by decide +kernel) ?_
  refine lv_aload_n hx hb dX0_copyFrom_89 rfl (lv_at hl 1 rfl) ?_
  refine k_get X hW inG0 rfl 3 (by decide) fl_X0_28 rfl 0 rfl (v := .int (nI (cn v))) rfl dX0_copyFrom_90 ?_
  refine k_copy X hW 14 4 rfl rfl rfl rfl (N := (cn v)) rfl (by omega) (by omega) hl.1 (by decide) ⟨Nat.le_of_ble_eq_true rfl, Nat.le_of_ble_eq_true rfl⟩ lk_X0_43 dX0_copyFrom_93 (w' := cardW k a (st2 (st2 (st2 (st2 (st2 (st2 (st2 u 0 (upd (upd (u 0) 2 (v 0 2)) 3 (nI (cn v)))) 1 (va_cpy (v 1) (u 1) 0 0 4)) 2 (va_cpy (v 2) (u 2) 0 0 (cn v))) 3 (va_cpy (v 3) (u 3) 0 0 (cn v))) 6 z_2) 7 z_5) 8 z_8) ++ cardW k b v) rfl (fun H locs hW => ?_)
  refine lv_aload_n hx hb dX0_copyFrom_96 rfl (lv_at hl 2 rfl) ?_
  refine k_get X hW inG0 rfl 6 (by decide) fl_X0_37 rfl 10 rfl (v := .ref (b 5)) rfl dX0_copyFrom_97 ?_
  refine lv_iconst (v := nI 0) hx hb dX0_copyFrom_100 (by decide +kernel) ?_
  refine lv_aload_n hx hb dX0_copyFrom_101 rfl (lv_at hl 1 rfl) ?_
  refine k_get X hW inG0 rfl 6 (by decide) fl_X0_37 rfl 0 rfl (v := .ref (a 5)) rfl dX0_copyFrom_102 ?_
  refine lv_iconst (v := nI 0) hx hb dX0_copyFrom_105 (by decide +kernel) ?_
  refine lv_aload_n hx hb dX0_copyFrom_106 rfl (lv_at hl 1 rfl) ?_
  refine k_get X hW inG0 rfl 3 (by decide) fl_X0_28 rfl 0 rfl (v := .int (nI (cn v))) rfl dX0_copyFrom_107 ?_
  refine k_copy X hW 15 5 rfl rfl rfl rfl (N := (cn v)) rfl (by omega) (by omega) hl.1 (by decide) ⟨Nat.le_of_ble_eq_true rfl, Nat.le_of_ble_eq_true rfl⟩ lk_X0_43 dX0_copyFrom_110 (w' := cardW k a (st2 (st2 (st2 (st2 (st2 (st2 (st2 (st2 u 0 (upd (upd (u 0) 2 (v 0 2)) 3 (nI (cn v)))) 1 (va_cpy (v 1) (u 1) 0 0 4)) 2 (va_cpy (v 2) (u 2) 0 0 (cn v))) 3 (va_cpy (v 3) (u 3) 0 0 (cn v))) 4 (va_cpy (v 4) (u 4) 0 0 (cn v))) 6 z_2) 7 z_5) 8 z_8) ++ cardW k b v) rfl (fun H locs hW => ?_)
  refine lv_aload_n hx hb dX0_copyFrom_113 rfl (lv_at hl 2 rfl) ?_
  refine k_get X hW inG0 rfl 7 (by decide) fl_X0_40 rfl 10 rfl (v := .ref (b 6)) rfl dX0_copyFrom_114 ?_
  refine lv_iconst (v := nI 0) hx hb dX0_copyFrom_117 (by decide +kernel) ?_
  refine lv_aload_n hx hb dX0_copyFrom_118 rfl (lv_at hl 1 rfl) ?_
  refine k_get X hW inG0 rfl 7 (by decide) fl_X0_40 rfl 0 rfl (v := .ref (a 6)) rfl dX0_copyFrom_119 ?_
  refine lv_iconst (v := nI 0) hx hb dX0_copyFrom_122 (by decide +kernel) ?_
  refine lv_aload_n hx hb dX0_copyFrom_123 rfl (lv_at hl 1 rfl) ?_
  refine k_get X hW inG0 rfl 3 (by decide) fl_X0_28 rfl 0 rfl (v := .int (nI (cn v))) rfl dX0_copyFrom_124 ?_
  refine k_copy X hW 16 6 rfl rfl rfl rfl (N := (cn v)) rfl (by omega) (by omega) hl.1 (by decide) ⟨Nat.le_of_ble_eq_true rfl, Nat.le_of_ble_eq_true rfl⟩ lk_X0_43 dX0_copyFrom_127 (w' := cardW k a (st2 (st2 (st2 (st2 (st2 (st2 (st2 (st2 (st2 u 0 (upd (upd (u 0) 2 (v 0 2)) 3 (nI (cn v)))) 1 (va_cpy (v 1) (u 1) 0 0 4)) 2 (va_cpy (v 2) (u 2) 0 0 (cn v))) 3 (va_cpy (v 3) (u 3) 0 0 (cn v))) 4 (va_cpy (v 4) (u 4) 0 0 (cn v))) 5 (va_cpy (v 5) (u 5) 0 0 (cn v))) 6 z_2) 7 z_5) 8 z_8) ++ cardW k b v) rfl (fun H locs hW => ?_)
  exact hQ _ _ _ _ _ hW dX0_copyFrom_130 (by subst hz_8; subst hz_5; subst hz_2; rw [m_X0_copyFrom_u])
def m_X0_emptyLike_u (u : CS) (v : CS) : CS := st2 (st2 (st2 (st2 (st2 u 0 (upd (upd (u 0) 2 (nI 0)) 3 (nI 0))) 1 (va_cpy (v 1) (u 1) 0 0 4)) 6 (m_X3_emptyLike_q (u 6) (v 6))) 7 (m_X3_emptyLike_q (u 7) (v 7))) 8 (m_X3_emptyLike_q (u 8) (v 8))
set_option maxHeartbeats 4000000 in
set_option maxRecDepth 100000 in
theorem c_X0_emptyLike (l : Launch) (D : va_G) (k : Nat → ClassId) (a b : Nat → Nat) (u : CS) (v : CS)   : mV l yX0_emptyLike (wsY yX0_emptyLike cX0_emptyLike 3 none) 1 D k [.ref (a 0), .ref (b 0)] (cardW k a u ++ cardW k b v) (cardW k a (m_X0_emptyLike_u u v) ++ cardW k b v) := by
  refine mV_intro rfl (Nat.le_of_ble_eq_true rfl) ?_
  intro p e s m args below meth c A Q ls X hW hl hQ
  have hx := X.hx
  have hb := X.hb
  have hl : lv_has ls 3 [(0, .ref (a 0)), (1, .ref (b 0))] := hl
  refine lv_aload_n hx hb dX0_emptyLike_0 rfl (lv_at hl 1 rfl) ?_
  refine k_get X hW inG0 rfl 0 (by decide) fl_X0_13 rfl 10 rfl (v := .ref (b 1)) rfl dX0_emptyLike_1 ?_
  refine lv_iconst (v := nI 0) hx hb dX0_emptyLike_4 (by decide +kernel) ?_
  refine lv_aload_n hx hb dX0_emptyLike_5 rfl (lv_at hl 0 rfl) ?_
  refine k_get X hW inG0 rfl 0 (by decide) fl_X0_13 rfl 0 rfl (v := .ref (a 1)) rfl dX0_emptyLike_6 ?_
  refine lv_iconst (v := nI 0) hx hb dX0_emptyLike_9 (by decide +kernel) ?_
  refine lv_aload_n hx hb dX0_emptyLike_10 rfl (lv_at hl 0 rfl) ?_
  refine k_get X hW inG0 rfl 0 (by decide) fl_X0_13 rfl 0 rfl (v := .ref (a 1)) rfl dX0_emptyLike_11 ?_
  refine k_alen X hW 1 0 rfl rfl (v := nI 4) rfl dX0_emptyLike_14 ?_
  refine k_copy X hW 11 1 rfl rfl rfl rfl (N := 4) rfl (by decide) (by decide) hl.1 (by decide) ⟨Nat.le_of_ble_eq_true rfl, Nat.le_of_ble_eq_true rfl⟩ lk_X0_43 dX0_emptyLike_15 (w' := cardW k a (st2 u 1 (va_cpy (v 1) (u 1) 0 0 4)) ++ cardW k b v) rfl (fun H locs hW => ?_)
  refine lv_iconst (v := nI 0) hx hb dX0_emptyLike_18 (by decide +kernel) ?_
  refine lv_istore_n (lv' := [(2, .int (nI 0)), (0, .ref (a 0)), (1, .ref (b 0))]) hx hb dX0_emptyLike_19 rfl hl (by decide) rfl (fun ls hl => ?_)
  refine lv_iload_n hx hb dX0_emptyLike_20 rfl (lv_at hl 0 rfl) ?_
  refine lv_iconst (v := nI 3) hx hb dX0_emptyLike_21 (by decide +kernel) ?_
  refine lv_icmp_ge (tgt := 46) hx hb dX0_emptyLike_22 (by decide) (fun c => absurd c (by decide +kernel)) (fun _ => ?_)
  refine lv_aload_n hx hb dX0_emptyLike_25 rfl (lv_at hl 1 rfl) ?_
  refine k_get X hW inG0 rfl 1 (by decide) fl_X0_20 rfl 0 rfl (v := .ref (a 2)) rfl dX0_emptyLike_26 ?_
  refine lv_iload_n hx hb dX0_emptyLike_29 rfl (lv_at hl 0 rfl) ?_
  refine k_aald X hW 2 1 rfl rfl (j := 0) (b := a 7) rfl (by decide) (by decide) rfl dX0_emptyLike_30 ?_
  refine lv_aload_n hx hb dX0_emptyLike_31 rfl (lv_at hl 2 rfl) ?_
  refine k_get X hW inG0 rfl 1 (by decide) fl_X0_20 rfl 10 rfl (v := .ref (b 2)) rfl dX0_emptyLike_32 ?_
  refine lv_iload_n hx hb dX0_emptyLike_35 rfl (lv_at hl 0 rfl) ?_
  refine k_aald X hW 12 1 rfl rfl (j := 0) (b := b 7) rfl (by decide) (by decide) rfl dX0_emptyLike_36 ?_
  obtain ⟨z_2, hz_2⟩ : ∃ zq, m_X3_emptyLike_q (u 6) (v 6) = zq := ⟨_, rfl⟩
  have hM_3 := (c_X3_emptyLike l D k (a 7) (b 7) (u 6) (v 6))
  rw [hz_2] at hM_3
  refine kNv (As := [.ref (b 7)]) (rest := []) X hW hM_3 yw_X3_emptyLike lkn_X0_54 ⟨Nat.le_of_ble_eq_true rfl, Nat.le_of_ble_eq_true rfl⟩ (wr := [cO a (st2 u 1 (va_cpy (v 1) (u 1) 0 0 4)), cSe k a (st2 u 1 (va_cpy (v 1) (u 1) 0 0 4)), cQs k a, cFl k a (st2 u 1 (va_cpy (v 1) (u 1) 0 0 4)), cCa k a (st2 u 1 (va_cpy (v 1) (u 1) 0 0 4)), cHo k a (st2 u 1 (va_cpy (v 1) (u 1) 0 0 4)), cTa k a (st2 u 1 (va_cpy (v 1) (u 1) 0 0 4)), qC (a 8) (u 7), qC (a 9) (u 8), cO b v, cSe k b v, cQs k b, cFl k b v, cCa k b v, cHo k b v, cTa k b v, qC (b 8) (v 7), qC (b 9) (v 8)]) (w_idx (n := 20) [0, 1, 2, 3, 4, 5, 6, 8, 9, 10, 11, 12, 13, 14, 15, 16, 18, 19, 7, 17] rfl (by decide) rfl) (w' := cardW k a (st2 (st2 u 1 (va_cpy (v 1) (u 1) 0 0 4)) 6 z_2) ++ cardW k b v) (w_idx (n := 20) [0, 1, 2, 3, 4, 5, 6, 18, 7, 8, 9, 10, 11, 12, 13, 14, 15, 19, 16, 17] rfl (by decide) rfl) (k_rcv X hW (ci := 3) (q0 := 7) rfl rfl) rfl hl.1 rfl (Nat.le_of_ble_eq_true rfl) ⟨Nat.zero_le _, Nat.zero_le _⟩ dX0_emptyLike_37 (fun H locs hW => ?_)
  refine lv_iinc (v := nI 1) (lv' := [(2, .int (nI 1)), (0, .ref (a 0)), (1, .ref (b 0))]) hx hb dX0_emptyLike_40 hl (k := 0) rfl (k_inc _) (by decide) rfl (fun ls hl => ?_)
  refine lv_goto (tgt := 20) hx hb dX0_emptyLike_43 (by decide) ?_
  refine lv_iload_n hx hb dX0_emptyLike_20 rfl (lv_at hl 0 rfl) ?_
  refine lv_iconst (v := nI 3) hx hb dX0_emptyLike_21 (by decide +kernel) ?_
  refine lv_icmp_ge (tgt := 46) hx hb dX0_emptyLike_22 (by decide) (fun c => absurd c (by decide +kernel)) (fun _ => ?_)
  refine lv_aload_n hx hb dX0_emptyLike_25 rfl (lv_at hl 1 rfl) ?_
  refine k_get X hW inG0 rfl 1 (by decide) fl_X0_20 rfl 0 rfl (v := .ref (a 2)) rfl dX0_emptyLike_26 ?_
  refine lv_iload_n hx hb dX0_emptyLike_29 rfl (lv_at hl 0 rfl) ?_
  refine k_aald X hW 2 1 rfl rfl (j := 1) (b := a 8) rfl (by decide) (by decide) rfl dX0_emptyLike_30 ?_
  refine lv_aload_n hx hb dX0_emptyLike_31 rfl (lv_at hl 2 rfl) ?_
  refine k_get X hW inG0 rfl 1 (by decide) fl_X0_20 rfl 10 rfl (v := .ref (b 2)) rfl dX0_emptyLike_32 ?_
  refine lv_iload_n hx hb dX0_emptyLike_35 rfl (lv_at hl 0 rfl) ?_
  refine k_aald X hW 12 1 rfl rfl (j := 1) (b := b 8) rfl (by decide) (by decide) rfl dX0_emptyLike_36 ?_
  obtain ⟨z_5, hz_5⟩ : ∃ zq, m_X3_emptyLike_q (u 7) (v 7) = zq := ⟨_, rfl⟩
  have hM_6 := (c_X3_emptyLike l D k (a 8) (b 8) (u 7) (v 7))
  rw [hz_5] at hM_6
  refine kNv (As := [.ref (b 8)]) (rest := []) X hW hM_6 yw_X3_emptyLike lkn_X0_54 ⟨Nat.le_of_ble_eq_true rfl, Nat.le_of_ble_eq_true rfl⟩ (wr := [cO a (st2 (st2 u 1 (va_cpy (v 1) (u 1) 0 0 4)) 6 z_2), cSe k a (st2 (st2 u 1 (va_cpy (v 1) (u 1) 0 0 4)) 6 z_2), cQs k a, cFl k a (st2 (st2 u 1 (va_cpy (v 1) (u 1) 0 0 4)) 6 z_2), cCa k a (st2 (st2 u 1 (va_cpy (v 1) (u 1) 0 0 4)) 6 z_2), cHo k a (st2 (st2 u 1 (va_cpy (v 1) (u 1) 0 0 4)) 6 z_2), cTa k a (st2 (st2 u 1 (va_cpy (v 1) (u 1) 0 0 4)) 6 z_2), qC (a 7) z_2, qC (a 9) (u 8), cO b v, cSe k b v, cQs k b, cFl k b v, cCa k b v, cHo k b v, cTa k b v, qC (b 7) (v 6), qC (b 9) (v 8)]) (w_idx (n := 20) [0, 1, 2, 3, 4, 5, 6, 7, 9, 10, 11, 12, 13, 14, 15, 16, 17, 19, 8, 18] rfl (by decide) rfl) (w' := cardW k a (st2 (st2 (st2 u 1 (va_cpy (v 1) (u 1) 0 0 4)) 6 z_2) 7 z_5) ++ cardW k b v) (w_idx (n := 20) [0, 1, 2, 3, 4, 5, 6, 7, 18, 8, 9, 10, 11, 12, 13, 14, 15, 16, 19, 17] rfl (by decide) rfl) (k_rcv X hW (ci := 3) (q0 := 8) rfl rfl) rfl hl.1 rfl (Nat.le_of_ble_eq_true rfl) ⟨Nat.zero_le _, Nat.zero_le _⟩ dX0_emptyLike_37 (fun H locs hW => ?_)
  refine lv_iinc (v := nI 2) (lv' := [(2, .int (nI 2)), (0, .ref (a 0)), (1, .ref (b 0))]) hx hb dX0_emptyLike_40 hl (k := 0) rfl (k_inc _) (by decide) rfl (fun ls hl => ?_)
  refine lv_goto (tgt := 20) hx hb dX0_emptyLike_43 (by decide) ?_
  refine lv_iload_n hx hb dX0_emptyLike_20 rfl (lv_at hl 0 rfl) ?_
  refine lv_iconst (v := nI 3) hx hb dX0_emptyLike_21 (by decide +kernel) ?_
  refine lv_icmp_ge (tgt := 46) hx hb dX0_emptyLike_22 (by decide) (fun c => absurd c (by decide +kernel)) (fun _ => ?_)
  refine lv_aload_n hx hb dX0_emptyLike_25 rfl (lv_at hl 1 rfl) ?_
  refine k_get X hW inG0 rfl 1 (by decide) fl_X0_20 rfl 0 rfl (v := .ref (a 2)) rfl dX0_emptyLike_26 ?_
  refine lv_iload_n hx hb dX0_emptyLike_29 rfl (lv_at hl 0 rfl) ?_
  refine k_aald X hW 2 1 rfl rfl (j := 2) (b := a 9) rfl (by decide) (by decide) rfl dX0_emptyLike_30 ?_
  refine lv_aload_n hx hb dX0_emptyLike_31 rfl (lv_at hl 2 rfl) ?_
  refine k_get X hW inG0 rfl 1 (by decide) fl_X0_20 rfl 10 rfl (v := .ref (b 2)) rfl dX0_emptyLike_32 ?_
  refine lv_iload_n hx hb dX0_emptyLike_35 rfl (lv_at hl 0 rfl) ?_
  refine k_aald X hW 12 1 rfl rfl (j := 2) (b := b 9) rfl (by decide) (by decide) rfl dX0_emptyLike_36 ?_
  obtain ⟨z_8, hz_8⟩ : ∃ zq, m_X3_emptyLike_q (u 8) (v 8) = zq := ⟨_, rfl⟩
  have hM_9 := (c_X3_emptyLike l D k (a 9) (b 9) (u 8) (v 8))
  rw [hz_8] at hM_9
  refine kNv (As := [.ref (b 9)]) (rest := []) X hW hM_9 yw_X3_emptyLike lkn_X0_54 ⟨Nat.le_of_ble_eq_true rfl, Nat.le_of_ble_eq_true rfl⟩ (wr := [cO a (st2 (st2 (st2 u 1 (va_cpy (v 1) (u 1) 0 0 4)) 6 z_2) 7 z_5), cSe k a (st2 (st2 (st2 u 1 (va_cpy (v 1) (u 1) 0 0 4)) 6 z_2) 7 z_5), cQs k a, cFl k a (st2 (st2 (st2 u 1 (va_cpy (v 1) (u 1) 0 0 4)) 6 z_2) 7 z_5), cCa k a (st2 (st2 (st2 u 1 (va_cpy (v 1) (u 1) 0 0 4)) 6 z_2) 7 z_5), cHo k a (st2 (st2 (st2 u 1 (va_cpy (v 1) (u 1) 0 0 4)) 6 z_2) 7 z_5), cTa k a (st2 (st2 (st2 u 1 (va_cpy (v 1) (u 1) 0 0 4)) 6 z_2) 7 z_5), qC (a 7) z_2, qC (a 8) z_5, cO b v, cSe k b v, cQs k b, cFl k b v, cCa k b v, cHo k b v, cTa k b v, qC (b 7) (v 6), qC (b 8) (v 7)]) (w_idx (n := 20) [0, 1, 2, 3, 4, 5, 6, 7, 8, 10, 11, 12, 13, 14, 15, 16, 17, 18, 9, 19] rfl (by decide) rfl) (w' := cardW k a (st2 (st2 (st2 (st2 u 1 (va_cpy (v 1) (u 1) 0 0 4)) 6 z_2) 7 z_5) 8 z_8) ++ cardW k b v) (w_idx (n := 20) [0, 1, 2, 3, 4, 5, 6, 7, 8, 18, 9, 10, 11, 12, 13, 14, 15, 16, 17, 19] rfl (by decide) rfl) (k_rcv X hW (ci := 3) (q0 := 9) rfl rfl) rfl hl.1 rfl (Nat.le_of_ble_eq_true rfl) ⟨Nat.zero_le _, Nat.zero_le _⟩ dX0_emptyLike_37 (fun H locs hW => ?_)
  refine lv_iinc (v := nI 3) (lv' := [(2, .int (nI 3)), (0, .ref (a 0)), (1, .ref (b 0))]) hx hb dX0_emptyLike_40 hl (k := 0) rfl (k_inc _) (by decide) rfl (fun ls hl => ?_)
  refine lv_goto (tgt := 20) hx hb dX0_emptyLike_43 (by decide) ?_
  refine lv_iload_n hx hb dX0_emptyLike_20 rfl (lv_at hl 0 rfl) ?_
  refine lv_iconst (v := nI 3) hx hb dX0_emptyLike_21 (by decide +kernel) ?_
  refine lv_icmp_ge (tgt := 46) hx hb dX0_emptyLike_22 (by decide) (fun _ => ?_) (fun c => absurd (by decide +kernel) c)
  refine lv_aload_n hx hb dX0_emptyLike_46 rfl (lv_at hl 1 rfl) ?_
  refine lv_iconst (v := nI 0) hx hb dX0_emptyLike_47 (by decide +kernel) ?_
  refine k_put X hW inG0 rfl tyX0_ok nmX0 2 (by decide) fl_X0_24 rfl rfl 0 rfl rfl rfl (Nat.le_of_ble_eq_true rfl) dX0_emptyLike_48 (w' := cardW k a (st2 (st2 (st2 (st2 (st2 u 0 (upd (u 0) 2 (nI 0))) 1 (va_cpy (v 1) (u 1) 0 0 4)) 6 z_2) 7 z_5) 8 z_8) ++ cardW k b v) rfl (fun H locs hW => ?_)
  refine lv_aload_n hx hb dX0_emptyLike_51 rfl (lv_at hl 1 rfl) ?_
  refine lv_iconst (v := nI 0) hx hb dX0_emptyLike_52 (by decide +kernel) ?_
  refine k_put X hW inG0 rfl tyX0_ok nmX0 3 (by decide) fl_X0_28 rfl rfl 0 rfl rfl rfl (Nat.le_of_ble_eq_true rfl) dX0_emptyLike_53 (w' := cardW k a (st2 (st2 (st2 (st2 (st2 u 0 (upd (upd (u 0) 2 (nI 0)) 3 (nI 0))) 1 (va_cpy (v 1) (u 1) 0 0 4)) 6 z_2) 7 z_5) 8 z_8) ++ cardW k b v) rfl (fun H locs hW => ?_)
  exact hQ _ _ _ _ _ hW dX0_emptyLike_56 (by subst hz_8; subst hz_5; subst hz_2; rw [m_X0_emptyLike_u])
