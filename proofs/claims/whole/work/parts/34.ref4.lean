theorem RF_4 {f : Nat → Int32} {x : Int32} (h : RF f) : RF (upd f 4 x) := by
  obtain ⟨hw, row, hi⟩ := h
  refine ⟨WF_4 hw, row, (pk_un (by decide)).trans hi.1, fun i y hy => (pk_un (by omega)).trans (hi.2.1 i y hy), hi.2.2⟩
def m_X5_tick_f (f : Nat → Int32) : Nat → Int32 := if tn (f 6) ≤ 0 then (if (m_X5_reason_r f 0) = 0 then (if (m_X5_reason_r (m_X5_doCall_f f 0) 1) = 0 then (if (m_X5_reason_r (m_X5_doCall_f (m_X5_doCall_f f 0) 1) 2) = 0 then upd (m_X5_doCall_f (m_X5_doCall_f (m_X5_doCall_f f 0) 1) 2) 4 (((m_X5_doCall_f (m_X5_doCall_f (m_X5_doCall_f f 0) 1) 2) 4) + (nI 1)) else upd (m_X5_doCall_f (m_X5_doCall_f f 0) 1) 4 (((m_X5_doCall_f (m_X5_doCall_f f 0) 1) 4) + (nI 1))) else if (m_X5_reason_r (m_X5_doCall_f f 0) 2) = 0 then upd (m_X5_doCall_f (m_X5_doCall_f f 0) 2) 4 (((m_X5_doCall_f (m_X5_doCall_f f 0) 2) 4) + (nI 1)) else upd (m_X5_doCall_f f 0) 4 (((m_X5_doCall_f f 0) 4) + (nI 1))) else if (m_X5_reason_r f 1) = 0 then (if (m_X5_reason_r (m_X5_doCall_f f 1) 2) = 0 then upd (m_X5_doCall_f (m_X5_doCall_f f 1) 2) 4 (((m_X5_doCall_f (m_X5_doCall_f f 1) 2) 4) + (nI 1)) else upd (m_X5_doCall_f f 1) 4 (((m_X5_doCall_f f 1) 4) + (nI 1))) else if (m_X5_reason_r f 2) = 0 then upd (m_X5_doCall_f f 2) 4 (((m_X5_doCall_f f 2) 4) + (nI 1)) else upd f 4 ((f 4) + (nI 1))) else if (m_X5_reason_r (m_X5_polls_f f) 0) = 0 then (if (m_X5_reason_r (m_X5_doCall_f (m_X5_polls_f f) 0) 1) = 0 then (if (m_X5_reason_r (m_X5_doCall_f (m_X5_doCall_f (m_X5_polls_f f) 0) 1) 2) = 0 then upd (m_X5_doCall_f (m_X5_doCall_f (m_X5_doCall_f (m_X5_polls_f f) 0) 1) 2) 4 (((m_X5_doCall_f (m_X5_doCall_f (m_X5_doCall_f (m_X5_polls_f f) 0) 1) 2) 4) + (nI 1)) else upd (m_X5_doCall_f (m_X5_doCall_f (m_X5_polls_f f) 0) 1) 4 (((m_X5_doCall_f (m_X5_doCall_f (m_X5_polls_f f) 0) 1) 4) + (nI 1))) else if (m_X5_reason_r (m_X5_doCall_f (m_X5_polls_f f) 0) 2) = 0 then upd (m_X5_doCall_f (m_X5_doCall_f (m_X5_polls_f f) 0) 2) 4 (((m_X5_doCall_f (m_X5_doCall_f (m_X5_polls_f f) 0) 2) 4) + (nI 1)) else upd (m_X5_doCall_f (m_X5_polls_f f) 0) 4 (((m_X5_doCall_f (m_X5_polls_f f) 0) 4) + (nI 1))) else if (m_X5_reason_r (m_X5_polls_f f) 1) = 0 then (if (m_X5_reason_r (m_X5_doCall_f (m_X5_polls_f f) 1) 2) = 0 then upd (m_X5_doCall_f (m_X5_doCall_f (m_X5_polls_f f) 1) 2) 4 (((m_X5_doCall_f (m_X5_doCall_f (m_X5_polls_f f) 1) 2) 4) + (nI 1)) else upd (m_X5_doCall_f (m_X5_polls_f f) 1) 4 (((m_X5_doCall_f (m_X5_polls_f f) 1) 4) + (nI 1))) else if (m_X5_reason_r (m_X5_polls_f f) 2) = 0 then upd (m_X5_doCall_f (m_X5_polls_f f) 2) 4 (((m_X5_doCall_f (m_X5_polls_f f) 2) 4) + (nI 1)) else upd (m_X5_polls_f f) 4 (((m_X5_polls_f f) 4) + (nI 1))
set_option maxHeartbeats 4000000 in
set_option maxRecDepth 100000 in
theorem c_X5_tick (l : Launch) (D : va_G) (k : Nat → ClassId) (a : Nat → Nat) (z : Nat → Int32) (f : Nat → Int32) (kp : Nat → Int32) (hi : Nat → Int32) (sl : Nat → Int32) (sv : Nat → Int32) (tx : Nat → Int32) (td : Nat → Int32)  (hR : RF f) : mV l yX5_tick (wsY yX5_tick cX5_tick 2 none) 5 D k [.ref (a 0)] (refW k a z f kp hi sl sv tx td) (refW k a z (m_X5_tick_f f) kp hi sl sv tx td) := by
  refine mV_intro rfl (Nat.le_of_ble_eq_true rfl) ?_
  intro p e s m args below meth c A Q ls X hW hl hQ
  have hx := X.hx
  have hb := X.hb
  have hl : lv_has ls 2 [(0, .ref (a 0))] := hl
  have hf := hR.1
  have hq_1 := hf.1.2
  have hq_2 := hf.2.1.2
  have hq_3 := hf.2.2.1.2
  refine lv_aload_n hx hb dX5_tick_0 rfl (lv_at hl 0 rfl) ?_
  refine k_get X hW inG5 rfl 0 (by decide) fl_X5_7 rfl 0 rfl (v := .ref (a 1)) rfl dX5_tick_1 ?_
  refine lv_bipush (v := nI 6) hx hb dX5_tick_4 (by decide +kernel) ?_
  refine k_iald X hW 1 rfl (j := 6) (v := f 6) rfl (by decide) (by decide) rfl dX5_tick_6 ?_
  refine k_top (y := nI (tn (f 6))) (hf.2.1.1) ?_
  refine lv_if_le (tgt := 14) hx hb dX5_tick_7 (by decide) (fun c_4 => ?_) (fun c_4 => ?_)
  · have c_4 : tn (f 6) ≤ 0 := (nI_leI (a := tn (f 6)) (b := 0) (by omega) (by omega)).mp c_4
    refine lv_iconst (v := nI 0) hx hb dX5_tick_14 (by decide +kernel) ?_
    refine lv_istore_n (lv' := [(1, .int (nI 0)), (0, .ref (a 0))]) hx hb dX5_tick_15 rfl hl (by decide) rfl (fun ls hl => ?_)
    refine lv_iload_n hx hb dX5_tick_16 rfl (lv_at hl 0 rfl) ?_
    refine lv_iconst (v := nI 3) hx hb dX5_tick_17 (by decide +kernel) ?_
    refine lv_icmp_ge (tgt := 40) hx hb dX5_tick_18 (by decide) (fun c => absurd c (by decide +kernel)) (fun _ => ?_)
    refine lv_aload_n hx hb dX5_tick_21 rfl (lv_at hl 1 rfl) ?_
    refine lv_iload_n hx hb dX5_tick_22 rfl (lv_at hl 0 rfl) ?_
    obtain ⟨z_6, hz_6⟩ : ∃ zq, m_X5_reason_r f 0 = zq := ⟨_, rfl⟩
    have hM_7 := (c_X5_reason l D k a z f kp hi sl sv tx td 0 hf (by first | decide | omega))
    rw [hz_6] at hM_7
    refine kVi (As := [.int (nI 0)]) (rest := []) X hW hM_7 yw_X5_reason lk_X5_80 ⟨Nat.le_of_ble_eq_true rfl, Nat.le_of_ble_eq_true rfl⟩ (wr := []) (List.Perm.refl _) (w' := refW k a z f kp hi sl sv tx td) (List.Perm.refl _) (k_rcv X hW (ci := 5) (q0 := 0) rfl rfl) rfl hl.1 rfl (Nat.le_of_ble_eq_true rfl) ⟨Nat.zero_le _, Nat.zero_le _⟩ dX5_tick_23 (fun H locs hW => ?_)
    refine lv_if_ne (tgt := 34) hx hb dX5_tick_26 (by decide) (fun c_8 => ?_) (fun c_8 => ?_)
    · refine lv_iinc (v := nI 1) (lv' := [(1, .int (nI 1)), (0, .ref (a 0))]) hx hb dX5_tick_34 hl (k := 0) rfl (k_inc _) (by decide) rfl (fun ls hl => ?_)
      refine lv_goto (tgt := 16) hx hb dX5_tick_37 (by decide) ?_
      refine lv_iload_n hx hb dX5_tick_16 rfl (lv_at hl 0 rfl) ?_
      refine lv_iconst (v := nI 3) hx hb dX5_tick_17 (by decide +kernel) ?_
      refine lv_icmp_ge (tgt := 40) hx hb dX5_tick_18 (by decide) (fun c => absurd c (by decide +kernel)) (fun _ => ?_)
      refine lv_aload_n hx hb dX5_tick_21 rfl (lv_at hl 1 rfl) ?_
      refine lv_iload_n hx hb dX5_tick_22 rfl (lv_at hl 0 rfl) ?_
      obtain ⟨z_10, hz_10⟩ : ∃ zq, m_X5_reason_r f 1 = zq := ⟨_, rfl⟩
      have hM_11 := (c_X5_reason l D k a z f kp hi sl sv tx td 1 hf (by first | decide | omega))
      rw [hz_10] at hM_11
      refine kVi (As := [.int (nI 1)]) (rest := []) X hW hM_11 yw_X5_reason lk_X5_80 ⟨Nat.le_of_ble_eq_true rfl, Nat.le_of_ble_eq_true rfl⟩ (wr := []) (List.Perm.refl _) (w' := refW k a z f kp hi sl sv tx td) (List.Perm.refl _) (k_rcv X hW (ci := 5) (q0 := 0) rfl rfl) rfl hl.1 rfl (Nat.le_of_ble_eq_true rfl) ⟨Nat.zero_le _, Nat.zero_le _⟩ dX5_tick_23 (fun H locs hW => ?_)
      refine lv_if_ne (tgt := 34) hx hb dX5_tick_26 (by decide) (fun c_12 => ?_) (fun c_12 => ?_)
      · refine lv_iinc (v := nI 2) (lv' := [(1, .int (nI 2)), (0, .ref (a 0))]) hx hb dX5_tick_34 hl (k := 0) rfl (k_inc _) (by decide) rfl (fun ls hl => ?_)
        refine lv_goto (tgt := 16) hx hb dX5_tick_37 (by decide) ?_
        refine lv_iload_n hx hb dX5_tick_16 rfl (lv_at hl 0 rfl) ?_
        refine lv_iconst (v := nI 3) hx hb dX5_tick_17 (by decide +kernel) ?_
        refine lv_icmp_ge (tgt := 40) hx hb dX5_tick_18 (by decide) (fun c => absurd c (by decide +kernel)) (fun _ => ?_)
        refine lv_aload_n hx hb dX5_tick_21 rfl (lv_at hl 1 rfl) ?_
        refine lv_iload_n hx hb dX5_tick_22 rfl (lv_at hl 0 rfl) ?_
        obtain ⟨z_14, hz_14⟩ : ∃ zq, m_X5_reason_r f 2 = zq := ⟨_, rfl⟩
        have hM_15 := (c_X5_reason l D k a z f kp hi sl sv tx td 2 hf (by first | decide | omega))
        rw [hz_14] at hM_15
        refine kVi (As := [.int (nI 2)]) (rest := []) X hW hM_15 yw_X5_reason lk_X5_80 ⟨Nat.le_of_ble_eq_true rfl, Nat.le_of_ble_eq_true rfl⟩ (wr := []) (List.Perm.refl _) (w' := refW k a z f kp hi sl sv tx td) (List.Perm.refl _) (k_rcv X hW (ci := 5) (q0 := 0) rfl rfl) rfl hl.1 rfl (Nat.le_of_ble_eq_true rfl) ⟨Nat.zero_le _, Nat.zero_le _⟩ dX5_tick_23 (fun H locs hW => ?_)
        refine lv_if_ne (tgt := 34) hx hb dX5_tick_26 (by decide) (fun c_16 => ?_) (fun c_16 => ?_)
        · refine lv_iinc (v := nI 3) (lv' := [(1, .int (nI 3)), (0, .ref (a 0))]) hx hb dX5_tick_34 hl (k := 0) rfl (k_inc _) (by decide) rfl (fun ls hl => ?_)
          refine lv_goto (tgt := 16) hx hb dX5_tick_37 (by decide) ?_
          refine lv_iload_n hx hb dX5_tick_16 rfl (lv_at hl 0 rfl) ?_
          refine lv_iconst (v := nI 3) hx hb dX5_tick_17 (by decide +kernel) ?_
          refine lv_icmp_ge (tgt := 40) hx hb dX5_tick_18 (by decide) (fun _ => ?_) (fun c => absurd (by decide +kernel) c)
          refine lv_aload_n hx hb dX5_tick_40 rfl (lv_at hl 1 rfl) ?_
          refine k_get X hW inG5 rfl 0 (by decide) fl_X5_7 rfl 0 rfl (v := .ref (a 1)) rfl dX5_tick_41 ?_
          refine lv_iconst (v := nI 4) hx hb dX5_tick_44 (by decide +kernel) ?_
          refine lv_dup2_11 hx hb dX5_tick_45 rfl rfl ?_
          refine k_iald X hW 1 rfl (j := 4) (v := f 4) rfl (by decide) (by decide) rfl dX5_tick_46 ?_
          refine lv_iconst (v := nI 1) hx hb dX5_tick_47 (by decide +kernel) ?_
          refine lv_iadd hx hb dX5_tick_48 ?_
          refine k_iast X hW 1 rfl (j := 4) rfl (by decide) (by decide) dX5_tick_49 (w' := refW k a z (upd f 4 ((f 4) + (nI 1))) kp hi sl sv tx td) rfl (fun H locs hW => ?_)
          exact hQ _ _ _ _ _ hW dX5_tick_50 (by subst hz_14; subst hz_10; subst hz_6; rw [m_X5_tick_f, if_pos c_4, if_neg c_8, if_neg c_12, if_neg c_16])
        · refine lv_aload_n hx hb dX5_tick_29 rfl (lv_at hl 1 rfl) ?_
          refine lv_iload_n hx hb dX5_tick_30 rfl (lv_at hl 0 rfl) ?_
          obtain ⟨z_18, hz_18⟩ : ∃ zq, m_X5_doCall_f f 2 = zq := ⟨_, rfl⟩
          have hR_z_18 : RF z_18 := by rw [← hz_18]; exact RF_call hR (by decide) (by rw [hz_14]; exact c_16)
          have hf_z_18 := hR_z_18.1
          have hq_19 := hf_z_18.1.2
          have hq_20 := hf_z_18.2.1.2
          have hq_21 := hf_z_18.2.2.1.2
          have hM_22 := (c_X5_doCall l D k a z f kp hi sl sv tx td 2 hf (by first | decide | omega))
          rw [hz_18] at hM_22
          refine kVv (As := [.int (nI 2)]) (rest := []) X hW hM_22 yw_X5_doCall lk_X5_83 ⟨Nat.le_of_ble_eq_true rfl, Nat.le_of_ble_eq_true rfl⟩ (wr := []) (List.Perm.refl _) (w' := refW k a z z_18 kp hi sl sv tx td) (List.Perm.refl _) (k_rcv X hW (ci := 5) (q0 := 0) rfl rfl) rfl hl.1 rfl (Nat.le_of_ble_eq_true rfl) ⟨Nat.zero_le _, Nat.zero_le _⟩ dX5_tick_31 (fun H locs hW => ?_)
          refine lv_iinc (v := nI 3) (lv' := [(1, .int (nI 3)), (0, .ref (a 0))]) hx hb dX5_tick_34 hl (k := 0) rfl (k_inc _) (by decide) rfl (fun ls hl => ?_)
          refine lv_goto (tgt := 16) hx hb dX5_tick_37 (by decide) ?_
          refine lv_iload_n hx hb dX5_tick_16 rfl (lv_at hl 0 rfl) ?_
          refine lv_iconst (v := nI 3) hx hb dX5_tick_17 (by decide +kernel) ?_
          refine lv_icmp_ge (tgt := 40) hx hb dX5_tick_18 (by decide) (fun _ => ?_) (fun c => absurd (by decide +kernel) c)
          refine lv_aload_n hx hb dX5_tick_40 rfl (lv_at hl 1 rfl) ?_
          refine k_get X hW inG5 rfl 0 (by decide) fl_X5_7 rfl 0 rfl (v := .ref (a 1)) rfl dX5_tick_41 ?_
          refine lv_iconst (v := nI 4) hx hb dX5_tick_44 (by decide +kernel) ?_
          refine lv_dup2_11 hx hb dX5_tick_45 rfl rfl ?_
          refine k_iald X hW 1 rfl (j := 4) (v := z_18 4) rfl (by decide) (by decide) rfl dX5_tick_46 ?_
          refine lv_iconst (v := nI 1) hx hb dX5_tick_47 (by decide +kernel) ?_
          refine lv_iadd hx hb dX5_tick_48 ?_
          refine k_iast X hW 1 rfl (j := 4) rfl (by decide) (by decide) dX5_tick_49 (w' := refW k a z (upd z_18 4 ((z_18 4) + (nI 1))) kp hi sl sv tx td) rfl (fun H locs hW => ?_)
          exact hQ _ _ _ _ _ hW dX5_tick_50 (by subst hz_18; subst hz_14; subst hz_10; subst hz_6; rw [m_X5_tick_f, if_pos c_4, if_neg c_8, if_neg c_12, if_pos c_16])
      · refine lv_aload_n hx hb dX5_tick_29 rfl (lv_at hl 1 rfl) ?_
        refine lv_iload_n hx hb dX5_tick_30 rfl (lv_at hl 0 rfl) ?_
        obtain ⟨z_24, hz_24⟩ : ∃ zq, m_X5_doCall_f f 1 = zq := ⟨_, rfl⟩
        have hR_z_24 : RF z_24 := by rw [← hz_24]; exact RF_call hR (by decide) (by rw [hz_10]; exact c_12)
        have hf_z_24 := hR_z_24.1
        have hq_25 := hf_z_24.1.2
        have hq_26 := hf_z_24.2.1.2
        have hq_27 := hf_z_24.2.2.1.2
        have hM_28 := (c_X5_doCall l D k a z f kp hi sl sv tx td 1 hf (by first | decide | omega))
        rw [hz_24] at hM_28
        refine kVv (As := [.int (nI 1)]) (rest := []) X hW hM_28 yw_X5_doCall lk_X5_83 ⟨Nat.le_of_ble_eq_true rfl, Nat.le_of_ble_eq_true rfl⟩ (wr := []) (List.Perm.refl _) (w' := refW k a z z_24 kp hi sl sv tx td) (List.Perm.refl _) (k_rcv X hW (ci := 5) (q0 := 0) rfl rfl) rfl hl.1 rfl (Nat.le_of_ble_eq_true rfl) ⟨Nat.zero_le _, Nat.zero_le _⟩ dX5_tick_31 (fun H locs hW => ?_)
        refine lv_iinc (v := nI 2) (lv' := [(1, .int (nI 2)), (0, .ref (a 0))]) hx hb dX5_tick_34 hl (k := 0) rfl (k_inc _) (by decide) rfl (fun ls hl => ?_)
        refine lv_goto (tgt := 16) hx hb dX5_tick_37 (by decide) ?_
        refine lv_iload_n hx hb dX5_tick_16 rfl (lv_at hl 0 rfl) ?_
        refine lv_iconst (v := nI 3) hx hb dX5_tick_17 (by decide +kernel) ?_
        refine lv_icmp_ge (tgt := 40) hx hb dX5_tick_18 (by decide) (fun c => absurd c (by decide +kernel)) (fun _ => ?_)
        refine lv_aload_n hx hb dX5_tick_21 rfl (lv_at hl 1 rfl) ?_
        refine lv_iload_n hx hb dX5_tick_22 rfl (lv_at hl 0 rfl) ?_
        obtain ⟨z_30, hz_30⟩ : ∃ zq, m_X5_reason_r z_24 2 = zq := ⟨_, rfl⟩
        have hM_31 := (c_X5_reason l D k a z z_24 kp hi sl sv tx td 2 hf_z_24 (by first | decide | omega))
        rw [hz_30] at hM_31
        refine kVi (As := [.int (nI 2)]) (rest := []) X hW hM_31 yw_X5_reason lk_X5_80 ⟨Nat.le_of_ble_eq_true rfl, Nat.le_of_ble_eq_true rfl⟩ (wr := []) (List.Perm.refl _) (w' := refW k a z z_24 kp hi sl sv tx td) (List.Perm.refl _) (k_rcv X hW (ci := 5) (q0 := 0) rfl rfl) rfl hl.1 rfl (Nat.le_of_ble_eq_true rfl) ⟨Nat.zero_le _, Nat.zero_le _⟩ dX5_tick_23 (fun H locs hW => ?_)
        refine lv_if_ne (tgt := 34) hx hb dX5_tick_26 (by decide) (fun c_32 => ?_) (fun c_32 => ?_)
        · refine lv_iinc (v := nI 3) (lv' := [(1, .int (nI 3)), (0, .ref (a 0))]) hx hb dX5_tick_34 hl (k := 0) rfl (k_inc _) (by decide) rfl (fun ls hl => ?_)
          refine lv_goto (tgt := 16) hx hb dX5_tick_37 (by decide) ?_
          refine lv_iload_n hx hb dX5_tick_16 rfl (lv_at hl 0 rfl) ?_
          refine lv_iconst (v := nI 3) hx hb dX5_tick_17 (by decide +kernel) ?_
          refine lv_icmp_ge (tgt := 40) hx hb dX5_tick_18 (by decide) (fun _ => ?_) (fun c => absurd (by decide +kernel) c)
          refine lv_aload_n hx hb dX5_tick_40 rfl (lv_at hl 1 rfl) ?_
          refine k_get X hW inG5 rfl 0 (by decide) fl_X5_7 rfl 0 rfl (v := .ref (a 1)) rfl dX5_tick_41 ?_
          refine lv_iconst (v := nI 4) hx hb dX5_tick_44 (by decide +kernel) ?_
          refine lv_dup2_11 hx hb dX5_tick_45 rfl rfl ?_
          refine k_iald X hW 1 rfl (j := 4) (v := z_24 4) rfl (by decide) (by decide) rfl dX5_tick_46 ?_
          refine lv_iconst (v := nI 1) hx hb dX5_tick_47 (by decide +kernel) ?_
          refine lv_iadd hx hb dX5_tick_48 ?_
          refine k_iast X hW 1 rfl (j := 4) rfl (by decide) (by decide) dX5_tick_49 (w' := refW k a z (upd z_24 4 ((z_24 4) + (nI 1))) kp hi sl sv tx td) rfl (fun H locs hW => ?_)
          exact hQ _ _ _ _ _ hW dX5_tick_50 (by subst hz_30; subst hz_24; subst hz_10; subst hz_6; rw [m_X5_tick_f, if_pos c_4, if_neg c_8, if_pos c_12, if_neg c_32])
        · refine lv_aload_n hx hb dX5_tick_29 rfl (lv_at hl 1 rfl) ?_
          refine lv_iload_n hx hb dX5_tick_30 rfl (lv_at hl 0 rfl) ?_
          obtain ⟨z_34, hz_34⟩ : ∃ zq, m_X5_doCall_f z_24 2 = zq := ⟨_, rfl⟩
          have hR_z_34 : RF z_34 := by rw [← hz_34]; exact RF_call hR_z_24 (by decide) (by rw [hz_30]; exact c_32)
          have hf_z_34 := hR_z_34.1
          have hq_35 := hf_z_34.1.2
          have hq_36 := hf_z_34.2.1.2
          have hq_37 := hf_z_34.2.2.1.2
          have hM_38 := (c_X5_doCall l D k a z z_24 kp hi sl sv tx td 2 hf_z_24 (by first | decide | omega))
          rw [hz_34] at hM_38
          refine kVv (As := [.int (nI 2)]) (rest := []) X hW hM_38 yw_X5_doCall lk_X5_83 ⟨Nat.le_of_ble_eq_true rfl, Nat.le_of_ble_eq_true rfl⟩ (wr := []) (List.Perm.refl _) (w' := refW k a z z_34 kp hi sl sv tx td) (List.Perm.refl _) (k_rcv X hW (ci := 5) (q0 := 0) rfl rfl) rfl hl.1 rfl (Nat.le_of_ble_eq_true rfl) ⟨Nat.zero_le _, Nat.zero_le _⟩ dX5_tick_31 (fun H locs hW => ?_)
          refine lv_iinc (v := nI 3) (lv' := [(1, .int (nI 3)), (0, .ref (a 0))]) hx hb dX5_tick_34 hl (k := 0) rfl (k_inc _) (by decide) rfl (fun ls hl => ?_)
          refine lv_goto (tgt := 16) hx hb dX5_tick_37 (by decide) ?_
          refine lv_iload_n hx hb dX5_tick_16 rfl (lv_at hl 0 rfl) ?_
          refine lv_iconst (v := nI 3) hx hb dX5_tick_17 (by decide +kernel) ?_
          refine lv_icmp_ge (tgt := 40) hx hb dX5_tick_18 (by decide) (fun _ => ?_) (fun c => absurd (by decide +kernel) c)
          refine lv_aload_n hx hb dX5_tick_40 rfl (lv_at hl 1 rfl) ?_
          refine k_get X hW inG5 rfl 0 (by decide) fl_X5_7 rfl 0 rfl (v := .ref (a 1)) rfl dX5_tick_41 ?_
          refine lv_iconst (v := nI 4) hx hb dX5_tick_44 (by decide +kernel) ?_
          refine lv_dup2_11 hx hb dX5_tick_45 rfl rfl ?_
          refine k_iald X hW 1 rfl (j := 4) (v := z_34 4) rfl (by decide) (by decide) rfl dX5_tick_46 ?_
          refine lv_iconst (v := nI 1) hx hb dX5_tick_47 (by decide +kernel) ?_
          refine lv_iadd hx hb dX5_tick_48 ?_
          refine k_iast X hW 1 rfl (j := 4) rfl (by decide) (by decide) dX5_tick_49 (w' := refW k a z (upd z_34 4 ((z_34 4) + (nI 1))) kp hi sl sv tx td) rfl (fun H locs hW => ?_)
          exact hQ _ _ _ _ _ hW dX5_tick_50 (by subst hz_34; subst hz_30; subst hz_24; subst hz_10; subst hz_6; rw [m_X5_tick_f, if_pos c_4, if_neg c_8, if_pos c_12, if_pos c_32])
    · refine lv_aload_n hx hb dX5_tick_29 rfl (lv_at hl 1 rfl) ?_
      refine lv_iload_n hx hb dX5_tick_30 rfl (lv_at hl 0 rfl) ?_
      obtain ⟨z_40, hz_40⟩ : ∃ zq, m_X5_doCall_f f 0 = zq := ⟨_, rfl⟩
      have hR_z_40 : RF z_40 := by rw [← hz_40]; exact RF_call hR (by decide) (by rw [hz_6]; exact c_8)
      have hf_z_40 := hR_z_40.1
      have hq_41 := hf_z_40.1.2
      have hq_42 := hf_z_40.2.1.2
      have hq_43 := hf_z_40.2.2.1.2
      have hM_44 := (c_X5_doCall l D k a z f kp hi sl sv tx td 0 hf (by first | decide | omega))
      rw [hz_40] at hM_44
      refine kVv (As := [.int (nI 0)]) (rest := []) X hW hM_44 yw_X5_doCall lk_X5_83 ⟨Nat.le_of_ble_eq_true rfl, Nat.le_of_ble_eq_true rfl⟩ (wr := []) (List.Perm.refl _) (w' := refW k a z z_40 kp hi sl sv tx td) (List.Perm.refl _) (k_rcv X hW (ci := 5) (q0 := 0) rfl rfl) rfl hl.1 rfl (Nat.le_of_ble_eq_true rfl) ⟨Nat.zero_le _, Nat.zero_le _⟩ dX5_tick_31 (fun H locs hW => ?_)
      refine lv_iinc (v := nI 1) (lv' := [(1, .int (nI 1)), (0, .ref (a 0))]) hx hb dX5_tick_34 hl (k := 0) rfl (k_inc _) (by decide) rfl (fun ls hl => ?_)
      refine lv_goto (tgt := 16) hx hb dX5_tick_37 (by decide) ?_
      refine lv_iload_n hx hb dX5_tick_16 rfl (lv_at hl 0 rfl) ?_
      refine lv_iconst (v := nI 3) hx hb dX5_tick_17 (by decide +kernel) ?_
      refine lv_icmp_ge (tgt := 40) hx hb dX5_tick_18 (by decide) (fun c => absurd c (by decide +kernel)) (fun _ => ?_)
      refine lv_aload_n hx hb dX5_tick_21 rfl (lv_at hl 1 rfl) ?_
      refine lv_iload_n hx hb dX5_tick_22 rfl (lv_at hl 0 rfl) ?_
      obtain ⟨z_46, hz_46⟩ : ∃ zq, m_X5_reason_r z_40 1 = zq := ⟨_, rfl⟩
      have hM_47 := (c_X5_reason l D k a z z_40 kp hi sl sv tx td 1 hf_z_40 (by first | decide | omega))
      rw [hz_46] at hM_47
      refine kVi (As := [.int (nI 1)]) (rest := []) X hW hM_47 yw_X5_reason lk_X5_80 ⟨Nat.le_of_ble_eq_true rfl, Nat.le_of_ble_eq_true rfl⟩ (wr := []) (List.Perm.refl _) (w' := refW k a z z_40 kp hi sl sv tx td) (List.Perm.refl _) (k_rcv X hW (ci := 5) (q0 := 0) rfl rfl) rfl hl.1 rfl (Nat.le_of_ble_eq_true rfl) ⟨Nat.zero_le _, Nat.zero_le _⟩ dX5_tick_23 (fun H locs hW => ?_)
      refine lv_if_ne (tgt := 34) hx hb dX5_tick_26 (by decide) (fun c_48 => ?_) (fun c_48 => ?_)
      · refine lv_iinc (v := nI 2) (lv' := [(1, .int (nI 2)), (0, .ref (a 0))]) hx hb dX5_tick_34 hl (k := 0) rfl (k_inc _) (by decide) rfl (fun ls hl => ?_)
        refine lv_goto (tgt := 16) hx hb dX5_tick_37 (by decide) ?_
        refine lv_iload_n hx hb dX5_tick_16 rfl (lv_at hl 0 rfl) ?_
        refine lv_iconst (v := nI 3) hx hb dX5_tick_17 (by decide +kernel) ?_
        refine lv_icmp_ge (tgt := 40) hx hb dX5_tick_18 (by decide) (fun c => absurd c (by decide +kernel)) (fun _ => ?_)
        refine lv_aload_n hx hb dX5_tick_21 rfl (lv_at hl 1 rfl) ?_
        refine lv_iload_n hx hb dX5_tick_22 rfl (lv_at hl 0 rfl) ?_
        obtain ⟨z_50, hz_50⟩ : ∃ zq, m_X5_reason_r z_40 2 = zq := ⟨_, rfl⟩
        have hM_51 := (c_X5_reason l D k a z z_40 kp hi sl sv tx td 2 hf_z_40 (by first | decide | omega))
        rw [hz_50] at hM_51
        refine kVi (As := [.int (nI 2)]) (rest := []) X hW hM_51 yw_X5_reason lk_X5_80 ⟨Nat.le_of_ble_eq_true rfl, Nat.le_of_ble_eq_true rfl⟩ (wr := []) (List.Perm.refl _) (w' := refW k a z z_40 kp hi sl sv tx td) (List.Perm.refl _) (k_rcv X hW (ci := 5) (q0 := 0) rfl rfl) rfl hl.1 rfl (Nat.le_of_ble_eq_true rfl) ⟨Nat.zero_le _, Nat.zero_le _⟩ dX5_tick_23 (fun H locs hW => ?_)
        refine lv_if_ne (tgt := 34) hx hb dX5_tick_26 (by decide) (fun c_52 => ?_) (fun c_52 => ?_)
        · refine lv_iinc (v := nI 3) (lv' := [(1, .int (nI 3)), (0, .ref (a 0))]) hx hb dX5_tick_34 hl (k := 0) rfl (k_inc _) (by decide) rfl (fun ls hl => ?_)
          refine lv_goto (tgt := 16) hx hb dX5_tick_37 (by decide) ?_
          refine lv_iload_n hx hb dX5_tick_16 rfl (lv_at hl 0 rfl) ?_
          refine lv_iconst (v := nI 3) hx hb dX5_tick_17 (by decide +kernel) ?_
          refine lv_icmp_ge (tgt := 40) hx hb dX5_tick_18 (by decide) (fun _ => ?_) (fun c => absurd (by decide +kernel) c)
          refine lv_aload_n hx hb dX5_tick_40 rfl (lv_at hl 1 rfl) ?_
          refine k_get X hW inG5 rfl 0 (by decide) fl_X5_7 rfl 0 rfl (v := .ref (a 1)) rfl dX5_tick_41 ?_
          refine lv_iconst (v := nI 4) hx hb dX5_tick_44 (by decide +kernel) ?_
          refine lv_dup2_11 hx hb dX5_tick_45 rfl rfl ?_
          refine k_iald X hW 1 rfl (j := 4) (v := z_40 4) rfl (by decide) (by decide) rfl dX5_tick_46 ?_
          refine lv_iconst (v := nI 1) hx hb dX5_tick_47 (by decide +kernel) ?_
          refine lv_iadd hx hb dX5_tick_48 ?_
          refine k_iast X hW 1 rfl (j := 4) rfl (by decide) (by decide) dX5_tick_49 (w' := refW k a z (upd z_40 4 ((z_40 4) + (nI 1))) kp hi sl sv tx td) rfl (fun H locs hW => ?_)
          exact hQ _ _ _ _ _ hW dX5_tick_50 (by subst hz_50; subst hz_46; subst hz_40; subst hz_6; rw [m_X5_tick_f, if_pos c_4, if_pos c_8, if_neg c_48, if_neg c_52])
        · refine lv_aload_n hx hb dX5_tick_29 rfl (lv_at hl 1 rfl) ?_
          refine lv_iload_n hx hb dX5_tick_30 rfl (lv_at hl 0 rfl) ?_
          obtain ⟨z_54, hz_54⟩ : ∃ zq, m_X5_doCall_f z_40 2 = zq := ⟨_, rfl⟩
          have hR_z_54 : RF z_54 := by rw [← hz_54]; exact RF_call hR_z_40 (by decide) (by rw [hz_50]; exact c_52)
          have hf_z_54 := hR_z_54.1
          have hq_55 := hf_z_54.1.2
          have hq_56 := hf_z_54.2.1.2
          have hq_57 := hf_z_54.2.2.1.2
          have hM_58 := (c_X5_doCall l D k a z z_40 kp hi sl sv tx td 2 hf_z_40 (by first | decide | omega))
          rw [hz_54] at hM_58
          refine kVv (As := [.int (nI 2)]) (rest := []) X hW hM_58 yw_X5_doCall lk_X5_83 ⟨Nat.le_of_ble_eq_true rfl, Nat.le_of_ble_eq_true rfl⟩ (wr := []) (List.Perm.refl _) (w' := refW k a z z_54 kp hi sl sv tx td) (List.Perm.refl _) (k_rcv X hW (ci := 5) (q0 := 0) rfl rfl) rfl hl.1 rfl (Nat.le_of_ble_eq_true rfl) ⟨Nat.zero_le _, Nat.zero_le _⟩ dX5_tick_31 (fun H locs hW => ?_)
          refine lv_iinc (v := nI 3) (lv' := [(1, .int (nI 3)), (0, .ref (a 0))]) hx hb dX5_tick_34 hl (k := 0) rfl (k_inc _) (by decide) rfl (fun ls hl => ?_)
          refine lv_goto (tgt := 16) hx hb dX5_tick_37 (by decide) ?_
          refine lv_iload_n hx hb dX5_tick_16 rfl (lv_at hl 0 rfl) ?_
          refine lv_iconst (v := nI 3) hx hb dX5_tick_17 (by decide +kernel) ?_
          refine lv_icmp_ge (tgt := 40) hx hb dX5_tick_18 (by decide) (fun _ => ?_) (fun c => absurd (by decide +kernel) c)
          refine lv_aload_n hx hb dX5_tick_40 rfl (lv_at hl 1 rfl) ?_
          refine k_get X hW inG5 rfl 0 (by decide) fl_X5_7 rfl 0 rfl (v := .ref (a 1)) rfl dX5_tick_41 ?_
          refine lv_iconst (v := nI 4) hx hb dX5_tick_44 (by decide +kernel) ?_
          refine lv_dup2_11 hx hb dX5_tick_45 rfl rfl ?_
          refine k_iald X hW 1 rfl (j := 4) (v := z_54 4) rfl (by decide) (by decide) rfl dX5_tick_46 ?_
          refine lv_iconst (v := nI 1) hx hb dX5_tick_47 (by decide +kernel) ?_
          refine lv_iadd hx hb dX5_tick_48 ?_
          refine k_iast X hW 1 rfl (j := 4) rfl (by decide) (by decide) dX5_tick_49 (w' := refW k a z (upd z_54 4 ((z_54 4) + (nI 1))) kp hi sl sv tx td) rfl (fun H locs hW => ?_)
          exact hQ _ _ _ _ _ hW dX5_tick_50 (by subst hz_54; subst hz_50; subst hz_46; subst hz_40; subst hz_6; rw [m_X5_tick_f, if_pos c_4, if_pos c_8, if_neg c_48, if_pos c_52])
      · refine lv_aload_n hx hb dX5_tick_29 rfl (lv_at hl 1 rfl) ?_
        refine lv_iload_n hx hb dX5_tick_30 rfl (lv_at hl 0 rfl) ?_
        obtain ⟨z_60, hz_60⟩ : ∃ zq, m_X5_doCall_f z_40 1 = zq := ⟨_, rfl⟩
        have hR_z_60 : RF z_60 := by rw [← hz_60]; exact RF_call hR_z_40 (by decide) (by rw [hz_46]; exact c_48)
        have hf_z_60 := hR_z_60.1
        have hq_61 := hf_z_60.1.2
        have hq_62 := hf_z_60.2.1.2
        have hq_63 := hf_z_60.2.2.1.2
        have hM_64 := (c_X5_doCall l D k a z z_40 kp hi sl sv tx td 1 hf_z_40 (by first | decide | omega))
        rw [hz_60] at hM_64
        refine kVv (As := [.int (nI 1)]) (rest := []) X hW hM_64 yw_X5_doCall lk_X5_83 ⟨Nat.le_of_ble_eq_true rfl, Nat.le_of_ble_eq_true rfl⟩ (wr := []) (List.Perm.refl _) (w' := refW k a z z_60 kp hi sl sv tx td) (List.Perm.refl _) (k_rcv X hW (ci := 5) (q0 := 0) rfl rfl) rfl hl.1 rfl (Nat.le_of_ble_eq_true rfl) ⟨Nat.zero_le _, Nat.zero_le _⟩ dX5_tick_31 (fun H locs hW => ?_)
        refine lv_iinc (v := nI 2) (lv' := [(1, .int (nI 2)), (0, .ref (a 0))]) hx hb dX5_tick_34 hl (k := 0) rfl (k_inc _) (by decide) rfl (fun ls hl => ?_)
        refine lv_goto (tgt := 16) hx hb dX5_tick_37 (by decide) ?_
        refine lv_iload_n hx hb dX5_tick_16 rfl (lv_at hl 0 rfl) ?_
        refine lv_iconst (v := nI 3) hx hb dX5_tick_17 (by decide +kernel) ?_
        refine lv_icmp_ge (tgt := 40) hx hb dX5_tick_18 (by decide) (fun c => absurd c (by decide +kernel)) (fun _ => ?_)
        refine lv_aload_n hx hb dX5_tick_21 rfl (lv_at hl 1 rfl) ?_
        refine lv_iload_n hx hb dX5_tick_22 rfl (lv_at hl 0 rfl) ?_
        obtain ⟨z_66, hz_66⟩ : ∃ zq, m_X5_reason_r z_60 2 = zq := ⟨_, rfl⟩
        have hM_67 := (c_X5_reason l D k a z z_60 kp hi sl sv tx td 2 hf_z_60 (by first | decide | omega))
        rw [hz_66] at hM_67
        refine kVi (As := [.int (nI 2)]) (rest := []) X hW hM_67 yw_X5_reason lk_X5_80 ⟨Nat.le_of_ble_eq_true rfl, Nat.le_of_ble_eq_true rfl⟩ (wr := []) (List.Perm.refl _) (w' := refW k a z z_60 kp hi sl sv tx td) (List.Perm.refl _) (k_rcv X hW (ci := 5) (q0 := 0) rfl rfl) rfl hl.1 rfl (Nat.le_of_ble_eq_true rfl) ⟨Nat.zero_le _, Nat.zero_le _⟩ dX5_tick_23 (fun H locs hW => ?_)
        refine lv_if_ne (tgt := 34) hx hb dX5_tick_26 (by decide) (fun c_68 => ?_) (fun c_68 => ?_)
        · refine lv_iinc (v := nI 3) (lv' := [(1, .int (nI 3)), (0, .ref (a 0))]) hx hb dX5_tick_34 hl (k := 0) rfl (k_inc _) (by decide) rfl (fun ls hl => ?_)
          refine lv_goto (tgt := 16) hx hb dX5_tick_37 (by decide) ?_
          refine lv_iload_n hx hb dX5_tick_16 rfl (lv_at hl 0 rfl) ?_
          refine lv_iconst (v := nI 3) hx hb dX5_tick_17 (by decide +kernel) ?_
          refine lv_icmp_ge (tgt := 40) hx hb dX5_tick_18 (by decide) (fun _ => ?_) (fun c => absurd (by decide +kernel) c)
          refine lv_aload_n hx hb dX5_tick_40 rfl (lv_at hl 1 rfl) ?_
          refine k_get X hW inG5 rfl 0 (by decide) fl_X5_7 rfl 0 rfl (v := .ref (a 1)) rfl dX5_tick_41 ?_
          refine lv_iconst (v := nI 4) hx hb dX5_tick_44 (by decide +kernel) ?_
          refine lv_dup2_11 hx hb dX5_tick_45 rfl rfl ?_
          refine k_iald X hW 1 rfl (j := 4) (v := z_60 4) rfl (by decide) (by decide) rfl dX5_tick_46 ?_
          refine lv_iconst (v := nI 1) hx hb dX5_tick_47 (by decide +kernel) ?_
          refine lv_iadd hx hb dX5_tick_48 ?_
          refine k_iast X hW 1 rfl (j := 4) rfl (by decide) (by decide) dX5_tick_49 (w' := refW k a z (upd z_60 4 ((z_60 4) + (nI 1))) kp hi sl sv tx td) rfl (fun H locs hW => ?_)
          exact hQ _ _ _ _ _ hW dX5_tick_50 (by subst hz_66; subst hz_60; subst hz_46; subst hz_40; subst hz_6; rw [m_X5_tick_f, if_pos c_4, if_pos c_8, if_pos c_48, if_neg c_68])
        · refine lv_aload_n hx hb dX5_tick_29 rfl (lv_at hl 1 rfl) ?_
          refine lv_iload_n hx hb dX5_tick_30 rfl (lv_at hl 0 rfl) ?_
          obtain ⟨z_70, hz_70⟩ : ∃ zq, m_X5_doCall_f z_60 2 = zq := ⟨_, rfl⟩
          have hR_z_70 : RF z_70 := by rw [← hz_70]; exact RF_call hR_z_60 (by decide) (by rw [hz_66]; exact c_68)
          have hf_z_70 := hR_z_70.1
          have hq_71 := hf_z_70.1.2
          have hq_72 := hf_z_70.2.1.2
          have hq_73 := hf_z_70.2.2.1.2
          have hM_74 := (c_X5_doCall l D k a z z_60 kp hi sl sv tx td 2 hf_z_60 (by first | decide | omega))
          rw [hz_70] at hM_74
          refine kVv (As := [.int (nI 2)]) (rest := []) X hW hM_74 yw_X5_doCall lk_X5_83 ⟨Nat.le_of_ble_eq_true rfl, Nat.le_of_ble_eq_true rfl⟩ (wr := []) (List.Perm.refl _) (w' := refW k a z z_70 kp hi sl sv tx td) (List.Perm.refl _) (k_rcv X hW (ci := 5) (q0 := 0) rfl rfl) rfl hl.1 rfl (Nat.le_of_ble_eq_true rfl) ⟨Nat.zero_le _, Nat.zero_le _⟩ dX5_tick_31 (fun H locs hW => ?_)
          refine lv_iinc (v := nI 3) (lv' := [(1, .int (nI 3)), (0, .ref (a 0))]) hx hb dX5_tick_34 hl (k := 0) rfl (k_inc _) (by decide) rfl (fun ls hl => ?_)
          refine lv_goto (tgt := 16) hx hb dX5_tick_37 (by decide) ?_
          refine lv_iload_n hx hb dX5_tick_16 rfl (lv_at hl 0 rfl) ?_
          refine lv_iconst (v := nI 3) hx hb dX5_tick_17 (by decide +kernel) ?_
          refine lv_icmp_ge (tgt := 40) hx hb dX5_tick_18 (by decide) (fun _ => ?_) (fun c => absurd (by decide +kernel) c)
          refine lv_aload_n hx hb dX5_tick_40 rfl (lv_at hl 1 rfl) ?_
          refine k_get X hW inG5 rfl 0 (by decide) fl_X5_7 rfl 0 rfl (v := .ref (a 1)) rfl dX5_tick_41 ?_
          refine lv_iconst (v := nI 4) hx hb dX5_tick_44 (by decide +kernel) ?_
          refine lv_dup2_11 hx hb dX5_tick_45 rfl rfl ?_
          refine k_iald X hW 1 rfl (j := 4) (v := z_70 4) rfl (by decide) (by decide) rfl dX5_tick_46 ?_
          refine lv_iconst (v := nI 1) hx hb dX5_tick_47 (by decide +kernel) ?_
          refine lv_iadd hx hb dX5_tick_48 ?_
          refine k_iast X hW 1 rfl (j := 4) rfl (by decide) (by decide) dX5_tick_49 (w' := refW k a z (upd z_70 4 ((z_70 4) + (nI 1))) kp hi sl sv tx td) rfl (fun H locs hW => ?_)
          exact hQ _ _ _ _ _ hW dX5_tick_50 (by subst hz_70; subst hz_66; subst hz_60; subst hz_46; subst hz_40; subst hz_6; rw [m_X5_tick_f, if_pos c_4, if_pos c_8, if_pos c_48, if_pos c_68])
  · have c_4 : ¬ (tn (f 6) ≤ 0) := fun h => c_4 ((nI_leI (a := tn (f 6)) (b := 0) (by omega) (by omega)).mpr h)
    refine lv_aload_n hx hb dX5_tick_10 rfl (lv_at hl 0 rfl) ?_
    obtain ⟨z_76, hz_76⟩ : ∃ zq, m_X5_polls_f f = zq := ⟨_, rfl⟩
    have hR_z_76 : RF z_76 := by rw [← hz_76]; exact RF_polls hR (by omega)
    have hf_z_76 := hR_z_76.1
    have hq_77 := hf_z_76.1.2
    have hq_78 := hf_z_76.2.1.2
    have hq_79 := hf_z_76.2.2.1.2
    have hM_80 := (c_X5_polls l D k a z f kp hi sl sv tx td  hf (by omega))
    rw [hz_76] at hM_80
    refine kVv (As := []) (rest := []) X hW hM_80 yw_X5_polls lk_X5_77 ⟨Nat.le_of_ble_eq_true rfl, Nat.le_of_ble_eq_true rfl⟩ (wr := []) (List.Perm.refl _) (w' := refW k a z z_76 kp hi sl sv tx td) (List.Perm.refl _) (k_rcv X hW (ci := 5) (q0 := 0) rfl rfl) rfl hl.1 rfl (Nat.le_of_ble_eq_true rfl) ⟨Nat.zero_le _, Nat.zero_le _⟩ dX5_tick_11 (fun H locs hW => ?_)
    refine lv_iconst (v := nI 0) hx hb dX5_tick_14 (by decide +kernel) ?_
    refine lv_istore_n (lv' := [(1, .int (nI 0)), (0, .ref (a 0))]) hx hb dX5_tick_15 rfl hl (by decide) rfl (fun ls hl => ?_)
    refine lv_iload_n hx hb dX5_tick_16 rfl (lv_at hl 0 rfl) ?_
    refine lv_iconst (v := nI 3) hx hb dX5_tick_17 (by decide +kernel) ?_
    refine lv_icmp_ge (tgt := 40) hx hb dX5_tick_18 (by decide) (fun c => absurd c (by decide +kernel)) (fun _ => ?_)
    refine lv_aload_n hx hb dX5_tick_21 rfl (lv_at hl 1 rfl) ?_
    refine lv_iload_n hx hb dX5_tick_22 rfl (lv_at hl 0 rfl) ?_
    obtain ⟨z_82, hz_82⟩ : ∃ zq, m_X5_reason_r z_76 0 = zq := ⟨_, rfl⟩
    have hM_83 := (c_X5_reason l D k a z z_76 kp hi sl sv tx td 0 hf_z_76 (by first | decide | omega))
    rw [hz_82] at hM_83
    refine kVi (As := [.int (nI 0)]) (rest := []) X hW hM_83 yw_X5_reason lk_X5_80 ⟨Nat.le_of_ble_eq_true rfl, Nat.le_of_ble_eq_true rfl⟩ (wr := []) (List.Perm.refl _) (w' := refW k a z z_76 kp hi sl sv tx td) (List.Perm.refl _) (k_rcv X hW (ci := 5) (q0 := 0) rfl rfl) rfl hl.1 rfl (Nat.le_of_ble_eq_true rfl) ⟨Nat.zero_le _, Nat.zero_le _⟩ dX5_tick_23 (fun H locs hW => ?_)
    refine lv_if_ne (tgt := 34) hx hb dX5_tick_26 (by decide) (fun c_84 => ?_) (fun c_84 => ?_)
    · refine lv_iinc (v := nI 1) (lv' := [(1, .int (nI 1)), (0, .ref (a 0))]) hx hb dX5_tick_34 hl (k := 0) rfl (k_inc _) (by decide) rfl (fun ls hl => ?_)
      refine lv_goto (tgt := 16) hx hb dX5_tick_37 (by decide) ?_
      refine lv_iload_n hx hb dX5_tick_16 rfl (lv_at hl 0 rfl) ?_
      refine lv_iconst (v := nI 3) hx hb dX5_tick_17 (by decide +kernel) ?_
      refine lv_icmp_ge (tgt := 40) hx hb dX5_tick_18 (by decide) (fun c => absurd c (by decide +kernel)) (fun _ => ?_)
      refine lv_aload_n hx hb dX5_tick_21 rfl (lv_at hl 1 rfl) ?_
      refine lv_iload_n hx hb dX5_tick_22 rfl (lv_at hl 0 rfl) ?_
      obtain ⟨z_86, hz_86⟩ : ∃ zq, m_X5_reason_r z_76 1 = zq := ⟨_, rfl⟩
      have hM_87 := (c_X5_reason l D k a z z_76 kp hi sl sv tx td 1 hf_z_76 (by first | decide | omega))
      rw [hz_86] at hM_87
      refine kVi (As := [.int (nI 1)]) (rest := []) X hW hM_87 yw_X5_reason lk_X5_80 ⟨Nat.le_of_ble_eq_true rfl, Nat.le_of_ble_eq_true rfl⟩ (wr := []) (List.Perm.refl _) (w' := refW k a z z_76 kp hi sl sv tx td) (List.Perm.refl _) (k_rcv X hW (ci := 5) (q0 := 0) rfl rfl) rfl hl.1 rfl (Nat.le_of_ble_eq_true rfl) ⟨Nat.zero_le _, Nat.zero_le _⟩ dX5_tick_23 (fun H locs hW => ?_)
      refine lv_if_ne (tgt := 34) hx hb dX5_tick_26 (by decide) (fun c_88 => ?_) (fun c_88 => ?_)
      · refine lv_iinc (v := nI 2) (lv' := [(1, .int (nI 2)), (0, .ref (a 0))]) hx hb dX5_tick_34 hl (k := 0) rfl (k_inc _) (by decide) rfl (fun ls hl => ?_)
        refine lv_goto (tgt := 16) hx hb dX5_tick_37 (by decide) ?_
        refine lv_iload_n hx hb dX5_tick_16 rfl (lv_at hl 0 rfl) ?_
        refine lv_iconst (v := nI 3) hx hb dX5_tick_17 (by decide +kernel) ?_
        refine lv_icmp_ge (tgt := 40) hx hb dX5_tick_18 (by decide) (fun c => absurd c (by decide +kernel)) (fun _ => ?_)
        refine lv_aload_n hx hb dX5_tick_21 rfl (lv_at hl 1 rfl) ?_
        refine lv_iload_n hx hb dX5_tick_22 rfl (lv_at hl 0 rfl) ?_
        obtain ⟨z_90, hz_90⟩ : ∃ zq, m_X5_reason_r z_76 2 = zq := ⟨_, rfl⟩
        have hM_91 := (c_X5_reason l D k a z z_76 kp hi sl sv tx td 2 hf_z_76 (by first | decide | omega))
        rw [hz_90] at hM_91
        refine kVi (As := [.int (nI 2)]) (rest := []) X hW hM_91 yw_X5_reason lk_X5_80 ⟨Nat.le_of_ble_eq_true rfl, Nat.le_of_ble_eq_true rfl⟩ (wr := []) (List.Perm.refl _) (w' := refW k a z z_76 kp hi sl sv tx td) (List.Perm.refl _) (k_rcv X hW (ci := 5) (q0 := 0) rfl rfl) rfl hl.1 rfl (Nat.le_of_ble_eq_true rfl) ⟨Nat.zero_le _, Nat.zero_le _⟩ dX5_tick_23 (fun H locs hW => ?_)
        refine lv_if_ne (tgt := 34) hx hb dX5_tick_26 (by decide) (fun c_92 => ?_) (fun c_92 => ?_)
        · refine lv_iinc (v := nI 3) (lv' := [(1, .int (nI 3)), (0, .ref (a 0))]) hx hb dX5_tick_34 hl (k := 0) rfl (k_inc _) (by decide) rfl (fun ls hl => ?_)
          refine lv_goto (tgt := 16) hx hb dX5_tick_37 (by decide) ?_
          refine lv_iload_n hx hb dX5_tick_16 rfl (lv_at hl 0 rfl) ?_
          refine lv_iconst (v := nI 3) hx hb dX5_tick_17 (by decide +kernel) ?_
          refine lv_icmp_ge (tgt := 40) hx hb dX5_tick_18 (by decide) (fun _ => ?_) (fun c => absurd (by decide +kernel) c)
          refine lv_aload_n hx hb dX5_tick_40 rfl (lv_at hl 1 rfl) ?_
          refine k_get X hW inG5 rfl 0 (by decide) fl_X5_7 rfl 0 rfl (v := .ref (a 1)) rfl dX5_tick_41 ?_
          refine lv_iconst (v := nI 4) hx hb dX5_tick_44 (by decide +kernel) ?_
          refine lv_dup2_11 hx hb dX5_tick_45 rfl rfl ?_
          refine k_iald X hW 1 rfl (j := 4) (v := z_76 4) rfl (by decide) (by decide) rfl dX5_tick_46 ?_
          refine lv_iconst (v := nI 1) hx hb dX5_tick_47 (by decide +kernel) ?_
          refine lv_iadd hx hb dX5_tick_48 ?_
          refine k_iast X hW 1 rfl (j := 4) rfl (by decide) (by decide) dX5_tick_49 (w' := refW k a z (upd z_76 4 ((z_76 4) + (nI 1))) kp hi sl sv tx td) rfl (fun H locs hW => ?_)
          exact hQ _ _ _ _ _ hW dX5_tick_50 (by subst hz_90; subst hz_86; subst hz_82; subst hz_76; rw [m_X5_tick_f, if_neg c_4, if_neg c_84, if_neg c_88, if_neg c_92])
        · refine lv_aload_n hx hb dX5_tick_29 rfl (lv_at hl 1 rfl) ?_
          refine lv_iload_n hx hb dX5_tick_30 rfl (lv_at hl 0 rfl) ?_
          obtain ⟨z_94, hz_94⟩ : ∃ zq, m_X5_doCall_f z_76 2 = zq := ⟨_, rfl⟩
          have hR_z_94 : RF z_94 := by rw [← hz_94]; exact RF_call hR_z_76 (by decide) (by rw [hz_90]; exact c_92)
          have hf_z_94 := hR_z_94.1
          have hq_95 := hf_z_94.1.2
          have hq_96 := hf_z_94.2.1.2
          have hq_97 := hf_z_94.2.2.1.2
          have hM_98 := (c_X5_doCall l D k a z z_76 kp hi sl sv tx td 2 hf_z_76 (by first | decide | omega))
          rw [hz_94] at hM_98
          refine kVv (As := [.int (nI 2)]) (rest := []) X hW hM_98 yw_X5_doCall lk_X5_83 ⟨Nat.le_of_ble_eq_true rfl, Nat.le_of_ble_eq_true rfl⟩ (wr := []) (List.Perm.refl _) (w' := refW k a z z_94 kp hi sl sv tx td) (List.Perm.refl _) (k_rcv X hW (ci := 5) (q0 := 0) rfl rfl) rfl hl.1 rfl (Nat.le_of_ble_eq_true rfl) ⟨Nat.zero_le _, Nat.zero_le _⟩ dX5_tick_31 (fun H locs hW => ?_)
          refine lv_iinc (v := nI 3) (lv' := [(1, .int (nI 3)), (0, .ref (a 0))]) hx hb dX5_tick_34 hl (k := 0) rfl (k_inc _) (by decide) rfl (fun ls hl => ?_)
          refine lv_goto (tgt := 16) hx hb dX5_tick_37 (by decide) ?_
          refine lv_iload_n hx hb dX5_tick_16 rfl (lv_at hl 0 rfl) ?_
          refine lv_iconst (v := nI 3) hx hb dX5_tick_17 (by decide +kernel) ?_
          refine lv_icmp_ge (tgt := 40) hx hb dX5_tick_18 (by decide) (fun _ => ?_) (fun c => absurd (by decide +kernel) c)
          refine lv_aload_n hx hb dX5_tick_40 rfl (lv_at hl 1 rfl) ?_
          refine k_get X hW inG5 rfl 0 (by decide) fl_X5_7 rfl 0 rfl (v := .ref (a 1)) rfl dX5_tick_41 ?_
          refine lv_iconst (v := nI 4) hx hb dX5_tick_44 (by decide +kernel) ?_
          refine lv_dup2_11 hx hb dX5_tick_45 rfl rfl ?_
          refine k_iald X hW 1 rfl (j := 4) (v := z_94 4) rfl (by decide) (by decide) rfl dX5_tick_46 ?_
          refine lv_iconst (v := nI 1) hx hb dX5_tick_47 (by decide +kernel) ?_
          refine lv_iadd hx hb dX5_tick_48 ?_
          refine k_iast X hW 1 rfl (j := 4) rfl (by decide) (by decide) dX5_tick_49 (w' := refW k a z (upd z_94 4 ((z_94 4) + (nI 1))) kp hi sl sv tx td) rfl (fun H locs hW => ?_)
          exact hQ _ _ _ _ _ hW dX5_tick_50 (by subst hz_94; subst hz_90; subst hz_86; subst hz_82; subst hz_76; rw [m_X5_tick_f, if_neg c_4, if_neg c_84, if_neg c_88, if_pos c_92])
      · refine lv_aload_n hx hb dX5_tick_29 rfl (lv_at hl 1 rfl) ?_
        refine lv_iload_n hx hb dX5_tick_30 rfl (lv_at hl 0 rfl) ?_
        obtain ⟨z_100, hz_100⟩ : ∃ zq, m_X5_doCall_f z_76 1 = zq := ⟨_, rfl⟩
        have hR_z_100 : RF z_100 := by rw [← hz_100]; exact RF_call hR_z_76 (by decide) (by rw [hz_86]; exact c_88)
        have hf_z_100 := hR_z_100.1
        have hq_101 := hf_z_100.1.2
        have hq_102 := hf_z_100.2.1.2
        have hq_103 := hf_z_100.2.2.1.2
        have hM_104 := (c_X5_doCall l D k a z z_76 kp hi sl sv tx td 1 hf_z_76 (by first | decide | omega))
        rw [hz_100] at hM_104
        refine kVv (As := [.int (nI 1)]) (rest := []) X hW hM_104 yw_X5_doCall lk_X5_83 ⟨Nat.le_of_ble_eq_true rfl, Nat.le_of_ble_eq_true rfl⟩ (wr := []) (List.Perm.refl _) (w' := refW k a z z_100 kp hi sl sv tx td) (List.Perm.refl _) (k_rcv X hW (ci := 5) (q0 := 0) rfl rfl) rfl hl.1 rfl (Nat.le_of_ble_eq_true rfl) ⟨Nat.zero_le _, Nat.zero_le _⟩ dX5_tick_31 (fun H locs hW => ?_)
        refine lv_iinc (v := nI 2) (lv' := [(1, .int (nI 2)), (0, .ref (a 0))]) hx hb dX5_tick_34 hl (k := 0) rfl (k_inc _) (by decide) rfl (fun ls hl => ?_)
        refine lv_goto (tgt := 16) hx hb dX5_tick_37 (by decide) ?_
        refine lv_iload_n hx hb dX5_tick_16 rfl (lv_at hl 0 rfl) ?_
        refine lv_iconst (v := nI 3) hx hb dX5_tick_17 (by decide +kernel) ?_
        refine lv_icmp_ge (tgt := 40) hx hb dX5_tick_18 (by decide) (fun c => absurd c (by decide +kernel)) (fun _ => ?_)
        refine lv_aload_n hx hb dX5_tick_21 rfl (lv_at hl 1 rfl) ?_
        refine lv_iload_n hx hb dX5_tick_22 rfl (lv_at hl 0 rfl) ?_
        obtain ⟨z_106, hz_106⟩ : ∃ zq, m_X5_reason_r z_100 2 = zq := ⟨_, rfl⟩
        have hM_107 := (c_X5_reason l D k a z z_100 kp hi sl sv tx td 2 hf_z_100 (by first | decide | omega))
        rw [hz_106] at hM_107
        refine kVi (As := [.int (nI 2)]) (rest := []) X hW hM_107 yw_X5_reason lk_X5_80 ⟨Nat.le_of_ble_eq_true rfl, Nat.le_of_ble_eq_true rfl⟩ (wr := []) (List.Perm.refl _) (w' := refW k a z z_100 kp hi sl sv tx td) (List.Perm.refl _) (k_rcv X hW (ci := 5) (q0 := 0) rfl rfl) rfl hl.1 rfl (Nat.le_of_ble_eq_true rfl) ⟨Nat.zero_le _, Nat.zero_le _⟩ dX5_tick_23 (fun H locs hW => ?_)
        refine lv_if_ne (tgt := 34) hx hb dX5_tick_26 (by decide) (fun c_108 => ?_) (fun c_108 => ?_)
        · refine lv_iinc (v := nI 3) (lv' := [(1, .int (nI 3)), (0, .ref (a 0))]) hx hb dX5_tick_34 hl (k := 0) rfl (k_inc _) (by decide) rfl (fun ls hl => ?_)
          refine lv_goto (tgt := 16) hx hb dX5_tick_37 (by decide) ?_
          refine lv_iload_n hx hb dX5_tick_16 rfl (lv_at hl 0 rfl) ?_
          refine lv_iconst (v := nI 3) hx hb dX5_tick_17 (by decide +kernel) ?_
          refine lv_icmp_ge (tgt := 40) hx hb dX5_tick_18 (by decide) (fun _ => ?_) (fun c => absurd (by decide +kernel) c)
          refine lv_aload_n hx hb dX5_tick_40 rfl (lv_at hl 1 rfl) ?_
          refine k_get X hW inG5 rfl 0 (by decide) fl_X5_7 rfl 0 rfl (v := .ref (a 1)) rfl dX5_tick_41 ?_
          refine lv_iconst (v := nI 4) hx hb dX5_tick_44 (by decide +kernel) ?_
          refine lv_dup2_11 hx hb dX5_tick_45 rfl rfl ?_
          refine k_iald X hW 1 rfl (j := 4) (v := z_100 4) rfl (by decide) (by decide) rfl dX5_tick_46 ?_
          refine lv_iconst (v := nI 1) hx hb dX5_tick_47 (by decide +kernel) ?_
          refine lv_iadd hx hb dX5_tick_48 ?_
          refine k_iast X hW 1 rfl (j := 4) rfl (by decide) (by decide) dX5_tick_49 (w' := refW k a z (upd z_100 4 ((z_100 4) + (nI 1))) kp hi sl sv tx td) rfl (fun H locs hW => ?_)
          exact hQ _ _ _ _ _ hW dX5_tick_50 (by subst hz_106; subst hz_100; subst hz_86; subst hz_82; subst hz_76; rw [m_X5_tick_f, if_neg c_4, if_neg c_84, if_pos c_88, if_neg c_108])
        · refine lv_aload_n hx hb dX5_tick_29 rfl (lv_at hl 1 rfl) ?_
          refine lv_iload_n hx hb dX5_tick_30 rfl (lv_at hl 0 rfl) ?_
          obtain ⟨z_110, hz_110⟩ : ∃ zq, m_X5_doCall_f z_100 2 = zq := ⟨_, rfl⟩
          have hR_z_110 : RF z_110 := by rw [← hz_110]; exact RF_call hR_z_100 (by decide) (by rw [hz_106]; exact c_108)
          have hf_z_110 := hR_z_110.1
          have hq_111 := hf_z_110.1.2
          have hq_112 := hf_z_110.2.1.2
          have hq_113 := hf_z_110.2.2.1.2
          have hM_114 := (c_X5_doCall l D k a z z_100 kp hi sl sv tx td 2 hf_z_100 (by first | decide | omega))
          rw [hz_110] at hM_114
          refine kVv (As := [.int (nI 2)]) (rest := []) X hW hM_114 yw_X5_doCall lk_X5_83 ⟨Nat.le_of_ble_eq_true rfl, Nat.le_of_ble_eq_true rfl⟩ (wr := []) (List.Perm.refl _) (w' := refW k a z z_110 kp hi sl sv tx td) (List.Perm.refl _) (k_rcv X hW (ci := 5) (q0 := 0) rfl rfl) rfl hl.1 rfl (Nat.le_of_ble_eq_true rfl) ⟨Nat.zero_le _, Nat.zero_le _⟩ dX5_tick_31 (fun H locs hW => ?_)
          refine lv_iinc (v := nI 3) (lv' := [(1, .int (nI 3)), (0, .ref (a 0))]) hx hb dX5_tick_34 hl (k := 0) rfl (k_inc _) (by decide) rfl (fun ls hl => ?_)
          refine lv_goto (tgt := 16) hx hb dX5_tick_37 (by decide) ?_
          refine lv_iload_n hx hb dX5_tick_16 rfl (lv_at hl 0 rfl) ?_
          refine lv_iconst (v := nI 3) hx hb dX5_tick_17 (by decide +kernel) ?_
          refine lv_icmp_ge (tgt := 40) hx hb dX5_tick_18 (by decide) (fun _ => ?_) (fun c => absurd (by decide +kernel) c)
          refine lv_aload_n hx hb dX5_tick_40 rfl (lv_at hl 1 rfl) ?_
          refine k_get X hW inG5 rfl 0 (by decide) fl_X5_7 rfl 0 rfl (v := .ref (a 1)) rfl dX5_tick_41 ?_
          refine lv_iconst (v := nI 4) hx hb dX5_tick_44 (by decide +kernel) ?_
          refine lv_dup2_11 hx hb dX5_tick_45 rfl rfl ?_
          refine k_iald X hW 1 rfl (j := 4) (v := z_110 4) rfl (by decide) (by decide) rfl dX5_tick_46 ?_
          refine lv_iconst (v := nI 1) hx hb dX5_tick_47 (by decide +kernel) ?_
          refine lv_iadd hx hb dX5_tick_48 ?_
          refine k_iast X hW 1 rfl (j := 4) rfl (by decide) (by decide) dX5_tick_49 (w' := refW k a z (upd z_110 4 ((z_110 4) + (nI 1))) kp hi sl sv tx td) rfl (fun H locs hW => ?_)
          exact hQ _ _ _ _ _ hW dX5_tick_50 (by subst hz_110; subst hz_106; subst hz_100; subst hz_86; subst hz_82; subst hz_76; rw [m_X5_tick_f, if_neg c_4, if_neg c_84, if_pos c_88, if_pos c_108])
    · refine lv_aload_n hx hb dX5_tick_29 rfl (lv_at hl 1 rfl) ?_
      refine lv_iload_n hx hb dX5_tick_30 rfl (lv_at hl 0 rfl) ?_
      obtain ⟨z_116, hz_116⟩ : ∃ zq, m_X5_doCall_f z_76 0 = zq := ⟨_, rfl⟩
      have hR_z_116 : RF z_116 := by rw [← hz_116]; exact RF_call hR_z_76 (by decide) (by rw [hz_82]; exact c_84)
      have hf_z_116 := hR_z_116.1
      have hq_117 := hf_z_116.1.2
      have hq_118 := hf_z_116.2.1.2
      have hq_119 := hf_z_116.2.2.1.2
      have hM_120 := (c_X5_doCall l D k a z z_76 kp hi sl sv tx td 0 hf_z_76 (by first | decide | omega))
      rw [hz_116] at hM_120
      refine kVv (As := [.int (nI 0)]) (rest := []) X hW hM_120 yw_X5_doCall lk_X5_83 ⟨Nat.le_of_ble_eq_true rfl, Nat.le_of_ble_eq_true rfl⟩ (wr := []) (List.Perm.refl _) (w' := refW k a z z_116 kp hi sl sv tx td) (List.Perm.refl _) (k_rcv X hW (ci := 5) (q0 := 0) rfl rfl) rfl hl.1 rfl (Nat.le_of_ble_eq_true rfl) ⟨Nat.zero_le _, Nat.zero_le _⟩ dX5_tick_31 (fun H locs hW => ?_)
      refine lv_iinc (v := nI 1) (lv' := [(1, .int (nI 1)), (0, .ref (a 0))]) hx hb dX5_tick_34 hl (k := 0) rfl (k_inc _) (by decide) rfl (fun ls hl => ?_)
      refine lv_goto (tgt := 16) hx hb dX5_tick_37 (by decide) ?_
      refine lv_iload_n hx hb dX5_tick_16 rfl (lv_at hl 0 rfl) ?_
      refine lv_iconst (v := nI 3) hx hb dX5_tick_17 (by decide +kernel) ?_
      refine lv_icmp_ge (tgt := 40) hx hb dX5_tick_18 (by decide) (fun c => absurd c (by decide +kernel)) (fun _ => ?_)
      refine lv_aload_n hx hb dX5_tick_21 rfl (lv_at hl 1 rfl) ?_
      refine lv_iload_n hx hb dX5_tick_22 rfl (lv_at hl 0 rfl) ?_
      obtain ⟨z_122, hz_122⟩ : ∃ zq, m_X5_reason_r z_116 1 = zq := ⟨_, rfl⟩
      have hM_123 := (c_X5_reason l D k a z z_116 kp hi sl sv tx td 1 hf_z_116 (by first | decide | omega))
      rw [hz_122] at hM_123
      refine kVi (As := [.int (nI 1)]) (rest := []) X hW hM_123 yw_X5_reason lk_X5_80 ⟨Nat.le_of_ble_eq_true rfl, Nat.le_of_ble_eq_true rfl⟩ (wr := []) (List.Perm.refl _) (w' := refW k a z z_116 kp hi sl sv tx td) (List.Perm.refl _) (k_rcv X hW (ci := 5) (q0 := 0) rfl rfl) rfl hl.1 rfl (Nat.le_of_ble_eq_true rfl) ⟨Nat.zero_le _, Nat.zero_le _⟩ dX5_tick_23 (fun H locs hW => ?_)
      refine lv_if_ne (tgt := 34) hx hb dX5_tick_26 (by decide) (fun c_124 => ?_) (fun c_124 => ?_)
      · refine lv_iinc (v := nI 2) (lv' := [(1, .int (nI 2)), (0, .ref (a 0))]) hx hb dX5_tick_34 hl (k := 0) rfl (k_inc _) (by decide) rfl (fun ls hl => ?_)
        refine lv_goto (tgt := 16) hx hb dX5_tick_37 (by decide) ?_
        refine lv_iload_n hx hb dX5_tick_16 rfl (lv_at hl 0 rfl) ?_
        refine lv_iconst (v := nI 3) hx hb dX5_tick_17 (by decide +kernel) ?_
        refine lv_icmp_ge (tgt := 40) hx hb dX5_tick_18 (by decide) (fun c => absurd c (by decide +kernel)) (fun _ => ?_)
        refine lv_aload_n hx hb dX5_tick_21 rfl (lv_at hl 1 rfl) ?_
        refine lv_iload_n hx hb dX5_tick_22 rfl (lv_at hl 0 rfl) ?_
        obtain ⟨z_126, hz_126⟩ : ∃ zq, m_X5_reason_r z_116 2 = zq := ⟨_, rfl⟩
        have hM_127 := (c_X5_reason l D k a z z_116 kp hi sl sv tx td 2 hf_z_116 (by first | decide | omega))
        rw [hz_126] at hM_127
        refine kVi (As := [.int (nI 2)]) (rest := []) X hW hM_127 yw_X5_reason lk_X5_80 ⟨Nat.le_of_ble_eq_true rfl, Nat.le_of_ble_eq_true rfl⟩ (wr := []) (List.Perm.refl _) (w' := refW k a z z_116 kp hi sl sv tx td) (List.Perm.refl _) (k_rcv X hW (ci := 5) (q0 := 0) rfl rfl) rfl hl.1 rfl (Nat.le_of_ble_eq_true rfl) ⟨Nat.zero_le _, Nat.zero_le _⟩ dX5_tick_23 (fun H locs hW => ?_)
        refine lv_if_ne (tgt := 34) hx hb dX5_tick_26 (by decide) (fun c_128 => ?_) (fun c_128 => ?_)
        · refine lv_iinc (v := nI 3) (lv' := [(1, .int (nI 3)), (0, .ref (a 0))]) hx hb dX5_tick_34 hl (k := 0) rfl (k_inc _) (by decide) rfl (fun ls hl => ?_)
          refine lv_goto (tgt := 16) hx hb dX5_tick_37 (by decide) ?_
          refine lv_iload_n hx hb dX5_tick_16 rfl (lv_at hl 0 rfl) ?_
          refine lv_iconst (v := nI 3) hx hb dX5_tick_17 (by decide +kernel) ?_
          refine lv_icmp_ge (tgt := 40) hx hb dX5_tick_18 (by decide) (fun _ => ?_) (fun c => absurd (by decide +kernel) c)
          refine lv_aload_n hx hb dX5_tick_40 rfl (lv_at hl 1 rfl) ?_
          refine k_get X hW inG5 rfl 0 (by decide) fl_X5_7 rfl 0 rfl (v := .ref (a 1)) rfl dX5_tick_41 ?_
          refine lv_iconst (v := nI 4) hx hb dX5_tick_44 (by decide +kernel) ?_
          refine lv_dup2_11 hx hb dX5_tick_45 rfl rfl ?_
          refine k_iald X hW 1 rfl (j := 4) (v := z_116 4) rfl (by decide) (by decide) rfl dX5_tick_46 ?_
          refine lv_iconst (v := nI 1) hx hb dX5_tick_47 (by decide +kernel) ?_
          refine lv_iadd hx hb dX5_tick_48 ?_
          refine k_iast X hW 1 rfl (j := 4) rfl (by decide) (by decide) dX5_tick_49 (w' := refW k a z (upd z_116 4 ((z_116 4) + (nI 1))) kp hi sl sv tx td) rfl (fun H locs hW => ?_)
          exact hQ _ _ _ _ _ hW dX5_tick_50 (by subst hz_126; subst hz_122; subst hz_116; subst hz_82; subst hz_76; rw [m_X5_tick_f, if_neg c_4, if_pos c_84, if_neg c_124, if_neg c_128])
        · refine lv_aload_n hx hb dX5_tick_29 rfl (lv_at hl 1 rfl) ?_
          refine lv_iload_n hx hb dX5_tick_30 rfl (lv_at hl 0 rfl) ?_
          obtain ⟨z_130, hz_130⟩ : ∃ zq, m_X5_doCall_f z_116 2 = zq := ⟨_, rfl⟩
          have hR_z_130 : RF z_130 := by rw [← hz_130]; exact RF_call hR_z_116 (by decide) (by rw [hz_126]; exact c_128)
          have hf_z_130 := hR_z_130.1
          have hq_131 := hf_z_130.1.2
          have hq_132 := hf_z_130.2.1.2
          have hq_133 := hf_z_130.2.2.1.2
          have hM_134 := (c_X5_doCall l D k a z z_116 kp hi sl sv tx td 2 hf_z_116 (by first | decide | omega))
          rw [hz_130] at hM_134
          refine kVv (As := [.int (nI 2)]) (rest := []) X hW hM_134 yw_X5_doCall lk_X5_83 ⟨Nat.le_of_ble_eq_true rfl, Nat.le_of_ble_eq_true rfl⟩ (wr := []) (List.Perm.refl _) (w' := refW k a z z_130 kp hi sl sv tx td) (List.Perm.refl _) (k_rcv X hW (ci := 5) (q0 := 0) rfl rfl) rfl hl.1 rfl (Nat.le_of_ble_eq_true rfl) ⟨Nat.zero_le _, Nat.zero_le _⟩ dX5_tick_31 (fun H locs hW => ?_)
          refine lv_iinc (v := nI 3) (lv' := [(1, .int (nI 3)), (0, .ref (a 0))]) hx hb dX5_tick_34 hl (k := 0) rfl (k_inc _) (by decide) rfl (fun ls hl => ?_)
          refine lv_goto (tgt := 16) hx hb dX5_tick_37 (by decide) ?_
          refine lv_iload_n hx hb dX5_tick_16 rfl (lv_at hl 0 rfl) ?_
          refine lv_iconst (v := nI 3) hx hb dX5_tick_17 (by decide +kernel) ?_
          refine lv_icmp_ge (tgt := 40) hx hb dX5_tick_18 (by decide) (fun _ => ?_) (fun c => absurd (by decide +kernel) c)
          refine lv_aload_n hx hb dX5_tick_40 rfl (lv_at hl 1 rfl) ?_
          refine k_get X hW inG5 rfl 0 (by decide) fl_X5_7 rfl 0 rfl (v := .ref (a 1)) rfl dX5_tick_41 ?_
          refine lv_iconst (v := nI 4) hx hb dX5_tick_44 (by decide +kernel) ?_
          refine lv_dup2_11 hx hb dX5_tick_45 rfl rfl ?_
          refine k_iald X hW 1 rfl (j := 4) (v := z_130 4) rfl (by decide) (by decide) rfl dX5_tick_46 ?_
          refine lv_iconst (v := nI 1) hx hb dX5_tick_47 (by decide +kernel) ?_
          refine lv_iadd hx hb dX5_tick_48 ?_
          refine k_iast X hW 1 rfl (j := 4) rfl (by decide) (by decide) dX5_tick_49 (w' := refW k a z (upd z_130 4 ((z_130 4) + (nI 1))) kp hi sl sv tx td) rfl (fun H locs hW => ?_)
          exact hQ _ _ _ _ _ hW dX5_tick_50 (by subst hz_130; subst hz_126; subst hz_122; subst hz_116; subst hz_82; subst hz_76; rw [m_X5_tick_f, if_neg c_4, if_pos c_84, if_neg c_124, if_pos c_128])
      · refine lv_aload_n hx hb dX5_tick_29 rfl (lv_at hl 1 rfl) ?_
        refine lv_iload_n hx hb dX5_tick_30 rfl (lv_at hl 0 rfl) ?_
        obtain ⟨z_136, hz_136⟩ : ∃ zq, m_X5_doCall_f z_116 1 = zq := ⟨_, rfl⟩
        have hR_z_136 : RF z_136 := by rw [← hz_136]; exact RF_call hR_z_116 (by decide) (by rw [hz_122]; exact c_124)
        have hf_z_136 := hR_z_136.1
        have hq_137 := hf_z_136.1.2
        have hq_138 := hf_z_136.2.1.2
        have hq_139 := hf_z_136.2.2.1.2
        have hM_140 := (c_X5_doCall l D k a z z_116 kp hi sl sv tx td 1 hf_z_116 (by first | decide | omega))
        rw [hz_136] at hM_140
        refine kVv (As := [.int (nI 1)]) (rest := []) X hW hM_140 yw_X5_doCall lk_X5_83 ⟨Nat.le_of_ble_eq_true rfl, Nat.le_of_ble_eq_true rfl⟩ (wr := []) (List.Perm.refl _) (w' := refW k a z z_136 kp hi sl sv tx td) (List.Perm.refl _) (k_rcv X hW (ci := 5) (q0 := 0) rfl rfl) rfl hl.1 rfl (Nat.le_of_ble_eq_true rfl) ⟨Nat.zero_le _, Nat.zero_le _⟩ dX5_tick_31 (fun H locs hW => ?_)
        refine lv_iinc (v := nI 2) (lv' := [(1, .int (nI 2)), (0, .ref (a 0))]) hx hb dX5_tick_34 hl (k := 0) rfl (k_inc _) (by decide) rfl (fun ls hl => ?_)
        refine lv_goto (tgt := 16) hx hb dX5_tick_37 (by decide) ?_
        refine lv_iload_n hx hb dX5_tick_16 rfl (lv_at hl 0 rfl) ?_
        refine lv_iconst (v := nI 3) hx hb dX5_tick_17 (by decide +kernel) ?_
        refine lv_icmp_ge (tgt := 40) hx hb dX5_tick_18 (by decide) (fun c => absurd c (by decide +kernel)) (fun _ => ?_)
        refine lv_aload_n hx hb dX5_tick_21 rfl (lv_at hl 1 rfl) ?_
        refine lv_iload_n hx hb dX5_tick_22 rfl (lv_at hl 0 rfl) ?_
        obtain ⟨z_142, hz_142⟩ : ∃ zq, m_X5_reason_r z_136 2 = zq := ⟨_, rfl⟩
        have hM_143 := (c_X5_reason l D k a z z_136 kp hi sl sv tx td 2 hf_z_136 (by first | decide | omega))
        rw [hz_142] at hM_143
        refine kVi (As := [.int (nI 2)]) (rest := []) X hW hM_143 yw_X5_reason lk_X5_80 ⟨Nat.le_of_ble_eq_true rfl, Nat.le_of_ble_eq_true rfl⟩ (wr := []) (List.Perm.refl _) (w' := refW k a z z_136 kp hi sl sv tx td) (List.Perm.refl _) (k_rcv X hW (ci := 5) (q0 := 0) rfl rfl) rfl hl.1 rfl (Nat.le_of_ble_eq_true rfl) ⟨Nat.zero_le _, Nat.zero_le _⟩ dX5_tick_23 (fun H locs hW => ?_)
        refine lv_if_ne (tgt := 34) hx hb dX5_tick_26 (by decide) (fun c_144 => ?_) (fun c_144 => ?_)
        · refine lv_iinc (v := nI 3) (lv' := [(1, .int (nI 3)), (0, .ref (a 0))]) hx hb dX5_tick_34 hl (k := 0) rfl (k_inc _) (by decide) rfl (fun ls hl => ?_)
          refine lv_goto (tgt := 16) hx hb dX5_tick_37 (by decide) ?_
          refine lv_iload_n hx hb dX5_tick_16 rfl (lv_at hl 0 rfl) ?_
          refine lv_iconst (v := nI 3) hx hb dX5_tick_17 (by decide +kernel) ?_
          refine lv_icmp_ge (tgt := 40) hx hb dX5_tick_18 (by decide) (fun _ => ?_) (fun c => absurd (by decide +kernel) c)
          refine lv_aload_n hx hb dX5_tick_40 rfl (lv_at hl 1 rfl) ?_
          refine k_get X hW inG5 rfl 0 (by decide) fl_X5_7 rfl 0 rfl (v := .ref (a 1)) rfl dX5_tick_41 ?_
          refine lv_iconst (v := nI 4) hx hb dX5_tick_44 (by decide +kernel) ?_
          refine lv_dup2_11 hx hb dX5_tick_45 rfl rfl ?_
          refine k_iald X hW 1 rfl (j := 4) (v := z_136 4) rfl (by decide) (by decide) rfl dX5_tick_46 ?_
          refine lv_iconst (v := nI 1) hx hb dX5_tick_47 (by decide +kernel) ?_
          refine lv_iadd hx hb dX5_tick_48 ?_
          refine k_iast X hW 1 rfl (j := 4) rfl (by decide) (by decide) dX5_tick_49 (w' := refW k a z (upd z_136 4 ((z_136 4) + (nI 1))) kp hi sl sv tx td) rfl (fun H locs hW => ?_)
          exact hQ _ _ _ _ _ hW dX5_tick_50 (by subst hz_142; subst hz_136; subst hz_122; subst hz_116; subst hz_82; subst hz_76; rw [m_X5_tick_f, if_neg c_4, if_pos c_84, if_pos c_124, if_neg c_144])
        · refine lv_aload_n hx hb dX5_tick_29 rfl (lv_at hl 1 rfl) ?_
          refine lv_iload_n hx hb dX5_tick_30 rfl (lv_at hl 0 rfl) ?_
          obtain ⟨z_146, hz_146⟩ : ∃ zq, m_X5_doCall_f z_136 2 = zq := ⟨_, rfl⟩
          have hR_z_146 : RF z_146 := by rw [← hz_146]; exact RF_call hR_z_136 (by decide) (by rw [hz_142]; exact c_144)
          have hf_z_146 := hR_z_146.1
          have hq_147 := hf_z_146.1.2
          have hq_148 := hf_z_146.2.1.2
          have hq_149 := hf_z_146.2.2.1.2
          have hM_150 := (c_X5_doCall l D k a z z_136 kp hi sl sv tx td 2 hf_z_136 (by first | decide | omega))
          rw [hz_146] at hM_150
          refine kVv (As := [.int (nI 2)]) (rest := []) X hW hM_150 yw_X5_doCall lk_X5_83 ⟨Nat.le_of_ble_eq_true rfl, Nat.le_of_ble_eq_true rfl⟩ (wr := []) (List.Perm.refl _) (w' := refW k a z z_146 kp hi sl sv tx td) (List.Perm.refl _) (k_rcv X hW (ci := 5) (q0 := 0) rfl rfl) rfl hl.1 rfl (Nat.le_of_ble_eq_true rfl) ⟨Nat.zero_le _, Nat.zero_le _⟩ dX5_tick_31 (fun H locs hW => ?_)
          refine lv_iinc (v := nI 3) (lv' := [(1, .int (nI 3)), (0, .ref (a 0))]) hx hb dX5_tick_34 hl (k := 0) rfl (k_inc _) (by decide) rfl (fun ls hl => ?_)
          refine lv_goto (tgt := 16) hx hb dX5_tick_37 (by decide) ?_
          refine lv_iload_n hx hb dX5_tick_16 rfl (lv_at hl 0 rfl) ?_
          refine lv_iconst (v := nI 3) hx hb dX5_tick_17 (by decide +kernel) ?_
          refine lv_icmp_ge (tgt := 40) hx hb dX5_tick_18 (by decide) (fun _ => ?_) (fun c => absurd (by decide +kernel) c)
          refine lv_aload_n hx hb dX5_tick_40 rfl (lv_at hl 1 rfl) ?_
          refine k_get X hW inG5 rfl 0 (by decide) fl_X5_7 rfl 0 rfl (v := .ref (a 1)) rfl dX5_tick_41 ?_
          refine lv_iconst (v := nI 4) hx hb dX5_tick_44 (by decide +kernel) ?_
          refine lv_dup2_11 hx hb dX5_tick_45 rfl rfl ?_
          refine k_iald X hW 1 rfl (j := 4) (v := z_146 4) rfl (by decide) (by decide) rfl dX5_tick_46 ?_
          refine lv_iconst (v := nI 1) hx hb dX5_tick_47 (by decide +kernel) ?_
          refine lv_iadd hx hb dX5_tick_48 ?_
          refine k_iast X hW 1 rfl (j := 4) rfl (by decide) (by decide) dX5_tick_49 (w' := refW k a z (upd z_146 4 ((z_146 4) + (nI 1))) kp hi sl sv tx td) rfl (fun H locs hW => ?_)
          exact hQ _ _ _ _ _ hW dX5_tick_50 (by subst hz_146; subst hz_142; subst hz_136; subst hz_122; subst hz_116; subst hz_82; subst hz_76; rw [m_X5_tick_f, if_neg c_4, if_pos c_84, if_pos c_124, if_pos c_144])
theorem RF_tick {f : Nat → Int32} (h : RF f) : RF (m_X5_tick_f f) := by
  rw [m_X5_tick_f]
  by_cases hc_0 : tn (f 6) ≤ 0
  · rw [if_pos hc_0]
    by_cases hc_1 : (m_X5_reason_r f 0) = 0
    · rw [if_pos hc_1]
      by_cases hc_2 : (m_X5_reason_r (m_X5_doCall_f f 0) 1) = 0
      · rw [if_pos hc_2]
        by_cases hc_3 : (m_X5_reason_r (m_X5_doCall_f (m_X5_doCall_f f 0) 1) 2) = 0
        · rw [if_pos hc_3]
          exact (RF_4 (RF_call (RF_call (RF_call h (by decide) hc_1) (by decide) hc_2) (by decide) hc_3))
        · rw [if_neg hc_3]
          exact (RF_4 (RF_call (RF_call h (by decide) hc_1) (by decide) hc_2))
      · rw [if_neg hc_2]
        by_cases hc_3 : (m_X5_reason_r (m_X5_doCall_f f 0) 2) = 0
        · rw [if_pos hc_3]
          exact (RF_4 (RF_call (RF_call h (by decide) hc_1) (by decide) hc_3))
        · rw [if_neg hc_3]
          exact (RF_4 (RF_call h (by decide) hc_1))
    · rw [if_neg hc_1]
      by_cases hc_2 : (m_X5_reason_r f 1) = 0
      · rw [if_pos hc_2]
        by_cases hc_3 : (m_X5_reason_r (m_X5_doCall_f f 1) 2) = 0
        · rw [if_pos hc_3]
          exact (RF_4 (RF_call (RF_call h (by decide) hc_2) (by decide) hc_3))
        · rw [if_neg hc_3]
          exact (RF_4 (RF_call h (by decide) hc_2))
      · rw [if_neg hc_2]
        by_cases hc_3 : (m_X5_reason_r f 2) = 0
        · rw [if_pos hc_3]
          exact (RF_4 (RF_call h (by decide) hc_3))
        · rw [if_neg hc_3]
          exact (RF_4 h)
  · rw [if_neg hc_0]
    by_cases hc_1 : (m_X5_reason_r (m_X5_polls_f f) 0) = 0
    · rw [if_pos hc_1]
      by_cases hc_2 : (m_X5_reason_r (m_X5_doCall_f (m_X5_polls_f f) 0) 1) = 0
      · rw [if_pos hc_2]
        by_cases hc_3 : (m_X5_reason_r (m_X5_doCall_f (m_X5_doCall_f (m_X5_polls_f f) 0) 1) 2) = 0
        · rw [if_pos hc_3]
          exact (RF_4 (RF_call (RF_call (RF_call (RF_polls h (by omega)) (by decide) hc_1) (by decide) hc_2) (by decide) hc_3))
        · rw [if_neg hc_3]
          exact (RF_4 (RF_call (RF_call (RF_polls h (by omega)) (by decide) hc_1) (by decide) hc_2))
      · rw [if_neg hc_2]
        by_cases hc_3 : (m_X5_reason_r (m_X5_doCall_f (m_X5_polls_f f) 0) 2) = 0
        · rw [if_pos hc_3]
          exact (RF_4 (RF_call (RF_call (RF_polls h (by omega)) (by decide) hc_1) (by decide) hc_3))
        · rw [if_neg hc_3]
          exact (RF_4 (RF_call (RF_polls h (by omega)) (by decide) hc_1))
    · rw [if_neg hc_1]
      by_cases hc_2 : (m_X5_reason_r (m_X5_polls_f f) 1) = 0
      · rw [if_pos hc_2]
        by_cases hc_3 : (m_X5_reason_r (m_X5_doCall_f (m_X5_polls_f f) 1) 2) = 0
        · rw [if_pos hc_3]
          exact (RF_4 (RF_call (RF_call (RF_polls h (by omega)) (by decide) hc_2) (by decide) hc_3))
        · rw [if_neg hc_3]
          exact (RF_4 (RF_call (RF_polls h (by omega)) (by decide) hc_2))
      · rw [if_neg hc_2]
        by_cases hc_3 : (m_X5_reason_r (m_X5_polls_f f) 2) = 0
        · rw [if_pos hc_3]
          exact (RF_4 (RF_call (RF_polls h (by omega)) (by decide) hc_3))
        · rw [if_neg hc_3]
          exact (RF_4 (RF_polls h (by omega)))
def lp_ticks : Nat → (Nat → Int32) → (Nat → Int32)
  | 0, f => f
  | r + 1, f => lp_ticks r (m_X5_tick_f f)
theorem RF_ticks : ∀ (r : Nat) {f : Nat → Int32}, RF f → RF (lp_ticks r f) := by
  intro r
  induction r with
  | zero => intro f h; exact h
  | succ r ih => intro f h; exact ih (RF_tick h)
def m_X5_ticks_f (f : Nat → Int32) (n : Nat) : Nat → Int32 := lp_ticks n f
def m_X5_ticks_r (f : Nat → Int32) (n : Nat) : Int32 := m_X5_allOf_r (lp_ticks n f) 5 - m_X5_allOf_r f 5
set_option maxHeartbeats 4000000 in
set_option maxRecDepth 100000 in
theorem c_X5_ticks (l : Launch) (D : va_G) (k : Nat → ClassId) (a : Nat → Nat) (z : Nat → Int32) (f : Nat → Int32) (kp : Nat → Int32) (hi : Nat → Int32) (sl : Nat → Int32) (sv : Nat → Int32) (tx : Nat → Int32) (td : Nat → Int32) (n : Nat) (hR : RF f) (hn : n < 2 ^ 31) : mI l yX5_ticks (wsY yX5_ticks cX5_ticks 4 (some .int)) 6 D k [.ref (a 0), .int (nI n)] (refW k a z f kp hi sl sv tx td) (refW k a z (m_X5_ticks_f f n) kp hi sl sv tx td) (m_X5_ticks_r f n) := by
  refine mI_intro rfl (Nat.le_of_ble_eq_true rfl) (Or.inl rfl) ?_
  intro p e s m args below meth c A Q ls X hW hl hQ
  have hx := X.hx
  have hb := X.hb
  have hl : lv_has ls 4 [(0, .ref (a 0)), (1, .int (nI n))] := hl
  refine lv_aload_n hx hb dX5_ticks_0 rfl (lv_at hl 0 rfl) ?_
  refine lv_iconst (v := nI 5) hx hb dX5_ticks_1 (by decide +kernel) ?_
  obtain ⟨z_1, hz_1⟩ : ∃ zq, m_X5_allOf_r f 5 = zq := ⟨_, rfl⟩
  have hM_2 := (c_X5_allOf l D k a z f kp hi sl sv tx td 5 (by first | decide | omega))
  rw [hz_1] at hM_2
  refine kVi (As := [.int (nI 5)]) (rest := []) X hW hM_2 yw_X5_allOf lk_X5_86 ⟨Nat.le_of_ble_eq_true rfl, Nat.le_of_ble_eq_true rfl⟩ (wr := []) (List.Perm.refl _) (w' := refW k a z f kp hi sl sv tx td) (List.Perm.refl _) (k_rcv X hW (ci := 5) (q0 := 0) rfl rfl) rfl hl.1 rfl (Nat.le_of_ble_eq_true rfl) ⟨Nat.zero_le _, Nat.zero_le _⟩ dX5_ticks_2 (fun H locs hW => ?_)
  refine lv_istore_n (lv' := [(2, .int z_1), (0, .ref (a 0)), (1, .int (nI n))]) hx hb dX5_ticks_5 rfl hl (by decide) rfl (fun ls hl => ?_)
  refine lv_iconst (v := nI 0) hx hb dX5_ticks_6 (by decide +kernel) ?_
  refine lv_istore_n (lv' := [(3, .int (nI 0)), (2, .int z_1), (0, .ref (a 0)), (1, .int (nI n))]) hx hb dX5_ticks_7 rfl hl (by decide) rfl (fun ls hl => ?_)
  have lp : ∀ (r i : Nat) (f' : Nat → Int32), RF f' → ∀ (H : Heap) (locs : List Loc) (ls : Array Slot), i + r = n → lp_ticks n f = lp_ticks r f' → KW D A s (refW k a z f' kp hi sl sv tx td) H locs → lv_has ls 4 [(3, .int (nI i)), (2, .int z_1), (0, .ref (a 0)), (1, .int (nI n))] → W p l e (rmD 6) s m args below meth c H locs 0 0 Q (F0 m 8 ls []) := by
    intro r
    induction r with
    | zero =>
      intro i f' hR' H locs ls hir hu hW hl
      refine lv_iload_n hx hb dX5_ticks_8 rfl (lv_at hl 0 rfl) ?_
      refine lv_iload_n hx hb dX5_ticks_9 rfl (lv_at hl 3 rfl) ?_
      refine lv_icmp_ge (tgt := 23) hx hb dX5_ticks_10 (by decide) (fun c_3 => ?_) (fun c_3 => ?_)
      · have c_3 : n ≤ i := (nI_leI (a := n) (b := i) (by omega) (by omega)).mp c_3
        refine lv_aload_n hx hb dX5_ticks_23 rfl (lv_at hl 2 rfl) ?_
        refine lv_iconst (v := nI 5) hx hb dX5_ticks_24 (by decide +kernel) ?_
        obtain ⟨z_4, hz_4⟩ : ∃ zq, m_X5_allOf_r f' 5 = zq := ⟨_, rfl⟩
        have hM_5 := (c_X5_allOf l D k a z f' kp hi sl sv tx td 5 (by first | decide | omega))
        rw [hz_4] at hM_5
        refine kVi (As := [.int (nI 5)]) (rest := []) X hW hM_5 yw_X5_allOf lk_X5_86 ⟨Nat.le_of_ble_eq_true rfl, Nat.le_of_ble_eq_true rfl⟩ (wr := []) (List.Perm.refl _) (w' := refW k a z f' kp hi sl sv tx td) (List.Perm.refl _) (k_rcv X hW (ci := 5) (q0 := 0) rfl rfl) rfl hl.1 rfl (Nat.le_of_ble_eq_true rfl) ⟨Nat.zero_le _, Nat.zero_le _⟩ dX5_ticks_25 (fun H locs hW => ?_)
        refine lv_iload_n hx hb dX5_ticks_28 rfl (lv_at hl 1 rfl) ?_
        refine lv_isub hx hb dX5_ticks_29 ?_
        exact hQ _ _ _ _ _ _ hW dX5_ticks_30 (by subst hz_4; subst hz_1; rw [m_X5_ticks_r, hu, lp_ticks]) (by rw [m_X5_ticks_f, hu, lp_ticks])
      · have c_3 : ¬ (n ≤ i) := fun h => c_3 ((nI_leI (a := n) (b := i) (by omega) (by omega)).mpr h)
        omega
    | succ r ih =>
      intro i f' hR' H locs ls hir hu hW hl
      refine lv_iload_n hx hb dX5_ticks_8 rfl (lv_at hl 0 rfl) ?_
      refine lv_iload_n hx hb dX5_ticks_9 rfl (lv_at hl 3 rfl) ?_
      refine lv_icmp_ge (tgt := 23) hx hb dX5_ticks_10 (by decide) (fun c_6 => ?_) (fun c_6 => ?_)
      · have c_6 : n ≤ i := (nI_leI (a := n) (b := i) (by omega) (by omega)).mp c_6
        omega
      · have c_6 : ¬ (n ≤ i) := fun h => c_6 ((nI_leI (a := n) (b := i) (by omega) (by omega)).mpr h)
        refine lv_aload_n hx hb dX5_ticks_13 rfl (lv_at hl 2 rfl) ?_
        obtain ⟨z_7, hz_7⟩ : ∃ zq, m_X5_tick_f f' = zq := ⟨_, rfl⟩
        have hR_z_7 : RF z_7 := by rw [← hz_7]; exact RF_tick hR'
        have hf_z_7 := hR_z_7.1
        have hq_8 := hf_z_7.1.2
        have hq_9 := hf_z_7.2.1.2
        have hq_10 := hf_z_7.2.2.1.2
        have hM_11 := (c_X5_tick l D k a z f' kp hi sl sv tx td  hR')
        rw [hz_7] at hM_11
        refine kVv (As := []) (rest := []) X hW hM_11 yw_X5_tick lk_X5_89 ⟨Nat.le_of_ble_eq_true rfl, Nat.le_of_ble_eq_true rfl⟩ (wr := []) (List.Perm.refl _) (w' := refW k a z z_7 kp hi sl sv tx td) (List.Perm.refl _) (k_rcv X hW (ci := 5) (q0 := 0) rfl rfl) rfl hl.1 rfl (Nat.le_of_ble_eq_true rfl) ⟨Nat.zero_le _, Nat.zero_le _⟩ dX5_ticks_14 (fun H locs hW => ?_)
        refine lv_iinc (v := nI (i + 1)) (lv' := [(3, .int (nI (i + 1))), (2, .int z_1), (0, .ref (a 0)), (1, .int (nI n))]) hx hb dX5_ticks_17 hl (k := 0) rfl (k_inc _) (by decide) rfl (fun ls hl => ?_)
        refine lv_goto (tgt := 8) hx hb dX5_ticks_20 (by decide) ?_
        subst hz_7
        exact ih (i + 1) _ (RF_tick hR') _ _ _ (by omega) (by rw [hu, lp_ticks]) hW (lv_sub hl [0, 1, 2, 3] rfl)
  exact lp n 0 f hR _ _ _ (by omega) rfl hW (lv_sub hl [0, 1, 2, 3] rfl)
