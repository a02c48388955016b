def m_X0_tick_r (u : CS) : Int32 := if (m_X0_whySilent_r (m_X0_poll_u u) ((m_X0_poll_u u) 6)) = 0 then (if (m_X0_whySilent_r (m_X0_enterRow_0_u (m_X0_poll_u u)) ((m_X0_enterRow_0_u (m_X0_poll_u u)) 7)) = 0 then (if (m_X0_whySilent_r (m_X0_enterRow_1_u (m_X0_enterRow_0_u (m_X0_poll_u u))) ((m_X0_enterRow_1_u (m_X0_enterRow_0_u (m_X0_poll_u u))) 8)) = 0 then (m_X0_poll_r u) else (m_X0_poll_r u)) else if (m_X0_whySilent_r (m_X0_enterRow_0_u (m_X0_poll_u u)) ((m_X0_enterRow_0_u (m_X0_poll_u u)) 8)) = 0 then (m_X0_poll_r u) else (m_X0_poll_r u)) else if (m_X0_whySilent_r (m_X0_poll_u u) ((m_X0_poll_u u) 7)) = 0 then (if (m_X0_whySilent_r (m_X0_enterRow_1_u (m_X0_poll_u u)) ((m_X0_enterRow_1_u (m_X0_poll_u u)) 8)) = 0 then (m_X0_poll_r u) else (m_X0_poll_r u)) else if (m_X0_whySilent_r (m_X0_poll_u u) ((m_X0_poll_u u) 8)) = 0 then (m_X0_poll_r u) else (m_X0_poll_r u)
def m_X0_tick_u (u : CS) : CS := if (m_X0_whySilent_r (m_X0_poll_u u) ((m_X0_poll_u u) 6)) = 0 then (if (m_X0_whySilent_r (m_X0_enterRow_0_u (m_X0_poll_u u)) ((m_X0_enterRow_0_u (m_X0_poll_u u)) 7)) = 0 then (if (m_X0_whySilent_r (m_X0_enterRow_1_u (m_X0_enterRow_0_u (m_X0_poll_u u))) ((m_X0_enterRow_1_u (m_X0_enterRow_0_u (m_X0_poll_u u))) 8)) = 0 then st2 (m_X0_enterRow_2_u (m_X0_enterRow_1_u (m_X0_enterRow_0_u (m_X0_poll_u u)))) 0 (upd ((m_X0_enterRow_2_u (m_X0_enterRow_1_u (m_X0_enterRow_0_u (m_X0_poll_u u)))) 0) 2 (((m_X0_enterRow_2_u (m_X0_enterRow_1_u (m_X0_enterRow_0_u (m_X0_poll_u u)))) 0 2) + (nI 1))) else st2 (m_X0_enterRow_1_u (m_X0_enterRow_0_u (m_X0_poll_u u))) 0 (upd ((m_X0_enterRow_1_u (m_X0_enterRow_0_u (m_X0_poll_u u))) 0) 2 (((m_X0_enterRow_1_u (m_X0_enterRow_0_u (m_X0_poll_u u))) 0 2) + (nI 1)))) else if (m_X0_whySilent_r (m_X0_enterRow_0_u (m_X0_poll_u u)) ((m_X0_enterRow_0_u (m_X0_poll_u u)) 8)) = 0 then st2 (m_X0_enterRow_2_u (m_X0_enterRow_0_u (m_X0_poll_u u))) 0 (upd ((m_X0_enterRow_2_u (m_X0_enterRow_0_u (m_X0_poll_u u))) 0) 2 (((m_X0_enterRow_2_u (m_X0_enterRow_0_u (m_X0_poll_u u))) 0 2) + (nI 1))) else st2 (m_X0_enterRow_0_u (m_X0_poll_u u)) 0 (upd ((m_X0_enterRow_0_u (m_X0_poll_u u)) 0) 2 (((m_X0_enterRow_0_u (m_X0_poll_u u)) 0 2) + (nI 1)))) else if (m_X0_whySilent_r (m_X0_poll_u u) ((m_X0_poll_u u) 7)) = 0 then (if (m_X0_whySilent_r (m_X0_enterRow_1_u (m_X0_poll_u u)) ((m_X0_enterRow_1_u (m_X0_poll_u u)) 8)) = 0 then st2 (m_X0_enterRow_2_u (m_X0_enterRow_1_u (m_X0_poll_u u))) 0 (upd ((m_X0_enterRow_2_u (m_X0_enterRow_1_u (m_X0_poll_u u))) 0) 2 (((m_X0_enterRow_2_u (m_X0_enterRow_1_u (m_X0_poll_u u))) 0 2) + (nI 1))) else st2 (m_X0_enterRow_1_u (m_X0_poll_u u)) 0 (upd ((m_X0_enterRow_1_u (m_X0_poll_u u)) 0) 2 (((m_X0_enterRow_1_u (m_X0_poll_u u)) 0 2) + (nI 1)))) else if (m_X0_whySilent_r (m_X0_poll_u u) ((m_X0_poll_u u) 8)) = 0 then st2 (m_X0_enterRow_2_u (m_X0_poll_u u)) 0 (upd ((m_X0_enterRow_2_u (m_X0_poll_u u)) 0) 2 (((m_X0_enterRow_2_u (m_X0_poll_u u)) 0 2) + (nI 1))) else st2 (m_X0_poll_u u) 0 (upd ((m_X0_poll_u u) 0) 2 (((m_X0_poll_u u) 0 2) + (nI 1)))
set_option maxHeartbeats 4000000 in
set_option maxRecDepth 100000 in
theorem c_X0_tick (l : Launch) (D : va_G) (k : Nat → ClassId) (a : Nat → Nat) (u : CS)  (hc : CM u)  : mI l yX0_tick (wsY yX0_tick cX0_tick 3 (some .int)) 4 D k [.ref (a 0)] (cardW k a u) (cardW k a (m_X0_tick_u u)) (m_X0_tick_r u) := by
  refine mI_intro rfl (Nat.le_of_ble_eq_true rfl) (Or.inl rfl) ?_
  intro p e s m args below meth c A Q ls X hW hl hQ
  have hx := X.hx
  have hb := X.hb
  have hl : lv_has ls 3 [(0, .ref (a 0))] := hl
  have hc4 := hc.2.1
  refine lv_aload_n hx hb dX0_tick_0 rfl (lv_at hl 0 rfl) ?_
  obtain ⟨z_1, hz_1⟩ : ∃ zq, m_X0_poll_u u = zq := ⟨_, rfl⟩
  have hcm_z_1 : CM z_1 := by rw [← hz_1]; exact CM_X0_poll hc
  obtain ⟨z_2, hz_2⟩ : ∃ zq, m_X0_poll_r u = zq := ⟨_, rfl⟩
  have hM_3 := (c_X0_poll l D k a u  hc)
  rw [hz_1, hz_2] at hM_3
  refine kVi (As := []) (rest := []) X hW hM_3 yw_X0_poll lk_X0_107 ⟨Nat.le_of_ble_eq_true rfl, Nat.le_of_ble_eq_true rfl⟩ (wr := []) (List.Perm.refl _) (w' := cardW k a z_1) (List.Perm.refl _) (k_rcv X hW (ci := 0) (q0 := 0) rfl rfl) rfl hl.1 rfl (Nat.le_of_ble_eq_true rfl) ⟨Nat.zero_le _, Nat.zero_le _⟩ dX0_tick_1 (fun H locs hW => ?_)
  refine lv_istore_n (lv' := [(1, .int z_2), (0, .ref (a 0))]) hx hb dX0_tick_4 rfl hl (by decide) rfl (fun ls hl => ?_)
  refine lv_iconst (v := nI 0) hx hb dX0_tick_5 (by decide +kernel) ?_
  refine lv_istore_n (lv' := [(2, .int (nI 0)), (1, .int z_2), (0, .ref (a 0))]) hx hb dX0_tick_6 rfl hl (by decide) rfl (fun ls hl => ?_)
  refine lv_iload_n hx hb dX0_tick_7 rfl (lv_at hl 0 rfl) ?_
  refine lv_iconst (v := nI 3) hx hb dX0_tick_8 (by decide +kernel) ?_
  refine lv_icmp_ge (tgt := 41) hx hb dX0_tick_9 (by decide) (fun c => absurd c (by decide +kernel)) (fun _ => ?_)
  refine lv_aload_n hx hb dX0_tick_12 rfl (lv_at hl 2 rfl) ?_
  refine lv_aload_n hx hb dX0_tick_13 rfl (lv_at hl 2 rfl) ?_
  refine k_get X hW inG0 rfl 1 (by decide) fl_X0_20 rfl 0 rfl (v := .ref (a 2)) rfl dX0_tick_14 ?_
  refine lv_iload_n hx hb dX0_tick_17 rfl (lv_at hl 0 rfl) ?_
  refine k_aald X hW 2 1 rfl rfl (j := 0) (b := a 7) rfl (by decide) (by decide) rfl dX0_tick_18 ?_
  obtain ⟨z_5, hz_5⟩ : ∃ zq, m_X0_whySilent_r z_1 (z_1 6) = zq := ⟨_, rfl⟩
  have hM_6 := (c_X0_whySilent l D k a (a 7) z_1 (z_1 6)  hcm_z_1)
  rw [hz_5] at hM_6
  refine kVi (As := [.ref (a 7)]) (rest := []) X hW hM_6 yw_X0_whySilent lk_X0_110 ⟨Nat.le_of_ble_eq_true rfl, Nat.le_of_ble_eq_true rfl⟩ (wr := [cSe k a z_1, cQs k a, cFl k a z_1, cHo k a z_1, cTa k a z_1, qC (a 8) (z_1 7), qC (a 9) (z_1 8)]) (w_idx (n := 10) [1, 2, 3, 5, 6, 8, 9, 0, 4, 7] rfl (by decide) rfl) (w' := cardW k a z_1) (w_idx (n := 10) [7, 0, 1, 2, 8, 3, 4, 9, 5, 6] rfl (by decide) rfl) (k_rcv X hW (ci := 0) (q0 := 0) rfl rfl) rfl hl.1 rfl (Nat.le_of_ble_eq_true rfl) ⟨Nat.zero_le _, Nat.zero_le _⟩ dX0_tick_19 (fun H locs hW => ?_)
  refine lv_if_ne (tgt := 35) hx hb dX0_tick_22 (by decide) (fun c_7 => ?_) (fun c_7 => ?_)
  · refine lv_iinc (v := nI 1) (lv' := [(2, .int (nI 1)), (1, .int z_2), (0, .ref (a 0))]) hx hb dX0_tick_35 hl (k := 0) rfl (k_inc _) (by decide) rfl (fun ls hl => ?_)
    refine lv_goto (tgt := 7) hx hb dX0_tick_38 (by decide) ?_
    refine lv_iload_n hx hb dX0_tick_7 rfl (lv_at hl 0 rfl) ?_
    refine lv_iconst (v := nI 3) hx hb dX0_tick_8 (by decide +kernel) ?_
    refine lv_icmp_ge (tgt := 41) hx hb dX0_tick_9 (by decide) (fun c => absurd c (by decide +kernel)) (fun _ => ?_)
    refine lv_aload_n hx hb dX0_tick_12 rfl (lv_at hl 2 rfl) ?_
    refine lv_aload_n hx hb dX0_tick_13 rfl (lv_at hl 2 rfl) ?_
    refine k_get X hW inG0 rfl 1 (by decide) fl_X0_20 rfl 0 rfl (v := .ref (a 2)) rfl dX0_tick_14 ?_
    refine lv_iload_n hx hb dX0_tick_17 rfl (lv_at hl 0 rfl) ?_
    refine k_aald X hW 2 1 rfl rfl (j := 1) (b := a 8) rfl (by decide) (by decide) rfl dX0_tick_18 ?_
    obtain ⟨z_9, hz_9⟩ : ∃ zq, m_X0_whySilent_r z_1 (z_1 7) = zq := ⟨_, rfl⟩
    have hM_10 := (c_X0_whySilent l D k a (a 8) z_1 (z_1 7)  hcm_z_1)
    rw [hz_9] at hM_10
    refine kVi (As := [.ref (a 8)]) (rest := []) X hW hM_10 yw_X0_whySilent lk_X0_110 ⟨Nat.le_of_ble_eq_true rfl, Nat.le_of_ble_eq_true rfl⟩ (wr := [cSe k a z_1, cQs k a, cFl k a z_1, cHo k a z_1, cTa k a z_1, qC (a 7) (z_1 6), qC (a 9) (z_1 8)]) (w_idx (n := 10) [1, 2, 3, 5, 6, 7, 9, 0, 4, 8] rfl (by decide) rfl) (w' := cardW k a z_1) (w_idx (n := 10) [7, 0, 1, 2, 8, 3, 4, 5, 9, 6] rfl (by decide) rfl) (k_rcv X hW (ci := 0) (q0 := 0) rfl rfl) rfl hl.1 rfl (Nat.le_of_ble_eq_true rfl) ⟨Nat.zero_le _, Nat.zero_le _⟩ dX0_tick_19 (fun H locs hW => ?_)
    refine lv_if_ne (tgt := 35) hx hb dX0_tick_22 (by decide) (fun c_11 => ?_) (fun c_11 => ?_)
    · refine lv_iinc (v := nI 2) (lv' := [(2, .int (nI 2)), (1, .int z_2), (0, .ref (a 0))]) hx hb dX0_tick_35 hl (k := 0) rfl (k_inc _) (by decide) rfl (fun ls hl => ?_)
      refine lv_goto (tgt := 7) hx hb dX0_tick_38 (by decide) ?_
      refine lv_iload_n hx hb dX0_tick_7 rfl (lv_at hl 0 rfl) ?_
      refine lv_iconst (v := nI 3) hx hb dX0_tick_8 (by decide +kernel) ?_
      refine lv_icmp_ge (tgt := 41) hx hb dX0_tick_9 (by decide) (fun c => absurd c (by decide +kernel)) (fun _ => ?_)
      refine lv_aload_n hx hb dX0_tick_12 rfl (lv_at hl 2 rfl) ?_
      refine lv_aload_n hx hb dX0_tick_13 rfl (lv_at hl 2 rfl) ?_
      refine k_get X hW inG0 rfl 1 (by decide) fl_X0_20 rfl 0 rfl (v := .ref (a 2)) rfl dX0_tick_14 ?_
      refine lv_iload_n hx hb dX0_tick_17 rfl (lv_at hl 0 rfl) ?_
      refine k_aald X hW 2 1 rfl rfl (j := 2) (b := a 9) rfl (by decide) (by decide) rfl dX0_tick_18 ?_
      obtain ⟨z_13, hz_13⟩ : ∃ zq, m_X0_whySilent_r z_1 (z_1 8) = zq := ⟨_, rfl⟩
      have hM_14 := (c_X0_whySilent l D k a (a 9) z_1 (z_1 8)  hcm_z_1)
      rw [hz_13] at hM_14
      refine kVi (As := [.ref (a 9)]) (rest := []) X hW hM_14 yw_X0_whySilent lk_X0_110 ⟨Nat.le_of_ble_eq_true rfl, Nat.le_of_ble_eq_true rfl⟩ (wr := [cSe k a z_1, cQs k a, cFl k a z_1, cHo k a z_1, cTa k a z_1, qC (a 7) (z_1 6), qC (a 8) (z_1 7)]) (w_idx (n := 10) [1, 2, 3, 5, 6, 7, 8, 0, 4, 9] rfl (by decide) rfl) (w' := cardW k a z_1) (w_idx (n := 10) [7, 0, 1, 2, 8, 3, 4, 5, 6, 9] rfl (by decide) rfl) (k_rcv X hW (ci := 0) (q0 := 0) rfl rfl) rfl hl.1 rfl (Nat.le_of_ble_eq_true rfl) ⟨Nat.zero_le _, Nat.zero_le _⟩ dX0_tick_19 (fun H locs hW => ?_)
      refine lv_if_ne (tgt := 35) hx hb dX0_tick_22 (by decide) (fun c_15 => ?_) (fun c_15 => ?_)
      · refine lv_iinc (v := nI 3) (lv' := [(2, .int (nI 3)), (1, .int z_2), (0, .ref (a 0))]) hx hb dX0_tick_35 hl (k := 0) rfl (k_inc _) (by decide) rfl (fun ls hl => ?_)
        refine lv_goto (tgt := 7) hx hb dX0_tick_38 (by decide) ?_
        refine lv_iload_n hx hb dX0_tick_7 rfl (lv_at hl 0 rfl) ?_
        refine lv_iconst (v := nI 3) hx hb dX0_tick_8 (by decide +kernel) ?_
        refine lv_icmp_ge (tgt := 41) hx hb dX0_tick_9 (by decide) (fun _ => ?_) (fun c => absurd (by decide +kernel) c)
        refine lv_aload_n hx hb dX0_tick_41 rfl (lv_at hl 2 rfl) ?_
        refine lv_dup hx hb dX0_tick_42 rfl ?_
        refine k_get X hW inG0 rfl 2 (by decide) fl_X0_24 rfl 0 rfl (v := .int (z_1 0 2)) rfl dX0_tick_43 ?_
        refine lv_iconst (v := nI 1) hx hb dX0_tick_46 (by decide +kernel) ?_
        refine lv_iadd hx hb dX0_tick_47 ?_
        refine k_put X hW inG0 rfl tyX0_ok nmX0 2 (by decide) fl_X0_24 rfl rfl 0 rfl rfl rfl (Nat.le_of_ble_eq_true rfl) dX0_tick_48 (w' := cardW k a (st2 z_1 0 (upd (z_1 0) 2 ((z_1 0 2) + (nI 1))))) rfl (fun H locs hW => ?_)
        refine lv_iload_n hx hb dX0_tick_51 rfl (lv_at hl 1 rfl) ?_
        exact hQ _ _ _ _ _ _ hW dX0_tick_52 (by subst hz_13; subst hz_9; subst hz_5; subst hz_2; subst hz_1; rw [m_X0_tick_r, if_neg c_7, if_neg c_11, if_neg c_15]) (by subst hz_13; subst hz_9; subst hz_5; subst hz_2; subst hz_1; rw [m_X0_tick_u, if_neg c_7, if_neg c_11, if_neg c_15])
      · refine lv_aload_n hx hb dX0_tick_25 rfl (lv_at hl 2 rfl) ?_
        refine lv_aload_n hx hb dX0_tick_26 rfl (lv_at hl 2 rfl) ?_
        refine k_get X hW inG0 rfl 1 (by decide) fl_X0_20 rfl 0 rfl (v := .ref (a 2)) rfl dX0_tick_27 ?_
        refine lv_iload_n hx hb dX0_tick_30 rfl (lv_at hl 0 rfl) ?_
        refine k_aald X hW 2 1 rfl rfl (j := 2) (b := a 9) rfl (by decide) (by decide) rfl dX0_tick_31 ?_
        obtain ⟨z_17, hz_17⟩ : ∃ zq, m_X0_enterRow_2_u z_1 = zq := ⟨_, rfl⟩
        have hcm_z_17 : CM z_17 := by rw [← hz_17]; exact CM_X0_enterRow_2 hcm_z_1
        have hM_18 := (c_X0_enterRow_2 l D k a z_1 )
        rw [hz_17] at hM_18
        refine kVv (As := [.ref (a 9)]) (rest := []) X hW hM_18 yw_X0_enterRow lk_X0_93 ⟨Nat.le_of_ble_eq_true rfl, Nat.le_of_ble_eq_true rfl⟩ (wr := []) (List.Perm.refl _) (w' := cardW k a z_17) (List.Perm.refl _) (k_rcv X hW (ci := 0) (q0 := 0) rfl rfl) rfl hl.1 rfl (Nat.le_of_ble_eq_true rfl) ⟨Nat.zero_le _, Nat.zero_le _⟩ dX0_tick_32 (fun H locs hW => ?_)
        refine lv_iinc (v := nI 3) (lv' := [(2, .int (nI 3)), (1, .int z_2), (0, .ref (a 0))]) hx hb dX0_tick_35 hl (k := 0) rfl (k_inc _) (by decide) rfl (fun ls hl => ?_)
        refine lv_goto (tgt := 7) hx hb dX0_tick_38 (by decide) ?_
        refine lv_iload_n hx hb dX0_tick_7 rfl (lv_at hl 0 rfl) ?_
        refine lv_iconst (v := nI 3) hx hb dX0_tick_8 (by decide +kernel) ?_
        refine lv_icmp_ge (tgt := 41) hx hb dX0_tick_9 (by decide) (fun _ => ?_) (fun c => absurd (by decide +kernel) c)
        refine lv_aload_n hx hb dX0_tick_41 rfl (lv_at hl 2 rfl) ?_
        refine lv_dup hx hb dX0_tick_42 rfl ?_
        refine k_get X hW inG0 rfl 2 (by decide) fl_X0_24 rfl 0 rfl (v := .int (z_17 0 2)) rfl dX0_tick_43 ?_
        refine lv_iconst (v := nI 1) hx hb dX0_tick_46 (by decide +kernel) ?_
        refine lv_iadd hx hb dX0_tick_47 ?_
        refine k_put X hW inG0 rfl tyX0_ok nmX0 2 (by decide) fl_X0_24 rfl rfl 0 rfl rfl rfl (Nat.le_of_ble_eq_true rfl) dX0_tick_48 (w' := cardW k a (st2 z_17 0 (upd (z_17 0) 2 ((z_17 0 2) + (nI 1))))) rfl (fun H locs hW => ?_)
        refine lv_iload_n hx hb dX0_tick_51 rfl (lv_at hl 1 rfl) ?_
        exact hQ _ _ _ _ _ _ hW dX0_tick_52 (by subst hz_17; subst hz_13; subst hz_9; subst hz_5; subst hz_2; subst hz_1; rw [m_X0_tick_r, if_neg c_7, if_neg c_11, if_pos c_15]) (by subst hz_17; subst hz_13; subst hz_9; subst hz_5; subst hz_2; subst hz_1; rw [m_X0_tick_u, if_neg c_7, if_neg c_11, if_pos c_15])
    · refine lv_aload_n hx hb dX0_tick_25 rfl (lv_at hl 2 rfl) ?_
      refine lv_aload_n hx hb dX0_tick_26 rfl (lv_at hl 2 rfl) ?_
      refine k_get X hW inG0 rfl 1 (by decide) fl_X0_20 rfl 0 rfl (v := .ref (a 2)) rfl dX0_tick_27 ?_
      refine lv_iload_n hx hb dX0_tick_30 rfl (lv_at hl 0 rfl) ?_
      refine k_aald X hW 2 1 rfl rfl (j := 1) (b := a 8) rfl (by decide) (by decide) rfl dX0_tick_31 ?_
      obtain ⟨z_20, hz_20⟩ : ∃ zq, m_X0_enterRow_1_u z_1 = zq := ⟨_, rfl⟩
      have hcm_z_20 : CM z_20 := by rw [← hz_20]; exact CM_X0_enterRow_1 hcm_z_1
      have hM_21 := (c_X0_enterRow_1 l D k a z_1 )
      rw [hz_20] at hM_21
      refine kVv (As := [.ref (a 8)]) (rest := []) X hW hM_21 yw_X0_enterRow lk_X0_93 ⟨Nat.le_of_ble_eq_true rfl, Nat.le_of_ble_eq_true rfl⟩ (wr := []) (List.Perm.refl _) (w' := cardW k a z_20) (List.Perm.refl _) (k_rcv X hW (ci := 0) (q0 := 0) rfl rfl) rfl hl.1 rfl (Nat.le_of_ble_eq_true rfl) ⟨Nat.zero_le _, Nat.zero_le _⟩ dX0_tick_32 (fun H locs hW => ?_)
      refine lv_iinc (v := nI 2) (lv' := [(2, .int (nI 2)), (1, .int z_2), (0, .ref (a 0))]) hx hb dX0_tick_35 hl (k := 0) rfl (k_inc _) (by decide) rfl (fun ls hl => ?_)
      refine lv_goto (tgt := 7) hx hb dX0_tick_38 (by decide) ?_
      refine lv_iload_n hx hb dX0_tick_7 rfl (lv_at hl 0 rfl) ?_
      refine lv_iconst (v := nI 3) hx hb dX0_tick_8 (by decide +kernel) ?_
      refine lv_icmp_ge (tgt := 41) hx hb dX0_tick_9 (by decide) (fun c => absurd c (by decide +kernel)) (fun _ => ?_)
      refine lv_aload_n hx hb dX0_tick_12 rfl (lv_at hl 2 rfl) ?_
      refine lv_aload_n hx hb dX0_tick_13 rfl (lv_at hl 2 rfl) ?_
      refine k_get X hW inG0 rfl 1 (by decide) fl_X0_20 rfl 0 rfl (v := .ref (a 2)) rfl dX0_tick_14 ?_
      refine lv_iload_n hx hb dX0_tick_17 rfl (lv_at hl 0 rfl) ?_
      refine k_aald X hW 2 1 rfl rfl (j := 2) (b := a 9) rfl (by decide) (by decide) rfl dX0_tick_18 ?_
      obtain ⟨z_23, hz_23⟩ : ∃ zq, m_X0_whySilent_r z_20 (z_20 8) = zq := ⟨_, rfl⟩
      have hM_24 := (c_X0_whySilent l D k a (a 9) z_20 (z_20 8)  hcm_z_20)
      rw [hz_23] at hM_24
      refine kVi (As := [.ref (a 9)]) (rest := []) X hW hM_24 yw_X0_whySilent lk_X0_110 ⟨Nat.le_of_ble_eq_true rfl, Nat.le_of_ble_eq_true rfl⟩ (wr := [cSe k a z_20, cQs k a, cFl k a z_20, cHo k a z_20, cTa k a z_20, qC (a 7) (z_20 6), qC (a 8) (z_20 7)]) (w_idx (n := 10) [1, 2, 3, 5, 6, 7, 8, 0, 4, 9] rfl (by decide) rfl) (w' := cardW k a z_20) (w_idx (n := 10) [7, 0, 1, 2, 8, 3, 4, 5, 6, 9] rfl (by decide) rfl) (k_rcv X hW (ci := 0) (q0 := 0) rfl rfl) rfl hl.1 rfl (Nat.le_of_ble_eq_true rfl) ⟨Nat.zero_le _, Nat.zero_le _⟩ dX0_tick_19 (fun H locs hW => ?_)
      refine lv_if_ne (tgt := 35) hx hb dX0_tick_22 (by decide) (fun c_25 => ?_) (fun c_25 => ?_)
      · refine lv_iinc (v := nI 3) (lv' := [(2, .int (nI 3)), (1, .int z_2), (0, .ref (a 0))]) hx hb dX0_tick_35 hl (k := 0) rfl (k_inc _) (by decide) rfl (fun ls hl => ?_)
        refine lv_goto (tgt := 7) hx hb dX0_tick_38 (by decide) ?_
        refine lv_iload_n hx hb dX0_tick_7 rfl (lv_at hl 0 rfl) ?_
        refine lv_iconst (v := nI 3) hx hb dX0_tick_8 (by decide +kernel) ?_
        refine lv_icmp_ge (tgt := 41) hx hb dX0_tick_9 (by decide) (fun _ => ?_) (fun c => absurd (by decide +kernel) c)
        refine lv_aload_n hx hb dX0_tick_41 rfl (lv_at hl 2 rfl) ?_
        refine lv_dup hx hb dX0_tick_42 rfl ?_
        refine k_get X hW inG0 rfl 2 (by decide) fl_X0_24 rfl 0 rfl (v := .int (z_20 0 2)) rfl dX0_tick_43 ?_
        refine lv_iconst (v := nI 1) hx hb dX0_tick_46 (by decide +kernel) ?_
        refine lv_iadd hx hb dX0_tick_47 ?_
        refine k_put X hW inG0 rfl tyX0_ok nmX0 2 (by decide) fl_X0_24 rfl rfl 0 rfl rfl rfl (Nat.le_of_ble_eq_true rfl) dX0_tick_48 (w' := cardW k a (st2 z_20 0 (upd (z_20 0) 2 ((z_20 0 2) + (nI 1))))) rfl (fun H locs hW => ?_)
        refine lv_iload_n hx hb dX0_tick_51 rfl (lv_at hl 1 rfl) ?_
        exact hQ _ _ _ _ _ _ hW dX0_tick_52 (by subst hz_23; subst hz_20; subst hz_9; subst hz_5; subst hz_2; subst hz_1; rw [m_X0_tick_r, if_neg c_7, if_pos c_11, if_neg c_25]) (by subst hz_23; subst hz_20; subst hz_9; subst hz_5; subst hz_2; subst hz_1; rw [m_X0_tick_u, if_neg c_7, if_pos c_11, if_neg c_25])
      · refine lv_aload_n hx hb dX0_tick_25 rfl (lv_at hl 2 rfl) ?_
        refine lv_aload_n hx hb dX0_tick_26 rfl (lv_at hl 2 rfl) ?_
        refine k_get X hW inG0 rfl 1 (by decide) fl_X0_20 rfl 0 rfl (v := .ref (a 2)) rfl dX0_tick_27 ?_
        refine lv_iload_n hx hb dX0_tick_30 rfl (lv_at hl 0 rfl) ?_
        refine k_aald X hW 2 1 rfl rfl (j := 2) (b := a 9) rfl (by decide) (by decide) rfl dX0_tick_31 ?_
        obtain ⟨z_27, hz_27⟩ : ∃ zq, m_X0_enterRow_2_u z_20 = zq := ⟨_, rfl⟩
        have hcm_z_27 : CM z_27 := by rw [← hz_27]; exact CM_X0_enterRow_2 hcm_z_20
        have hM_28 := (c_X0_enterRow_2 l D k a z_20 )
        rw [hz_27] at hM_28
        refine kVv (As := [.ref (a 9)]) (rest := []) X hW hM_28 yw_X0_enterRow lk_X0_93 ⟨Nat.le_of_ble_eq_true rfl, Nat.le_of_ble_eq_true rfl⟩ (wr := []) (List.Perm.refl _) (w' := cardW k a z_27) (List.Perm.refl _) (k_rcv X hW (ci := 0) (q0 := 0) rfl rfl) rfl hl.1 rfl (Nat.le_of_ble_eq_true rfl) ⟨Nat.zero_le _, Nat.zero_le _⟩ dX0_tick_32 (fun H locs hW => ?_)
        refine lv_iinc (v := nI 3) (lv' := [(2, .int (nI 3)), (1, .int z_2), (0, .ref (a 0))]) hx hb dX0_tick_35 hl (k := 0) rfl (k_inc _) (by decide) rfl (fun ls hl => ?_)
        refine lv_goto (tgt := 7) hx hb dX0_tick_38 (by decide) ?_
        refine lv_iload_n hx hb dX0_tick_7 rfl (lv_at hl 0 rfl) ?_
        refine lv_iconst (v := nI 3) hx hb dX0_tick_8 (by decide +kernel) ?_
        refine lv_icmp_ge (tgt := 41) hx hb dX0_tick_9 (by decide) (fun _ => ?_) (fun c => absurd (by decide +kernel) c)
        refine lv_aload_n hx hb dX0_tick_41 rfl (lv_at hl 2 rfl) ?_
        refine lv_dup hx hb dX0_tick_42 rfl ?_
        refine k_get X hW inG0 rfl 2 (by decide) fl_X0_24 rfl 0 rfl (v := .int (z_27 0 2)) rfl dX0_tick_43 ?_
        refine lv_iconst (v := nI 1) hx hb dX0_tick_46 (by decide +kernel) ?_
        refine lv_iadd hx hb dX0_tick_47 ?_
        refine k_put X hW inG0 rfl tyX0_ok nmX0 2 (by decide) fl_X0_24 rfl rfl 0 rfl rfl rfl (Nat.le_of_ble_eq_true rfl) dX0_tick_48 (w' := cardW k a (st2 z_27 0 (upd (z_27 0) 2 ((z_27 0 2) + (nI 1))))) rfl (fun H locs hW => ?_)
        refine lv_iload_n hx hb dX0_tick_51 rfl (lv_at hl 1 rfl) ?_
        exact hQ _ _ _ _ _ _ hW dX0_tick_52 (by subst hz_27; subst hz_23; subst hz_20; subst hz_9; subst hz_5; subst hz_2; subst hz_1; rw [m_X0_tick_r, if_neg c_7, if_pos c_11, if_pos c_25]) (by subst hz_27; subst hz_23; subst hz_20; subst hz_9; subst hz_5; subst hz_2; subst hz_1; rw [m_X0_tick_u, if_neg c_7, if_pos c_11, if_pos c_25])
  · refine lv_aload_n hx hb dX0_tick_25 rfl (lv_at hl 2 rfl) ?_
    refine lv_aload_n hx hb dX0_tick_26 rfl (lv_at hl 2 rfl) ?_
    refine k_get X hW inG0 rfl 1 (by decide) fl_X0_20 rfl 0 rfl (v := .ref (a 2)) rfl dX0_tick_27 ?_
    refine lv_iload_n hx hb dX0_tick_30 rfl (lv_at hl 0 rfl) ?_
    refine k_aald X hW 2 1 rfl rfl (j := 0) (b := a 7) rfl (by decide) (by decide) rfl dX0_tick_31 ?_
    obtain ⟨z_30, hz_30⟩ : ∃ zq, m_X0_enterRow_0_u z_1 = zq := ⟨_, rfl⟩
    have hcm_z_30 : CM z_30 := by rw [← hz_30]; exact CM_X0_enterRow_0 hcm_z_1
    have hM_31 := (c_X0_enterRow_0 l D k a z_1 )
    rw [hz_30] at hM_31
    refine kVv (As := [.ref (a 7)]) (rest := []) X hW hM_31 yw_X0_enterRow lk_X0_93 ⟨Nat.le_of_ble_eq_true rfl, Nat.le_of_ble_eq_true rfl⟩ (wr := []) (List.Perm.refl _) (w' := cardW k a z_30) (List.Perm.refl _) (k_rcv X hW (ci := 0) (q0 := 0) rfl rfl) rfl hl.1 rfl (Nat.le_of_ble_eq_true rfl) ⟨Nat.zero_le _, Nat.zero_le _⟩ dX0_tick_32 (fun H locs hW => ?_)
    refine lv_iinc (v := nI 1) (lv' := [(2, .int (nI 1)), (1, .int z_2), (0, .ref (a 0))]) hx hb dX0_tick_35 hl (k := 0) rfl (k_inc _) (by decide) rfl (fun ls hl => ?_)
    refine lv_goto (tgt := 7) hx hb dX0_tick_38 (by decide) ?_
    refine lv_iload_n hx hb dX0_tick_7 rfl (lv_at hl 0 rfl) ?_
    refine lv_iconst (v := nI 3) hx hb dX0_tick_8 (by decide +kernel) ?_
    refine lv_icmp_ge (tgt := 41) hx hb dX0_tick_9 (by decide) (fun c => absurd c (by decide +kernel)) (fun _ => ?_)
    refine lv_aload_n hx hb dX0_tick_12 rfl (lv_at hl 2 rfl) ?_
    refine lv_aload_n hx hb dX0_tick_13 rfl (lv_at hl 2 rfl) ?_
    refine k_get X hW inG0 rfl 1 (by decide) fl_X0_20 rfl 0 rfl (v := .ref (a 2)) rfl dX0_tick_14 ?_
    refine lv_iload_n hx hb dX0_tick_17 rfl (lv_at hl 0 rfl) ?_
    refine k_aald X hW 2 1 rfl rfl (j := 1) (b := a 8) rfl (by decide) (by decide) rfl dX0_tick_18 ?_
    obtain ⟨z_33, hz_33⟩ : ∃ zq, m_X0_whySilent_r z_30 (z_30 7) = zq := ⟨_, rfl⟩
    have hM_34 := (c_X0_whySilent l D k a (a 8) z_30 (z_30 7)  hcm_z_30)
    rw [hz_33] at hM_34
    refine kVi (As := [.ref (a 8)]) (rest := []) X hW hM_34 yw_X0_whySilent lk_X0_110 ⟨Nat.le_of_ble_eq_true rfl, Nat.le_of_ble_eq_true rfl⟩ (wr := [cSe k a z_30, cQs k a, cFl k a z_30, cHo k a z_30, cTa k a z_30, qC (a 7) (z_30 6), qC (a 9) (z_30 8)]) (w_idx (n := 10) [1, 2, 3, 5, 6, 7, 9, 0, 4, 8] rfl (by decide) rfl) (w' := cardW k a z_30) (w_idx (n := 10) [7, 0, 1, 2, 8, 3, 4, 5, 9, 6] rfl (by decide) rfl) (k_rcv X hW (ci := 0) (q0 := 0) rfl rfl) rfl hl.1 rfl (Nat.le_of_ble_eq_true rfl) ⟨Nat.zero_le _, Nat.zero_le _⟩ dX0_tick_19 (fun H locs hW => ?_)
    refine lv_if_ne (tgt := 35) hx hb dX0_tick_22 (by decide) (fun c_35 => ?_) (fun c_35 => ?_)
    · refine lv_iinc (v := nI 2) (lv' := [(2, .int (nI 2)), (1, .int z_2), (0, .ref (a 0))]) hx hb dX0_tick_35 hl (k := 0) rfl (k_inc _) (by decide) rfl (fun ls hl => ?_)
      refine lv_goto (tgt := 7) hx hb dX0_tick_38 (by decide) ?_
      refine lv_iload_n hx hb dX0_tick_7 rfl (lv_at hl 0 rfl) ?_
      refine lv_iconst (v := nI 3) hx hb dX0_tick_8 (by decide +kernel) ?_
      refine lv_icmp_ge (tgt := 41) hx hb dX0_tick_9 (by decide) (fun c => absurd c (by decide +kernel)) (fun _ => ?_)
      refine lv_aload_n hx hb dX0_tick_12 rfl (lv_at hl 2 rfl) ?_
      refine lv_aload_n hx hb dX0_tick_13 rfl (lv_at hl 2 rfl) ?_
      refine k_get X hW inG0 rfl 1 (by decide) fl_X0_20 rfl 0 rfl (v := .ref (a 2)) rfl dX0_tick_14 ?_
      refine lv_iload_n hx hb dX0_tick_17 rfl (lv_at hl 0 rfl) ?_
      refine k_aald X hW 2 1 rfl rfl (j := 2) (b := a 9) rfl (by decide) (by decide) rfl dX0_tick_18 ?_
      obtain ⟨z_37, hz_37⟩ : ∃ zq, m_X0_whySilent_r z_30 (z_30 8) = zq := ⟨_, rfl⟩
      have hM_38 := (c_X0_whySilent l D k a (a 9) z_30 (z_30 8)  hcm_z_30)
      rw [hz_37] at hM_38
      refine kVi (As := [.ref (a 9)]) (rest := []) X hW hM_38 yw_X0_whySilent lk_X0_110 ⟨Nat.le_of_ble_eq_true rfl, Nat.le_of_ble_eq_true rfl⟩ (wr := [cSe k a z_30, cQs k a, cFl k a z_30, cHo k a z_30, cTa k a z_30, qC (a 7) (z_30 6), qC (a 8) (z_30 7)]) (w_idx (n := 10) [1, 2, 3, 5, 6, 7, 8, 0, 4, 9] rfl (by decide) rfl) (w' := cardW k a z_30) (w_idx (n := 10) [7, 0, 1, 2, 8, 3, 4, 5, 6, 9] rfl (by decide) rfl) (k_rcv X hW (ci := 0) (q0 := 0) rfl rfl) rfl hl.1 rfl (Nat.le_of_ble_eq_true rfl) ⟨Nat.zero_le _, Nat.zero_le _⟩ dX0_tick_19 (fun H locs hW => ?_)
      refine lv_if_ne (tgt := 35) hx hb dX0_tick_22 (by decide) (fun c_39 => ?_) (fun c_39 => ?_)
      · refine lv_iinc (v := nI 3) (lv' := [(2, .int (nI 3)), (1, .int z_2), (0, .ref (a 0))]) hx hb dX0_tick_35 hl (k := 0) rfl (k_inc _) (by decide) rfl (fun ls hl => ?_)
        refine lv_goto (tgt := 7) hx hb dX0_tick_38 (by decide) ?_
        refine lv_iload_n hx hb dX0_tick_7 rfl (lv_at hl 0 rfl) ?_
        refine lv_iconst (v := nI 3) hx hb dX0_tick_8 (by decide +kernel) ?_
        refine lv_icmp_ge (tgt := 41) hx hb dX0_tick_9 (by decide) (fun _ => ?_) (fun c => absurd (by decide +kernel) c)
        refine lv_aload_n hx hb dX0_tick_41 rfl (lv_at hl 2 rfl) ?_
        refine lv_dup hx hb dX0_tick_42 rfl ?_
        refine k_get X hW inG0 rfl 2 (by decide) fl_X0_24 rfl 0 rfl (v := .int (z_30 0 2)) rfl dX0_tick_43 ?_
        refine lv_iconst (v := nI 1) hx hb dX0_tick_46 (by decide +kernel) ?_
        refine lv_iadd hx hb dX0_tick_47 ?_
        refine k_put X hW inG0 rfl tyX0_ok nmX0 2 (by decide) fl_X0_24 rfl rfl 0 rfl rfl rfl (Nat.le_of_ble_eq_true rfl) dX0_tick_48 (w' := cardW k a (st2 z_30 0 (upd (z_30 0) 2 ((z_30 0 2) + (nI 1))))) rfl (fun H locs hW => ?_)
        refine lv_iload_n hx hb dX0_tick_51 rfl (lv_at hl 1 rfl) ?_
        exact hQ _ _ _ _ _ _ hW dX0_tick_52 (by subst hz_37; subst hz_33; subst hz_30; subst hz_5; subst hz_2; subst hz_1; rw [m_X0_tick_r, if_pos c_7, if_neg c_35, if_neg c_39]) (by subst hz_37; subst hz_33; subst hz_30; subst hz_5; subst hz_2; subst hz_1; rw [m_X0_tick_u, if_pos c_7, if_neg c_35, if_neg c_39])
      · refine lv_aload_n hx hb dX0_tick_25 rfl (lv_at hl 2 rfl) ?_
        refine lv_aload_n hx hb dX0_tick_26 rfl (lv_at hl 2 rfl) ?_
        refine k_get X hW inG0 rfl 1 (by decide) fl_X0_20 rfl 0 rfl (v := .ref (a 2)) rfl dX0_tick_27 ?_
        refine lv_iload_n hx hb dX0_tick_30 rfl (lv_at hl 0 rfl) ?_
        refine k_aald X hW 2 1 rfl rfl (j := 2) (b := a 9) rfl (by decide) (by decide) rfl dX0_tick_31 ?_
        obtain ⟨z_41, hz_41⟩ : ∃ zq, m_X0_enterRow_2_u z_30 = zq := ⟨_, rfl⟩
        have hcm_z_41 : CM z_41 := by rw [← hz_41]; exact CM_X0_enterRow_2 hcm_z_30
        have hM_42 := (c_X0_enterRow_2 l D k a z_30 )
        rw [hz_41] at hM_42
        refine kVv (As := [.ref (a 9)]) (rest := []) X hW hM_42 yw_X0_enterRow lk_X0_93 ⟨Nat.le_of_ble_eq_true rfl, Nat.le_of_ble_eq_true rfl⟩ (wr := []) (List.Perm.refl _) (w' := cardW k a z_41) (List.Perm.refl _) (k_rcv X hW (ci := 0) (q0 := 0) rfl rfl) rfl hl.1 rfl (Nat.le_of_ble_eq_true rfl) ⟨Nat.zero_le _, Nat.zero_le _⟩ dX0_tick_32 (fun H locs hW => ?_)
        refine lv_iinc (v := nI 3) (lv' := [(2, .int (nI 3)), (1, .int z_2), (0, .ref (a 0))]) hx hb dX0_tick_35 hl (k := 0) rfl (k_inc _) (by decide) rfl (fun ls hl => ?_)
        refine lv_goto (tgt := 7) hx hb dX0_tick_38 (by decide) ?_
        refine lv_iload_n hx hb dX0_tick_7 rfl (lv_at hl 0 rfl) ?_
        refine lv_iconst (v := nI 3) hx hb dX0_tick_8 (by decide +kernel) ?_
        refine lv_icmp_ge (tgt := 41) hx hb dX0_tick_9 (by decide) (fun _ => ?_) (fun c => absurd (by decide +kernel) c)
        refine lv_aload_n hx hb dX0_tick_41 rfl (lv_at hl 2 rfl) ?_
        refine lv_dup hx hb dX0_tick_42 rfl ?_
        refine k_get X hW inG0 rfl 2 (by decide) fl_X0_24 rfl 0 rfl (v := .int (z_41 0 2)) rfl dX0_tick_43 ?_
        refine lv_iconst (v := nI 1) hx hb dX0_tick_46 (by decide +kernel) ?_
        refine lv_iadd hx hb dX0_tick_47 ?_
        refine k_put X hW inG0 rfl tyX0_ok nmX0 2 (by decide) fl_X0_24 rfl rfl 0 rfl rfl rfl (Nat.le_of_ble_eq_true rfl) dX0_tick_48 (w' := cardW k a (st2 z_41 0 (upd (z_41 0) 2 ((z_41 0 2) + (nI 1))))) rfl (fun H locs hW => ?_)
        refine lv_iload_n hx hb dX0_tick_51 rfl (lv_at hl 1 rfl) ?_
        exact hQ _ _ _ _ _ _ hW dX0_tick_52 (by subst hz_41; subst hz_37; subst hz_33; subst hz_30; subst hz_5; subst hz_2; subst hz_1; rw [m_X0_tick_r, if_pos c_7, if_neg c_35, if_pos c_39]) (by subst hz_41; subst hz_37; subst hz_33; subst hz_30; subst hz_5; subst hz_2; subst hz_1; rw [m_X0_tick_u, if_pos c_7, if_neg c_35, if_pos c_39])
    · refine lv_aload_n hx hb dX0_tick_25 rfl (lv_at hl 2 rfl) ?_
      refine lv_aload_n hx hb dX0_tick_26 rfl (lv_at hl 2 rfl) ?_
      refine k_get X hW inG0 rfl 1 (by decide) fl_X0_20 rfl 0 rfl (v := .ref (a 2)) rfl dX0_tick_27 ?_
      refine lv_iload_n hx hb dX0_tick_30 rfl (lv_at hl 0 rfl) ?_
      refine k_aald X hW 2 1 rfl rfl (j := 1) (b := a 8) rfl (by decide) (by decide) rfl dX0_tick_31 ?_
      obtain ⟨z_44, hz_44⟩ : ∃ zq, m_X0_enterRow_1_u z_30 = zq := ⟨_, rfl⟩
      have hcm_z_44 : CM z_44 := by rw [← hz_44]; exact CM_X0_enterRow_1 hcm_z_30
      have hM_45 := (c_X0_enterRow_1 l D k a z_30 )
      rw [hz_44] at hM_45
      refine kVv (As := [.ref (a 8)]) (rest := []) X hW hM_45 yw_X0_enterRow lk_X0_93 ⟨Nat.le_of_ble_eq_true rfl, Nat.le_of_ble_eq_true rfl⟩ (wr := []) (List.Perm.refl _) (w' := cardW k a z_44) (List.Perm.refl _) (k_rcv X hW (ci := 0) (q0 := 0) rfl rfl) rfl hl.1 rfl (Nat.le_of_ble_eq_true rfl) ⟨Nat.zero_le _, Nat.zero_le _⟩ dX0_tick_32 (fun H locs hW => ?_)
      refine lv_iinc (v := nI 2) (lv' := [(2, .int (nI 2)), (1, .int z_2), (0, .ref (a 0))]) hx hb dX0_tick_35 hl (k := 0) rfl (k_inc _) (by decide) rfl (fun ls hl => ?_)
      refine lv_goto (tgt := 7) hx hb dX0_tick_38 (by decide) ?_
      refine lv_iload_n hx hb dX0_tick_7 rfl (lv_at hl 0 rfl) ?_
      refine lv_iconst (v := nI 3) hx hb dX0_tick_8 (by decide +kernel) ?_
      refine lv_icmp_ge (tgt := 41) hx hb dX0_tick_9 (by decide) (fun c => absurd c (by decide +kernel)) (fun _ => ?_)
      refine lv_aload_n hx hb dX0_tick_12 rfl (lv_at hl 2 rfl) ?_
      refine lv_aload_n hx hb dX0_tick_13 rfl (lv_at hl 2 rfl) ?_
      refine k_get X hW inG0 rfl 1 (by decide) fl_X0_20 rfl 0 rfl (v := .ref (a 2)) rfl dX0_tick_14 ?_
      refine lv_iload_n hx hb dX0_tick_17 rfl (lv_at hl 0 rfl) ?_
      refine k_aald X hW 2 1 rfl rfl (j := 2) (b := a 9) rfl (by decide) (by decide) rfl dX0_tick_18 ?_
      obtain ⟨z_47, hz_47⟩ : ∃ zq, m_X0_whySilent_r z_44 (z_44 8) = zq := ⟨_, rfl⟩
      have hM_48 := (c_X0_whySilent l D k a (a 9) z_44 (z_44 8)  hcm_z_44)
      rw [hz_47] at hM_48
      refine kVi (As := [.ref (a 9)]) (rest := []) X hW hM_48 yw_X0_whySilent lk_X0_110 ⟨Nat.le_of_ble_eq_true rfl, Nat.le_of_ble_eq_true rfl⟩ (wr := [cSe k a z_44, cQs k a, cFl k a z_44, cHo k a z_44, cTa k a z_44, qC (a 7) (z_44 6), qC (a 8) (z_44 7)]) (w_idx (n := 10) [1, 2, 3, 5, 6, 7, 8, 0, 4, 9] rfl (by decide) rfl) (w' := cardW k a z_44) (w_idx (n := 10) [7, 0, 1, 2, 8, 3, 4, 5, 6, 9] rfl (by decide) rfl) (k_rcv X hW (ci := 0) (q0 := 0) rfl rfl) rfl hl.1 rfl (Nat.le_of_ble_eq_true rfl) ⟨Nat.zero_le _, Nat.zero_le _⟩ dX0_tick_19 (fun H locs hW => ?_)
      refine lv_if_ne (tgt := 35) hx hb dX0_tick_22 (by decide) (fun c_49 => ?_) (fun c_49 => ?_)
      · refine lv_iinc (v := nI 3) (lv' := [(2, .int (nI 3)), (1, .int z_2), (0, .ref (a 0))]) hx hb dX0_tick_35 hl (k := 0) rfl (k_inc _) (by decide) rfl (fun ls hl => ?_)
        refine lv_goto (tgt := 7) hx hb dX0_tick_38 (by decide) ?_
        refine lv_iload_n hx hb dX0_tick_7 rfl (lv_at hl 0 rfl) ?_
        refine lv_iconst (v := nI 3) hx hb dX0_tick_8 (by decide +kernel) ?_
        refine lv_icmp_ge (tgt := 41) hx hb dX0_tick_9 (by decide) (fun _ => ?_) (fun c => absurd (by decide +kernel) c)
        refine lv_aload_n hx hb dX0_tick_41 rfl (lv_at hl 2 rfl) ?_
        refine lv_dup hx hb dX0_tick_42 rfl ?_
        refine k_get X hW inG0 rfl 2 (by decide) fl_X0_24 rfl 0 rfl (v := .int (z_44 0 2)) rfl dX0_tick_43 ?_
        refine lv_iconst (v := nI 1) hx hb dX0_tick_46 (by decide +kernel) ?_
        refine lv_iadd hx hb dX0_tick_47 ?_
        refine k_put X hW inG0 rfl tyX0_ok nmX0 2 (by decide) fl_X0_24 rfl rfl 0 rfl rfl rfl (Nat.le_of_ble_eq_true rfl) dX0_tick_48 (w' := cardW k a (st2 z_44 0 (upd (z_44 0) 2 ((z_44 0 2) + (nI 1))))) rfl (fun H locs hW => ?_)
        refine lv_iload_n hx hb dX0_tick_51 rfl (lv_at hl 1 rfl) ?_
        exact hQ _ _ _ _ _ _ hW dX0_tick_52 (by subst hz_47; subst hz_44; subst hz_33; subst hz_30; subst hz_5; subst hz_2; subst hz_1; rw [m_X0_tick_r, if_pos c_7, if_pos c_35, if_neg c_49]) (by subst hz_47; subst hz_44; subst hz_33; subst hz_30; subst hz_5; subst hz_2; subst hz_1; rw [m_X0_tick_u, if_pos c_7, if_pos c_35, if_neg c_49])
      · refine lv_aload_n hx hb dX0_tick_25 rfl (lv_at hl 2 rfl) ?_
        refine lv_aload_n hx hb dX0_tick_26 rfl (lv_at hl 2 rfl) ?_
        refine k_get X hW inG0 rfl 1 (by decide) fl_X0_20 rfl 0 rfl (v := .ref (a 2)) rfl dX0_tick_27 ?_
        refine lv_iload_n hx hb dX0_tick_30 rfl (lv_at hl 0 rfl) ?_
        refine k_aald X hW 2 1 rfl rfl (j := 2) (b := a 9) rfl (by decide) (by decide) rfl dX0_tick_31 ?_
        obtain ⟨z_51, hz_51⟩ : ∃ zq, m_X0_enterRow_2_u z_44 = zq := ⟨_, rfl⟩
        have hcm_z_51 : CM z_51 := by rw [← hz_51]; exact CM_X0_enterRow_2 hcm_z_44
        have hM_52 := (c_X0_enterRow_2 l D k a z_44 )
        rw [hz_51] at hM_52
        refine kVv (As := [.ref (a 9)]) (rest := []) X hW hM_52 yw_X0_enterRow lk_X0_93 ⟨Nat.le_of_ble_eq_true rfl, Nat.le_of_ble_eq_true rfl⟩ (wr := []) (List.Perm.refl _) (w' := cardW k a z_51) (List.Perm.refl _) (k_rcv X hW (ci := 0) (q0 := 0) rfl rfl) rfl hl.1 rfl (Nat.le_of_ble_eq_true rfl) ⟨Nat.zero_le _, Nat.zero_le _⟩ dX0_tick_32 (fun H locs hW => ?_)
        refine lv_iinc (v := nI 3) (lv' := [(2, .int (nI 3)), (1, .int z_2), (0, .ref (a 0))]) hx hb dX0_tick_35 hl (k := 0) rfl (k_inc _) (by decide) rfl (fun ls hl => ?_)
        refine lv_goto (tgt := 7) hx hb dX0_tick_38 (by decide) ?_
        refine lv_iload_n hx hb dX0_tick_7 rfl (lv_at hl 0 rfl) ?_
        refine lv_iconst (v := nI 3) hx hb dX0_tick_8 (by decide +kernel) ?_
        refine lv_icmp_ge (tgt := 41) hx hb dX0_tick_9 (by decide) (fun _ => ?_) (fun c => absurd (by decide +kernel) c)
        refine lv_aload_n hx hb dX0_tick_41 rfl (lv_at hl 2 rfl) ?_
        refine lv_dup hx hb dX0_tick_42 rfl ?_
        refine k_get X hW inG0 rfl 2 (by decide) fl_X0_24 rfl 0 rfl (v := .int (z_51 0 2)) rfl dX0_tick_43 ?_
        refine lv_iconst (v := nI 1) hx hb dX0_tick_46 (by decide +kernel) ?_
        refine lv_iadd hx hb dX0_tick_47 ?_
        refine k_put X hW inG0 rfl tyX0_ok nmX0 2 (by decide) fl_X0_24 rfl rfl 0 rfl rfl rfl (Nat.le_of_ble_eq_true rfl) dX0_tick_48 (w' := cardW k a (st2 z_51 0 (upd (z_51 0) 2 ((z_51 0 2) + (nI 1))))) rfl (fun H locs hW => ?_)
        refine lv_iload_n hx hb dX0_tick_51 rfl (lv_at hl 1 rfl) ?_
        exact hQ _ _ _ _ _ _ hW dX0_tick_52 (by subst hz_51; subst hz_47; subst hz_44; subst hz_33; subst hz_30; subst hz_5; subst hz_2; subst hz_1; rw [m_X0_tick_r, if_pos c_7, if_pos c_35, if_pos c_49]) (by subst hz_51; subst hz_47; subst hz_44; subst hz_33; subst hz_30; subst hz_5; subst hz_2; subst hz_1; rw [m_X0_tick_u, if_pos c_7, if_pos c_35, if_pos c_49])
set_option maxHeartbeats 4000000 in
theorem CM_X0_tick {u : CS}  (h : CM u) : CM (m_X0_tick_u u) := by
  rw [m_X0_tick_u]
  split
  · split
    · split
      · exact (CM_st0 (CM_X0_enterRow_2 (CM_X0_enterRow_1 (CM_X0_enterRow_0 (CM_X0_poll h)))) rfl)
      · exact (CM_st0 (CM_X0_enterRow_1 (CM_X0_enterRow_0 (CM_X0_poll h))) rfl)
    · split
      · exact (CM_st0 (CM_X0_enterRow_2 (CM_X0_enterRow_0 (CM_X0_poll h))) rfl)
      · exact (CM_st0 (CM_X0_enterRow_0 (CM_X0_poll h)) rfl)
  · split
    · split
      · exact (CM_st0 (CM_X0_enterRow_2 (CM_X0_enterRow_1 (CM_X0_poll h))) rfl)
      · exact (CM_st0 (CM_X0_enterRow_1 (CM_X0_poll h)) rfl)
    · split
      · exact (CM_st0 (CM_X0_enterRow_2 (CM_X0_poll h)) rfl)
      · exact (CM_st0 (CM_X0_poll h) rfl)
def lp_run : Nat → CS → CS
  | 0, u => u
  | r + 1, u => lp_run r (m_X0_tick_u u)
def lp_runR : Nat → CS → Int32 → Int32
  | 0, _, t => t
  | r + 1, u, t => lp_runR r (m_X0_tick_u u) (t + m_X0_tick_r u)
theorem CM_run : ∀ (r : Nat) {u : CS}, CM u → CM (lp_run r u) := by
  intro r
  induction r with
  | zero => intro u h; exact h
  | succ r ih => intro u h; exact ih (CM_X0_tick h)
def m_X0_runTicks_u (u : CS) (n : Nat) : CS := lp_run n u
def m_X0_runTicks_r (u : CS) (n : Nat) : Int32 := lp_runR n u (nI 0)
theorem CM_X0_runTicks {u : CS} {n : Nat} (h : CM u) : CM (m_X0_runTicks_u u n) := CM_run n h
set_option maxHeartbeats 4000000 in
set_option maxRecDepth 100000 in
theorem c_X0_runTicks (l : Launch) (D : va_G) (k : Nat → ClassId) (a : Nat → Nat) (u : CS) (n : Nat) (hc : CM u) (hn : n < 2 ^ 31) : mI l yX0_runTicks (wsY yX0_runTicks cX0_runTicks 4 (some .int)) 5 D k [.ref (a 0), .int (nI n)] (cardW k a u) (cardW k a (m_X0_runTicks_u u n)) (m_X0_runTicks_r u n) := by
  refine mI_intro rfl (Nat.le_of_ble_eq_true rfl) (Or.inl rfl) ?_
  intro p e s m args below meth c A Q ls X hW hl hQ
  have hx := X.hx
  have hb := X.hb
  have hl : lv_has ls 4 [(0, .ref (a 0)), (1, .int (nI n))] := hl
  have hc4 := hc.2.1
  refine lv_iconst (v := nI 0) hx hb dX0_runTicks_0 (by decide +kernel) ?_
  refine lv_istore_n (lv' := [(2, .int (nI 0)), (0, .ref (a 0)), (1, .int (nI n))]) hx hb dX0_runTicks_1 rfl hl (by decide) rfl (fun ls hl => ?_)
  refine lv_iconst (v := nI 0) hx hb dX0_runTicks_2 (by decide +kernel) ?_
  refine lv_istore_n (lv' := [(3, .int (nI 0)), (2, .int (nI 0)), (0, .ref (a 0)), (1, .int (nI n))]) hx hb dX0_runTicks_3 rfl hl (by decide) rfl (fun ls hl => ?_)
  have lp : ∀ (r : Nat) (u' : CS) (i : Nat) (t : Int32), CM u' → ∀ (H : Heap) (locs : List Loc) (ls : Array Slot), i + r = n → m_X0_runTicks_r u n = lp_runR r u' t → m_X0_runTicks_u u n = lp_run r u' → KW D A s (cardW k a u') H locs → lv_has ls 4 [(3, .int (nI i)), (2, .int t), (0, .ref (a 0)), (1, .int (nI n))] → W p l e (rmD 5) s m args below meth c H locs 0 0 Q (F0 m 4 ls []) := by
    intro r
    induction r with
    | zero =>
      intro u' i t hc' H locs ls hin hr hu hW hl
      refine lv_iload_n hx hb dX0_runTicks_4 rfl (lv_at hl 0 rfl) ?_
      refine lv_iload_n hx hb dX0_runTicks_5 rfl (lv_at hl 3 rfl) ?_
      refine lv_icmp_ge (tgt := 22) hx hb dX0_runTicks_6 (by decide) (fun c_1 => ?_) (fun c_1 => ?_)
      · have c_1 : n ≤ i := (nI_leI (a := n) (b := i) (by omega) (by omega)).mp c_1
        refine lv_iload_n hx hb dX0_runTicks_22 rfl (lv_at hl 1 rfl) ?_
        exact hQ _ _ _ _ _ _ hW dX0_runTicks_23 (by rw [hr]; rfl) (by rw [hu]; rfl)
      · have c_1 : ¬ (n ≤ i) := fun h => c_1 ((nI_leI (a := n) (b := i) (by omega) (by omega)).mpr h)
        omega
    | succ r ih =>
      intro u' i t hc' H locs ls hin hr hu hW hl
      refine lv_iload_n hx hb dX0_runTicks_4 rfl (lv_at hl 0 rfl) ?_
      refine lv_iload_n hx hb dX0_runTicks_5 rfl (lv_at hl 3 rfl) ?_
      refine lv_icmp_ge (tgt := 22) hx hb dX0_runTicks_6 (by decide) (fun c_2 => ?_) (fun c_2 => ?_)
      · have c_2 : n ≤ i := (nI_leI (a := n) (b := i) (by omega) (by omega)).mp c_2
        omega
      · have c_2 : ¬ (n ≤ i) := fun h => c_2 ((nI_leI (a := n) (b := i) (by omega) (by omega)).mpr h)
        refine lv_iload_n hx hb dX0_runTicks_9 rfl (lv_at hl 1 rfl) ?_
        refine lv_aload_n hx hb dX0_runTicks_10 rfl (lv_at hl 2 rfl) ?_
        obtain ⟨z_3, hz_3⟩ : ∃ zq, m_X0_tick_u u' = zq := ⟨_, rfl⟩
        have hcm_z_3 : CM z_3 := by rw [← hz_3]; exact CM_X0_tick hc'
        obtain ⟨z_4, hz_4⟩ : ∃ zq, m_X0_tick_r u' = zq := ⟨_, rfl⟩
        have hM_5 := (c_X0_tick l D k a u'  hc')
        rw [hz_3, hz_4] at hM_5
        refine kVi (As := []) (rest := [.int t]) X hW hM_5 yw_X0_tick lk_X0_103 ⟨Nat.le_of_ble_eq_true rfl, Nat.le_of_ble_eq_true rfl⟩ (wr := []) (List.Perm.refl _) (w' := cardW k a z_3) (List.Perm.refl _) (k_rcv X hW (ci := 0) (q0 := 0) rfl rfl) rfl hl.1 rfl (Nat.le_of_ble_eq_true rfl) ⟨Nat.zero_le _, Nat.zero_le _⟩ dX0_runTicks_11 (fun H locs hW => ?_)
        refine lv_iadd hx hb dX0_runTicks_14 ?_
        refine lv_istore_n (lv' := [(2, .int (t + z_4)), (3, .int (nI i)), (0, .ref (a 0)), (1, .int (nI n))]) hx hb dX0_runTicks_15 rfl hl (by decide) rfl (fun ls hl => ?_)
        refine lv_iinc (v := nI (i + 1)) (lv' := [(3, .int (nI (i + 1))), (2, .int (t + z_4)), (0, .ref (a 0)), (1, .int (nI n))]) hx hb dX0_runTicks_16 hl (k := 1) rfl (k_inc _) (by decide) rfl (fun ls hl => ?_)
        refine lv_goto (tgt := 4) hx hb dX0_runTicks_19 (by decide) ?_
        subst hz_4
        subst hz_3
        exact ih (m_X0_tick_u u') (i + 1) _ (CM_X0_tick hc') _ _ _ (by omega) hr hu hW (lv_sub hl [0, 1, 2, 3] rfl)
  exact lp n u 0 (nI 0) hc _ _ _ (by omega) rfl rfl hW (lv_sub hl [0, 1, 2, 3] rfl)
def m_X0_passTicks_r (u : CS) (x : Int32) : Int32 := if x < nI 1 then (-2) else if x ≤ nI 99 then (if (u 0 2) + x ≤ nI 9999 then (m_X0_runTicks_r u (tn x)) else (-5)) else (-2)
def m_X0_passTicks_u (u : CS) (x : Int32) : CS := if x < nI 1 then u else if x ≤ nI 99 then (if (u 0 2) + x ≤ nI 9999 then (m_X0_runTicks_u u (tn x)) else u) else u
set_option maxHeartbeats 4000000 in
set_option maxRecDepth 100000 in
theorem c_X0_passTicks (l : Launch) (D : va_G) (k : Nat → ClassId) (a : Nat → Nat) (u : CS) (x : Int32) (hc : CM u)  : mI l yX0_passTicks (wsY yX0_passTicks cX0_passTicks 2 (some .int)) 6 D k [.ref (a 0), .int x] (cardW k a u) (cardW k a (m_X0_passTicks_u u x)) (m_X0_passTicks_r u x) := by
  refine mI_intro rfl (Nat.le_of_ble_eq_true rfl) (Or.inl rfl) ?_
  intro p e s m args below meth c A Q ls X hW hl hQ
  have hx := X.hx
  have hb := X.hb
  have hl : lv_has ls 2 [(0, .ref (a 0)), (1, .int x)] := hl
  have hc4 := hc.2.1
  refine lv_iload_n hx hb dX0_passTicks_0 rfl (lv_at hl 1 rfl) ?_
  refine lv_iconst (v := nI 1) hx hb dX0_passTicks_1 (by decide +kernel) ?_
  refine lv_icmp_lt (tgt := 11) hx hb dX0_passTicks_2 (by decide) (fun c_1 => ?_) (fun c_1 => ?_)
  · refine lv_bipush (v := (-2)) hx hb dX0_passTicks_11 (by decide +kernel) ?_
    exact hQ _ _ _ _ _ _ hW dX0_passTicks_13 (by rw [m_X0_passTicks_r, if_pos c_1]) (by rw [m_X0_passTicks_u, if_pos c_1])
  · refine lv_iload_n hx hb dX0_passTicks_5 rfl (lv_at hl 1 rfl) ?_
    refine lv_bipush (v := nI 99) hx hb dX0_passTicks_6 (by decide +kernel) ?_
    refine lv_icmp_le (tgt := 14) hx hb dX0_passTicks_8 (by decide) (fun c_2 => ?_) (fun c_2 => ?_)
    · refine lv_aload_n hx hb dX0_passTicks_14 rfl (lv_at hl 0 rfl) ?_
      refine k_get X hW inG0 rfl 2 (by decide) fl_X0_24 rfl 0 rfl (v := .int (u 0 2)) rfl dX0_passTicks_15 ?_
      refine lv_iload_n hx hb dX0_passTicks_18 rfl (lv_at hl 1 rfl) ?_
      refine lv_iadd hx hb dX0_passTicks_19 ?_
      refine lv_sipush (v := nI 9999) hx hb dX0_passTicks_20 (by decide +kernel) ?_
      refine lv_icmp_le (tgt := 29) hx hb dX0_passTicks_23 (by decide) (fun c_3 => ?_) (fun c_3 => ?_)
      · refine lv_aload_n hx hb dX0_passTicks_29 rfl (lv_at hl 0 rfl) ?_
        have hx31 := tn_lt x
        refine lv_iload_n hx hb dX0_passTicks_30 rfl (lv_at hl 1 rfl) ?_
        refine k_top (y := nI (tn x)) (k_ge1 c_1) ?_
        obtain ⟨z_4, hz_4⟩ : ∃ zq, m_X0_runTicks_u u (tn x) = zq := ⟨_, rfl⟩
        have hcm_z_4 : CM z_4 := by rw [← hz_4]; exact CM_X0_runTicks hc
        obtain ⟨z_5, hz_5⟩ : ∃ zq, m_X0_runTicks_r u (tn x) = zq := ⟨_, rfl⟩
        have hM_6 := (c_X0_runTicks l D k a u (tn x) hc (by omega))
        rw [hz_4, hz_5] at hM_6
        refine kVi (As := [.int (nI (tn x))]) (rest := []) X hW hM_6 yw_X0_runTicks lk_X0_99 ⟨Nat.le_of_ble_eq_true rfl, Nat.le_of_ble_eq_true rfl⟩ (wr := []) (List.Perm.refl _) (w' := cardW k a z_4) (List.Perm.refl _) (k_rcv X hW (ci := 0) (q0 := 0) rfl rfl) rfl hl.1 rfl (Nat.le_of_ble_eq_true rfl) ⟨Nat.zero_le _, Nat.zero_le _⟩ dX0_passTicks_31 (fun H locs hW => ?_)
        exact hQ _ _ _ _ _ _ hW dX0_passTicks_34 (by subst hz_5; subst hz_4; rw [m_X0_passTicks_r, if_neg c_1, if_pos c_2, if_pos c_3]) (by subst hz_5; subst hz_4; rw [m_X0_passTicks_u, if_neg c_1, if_pos c_2, if_pos c_3])
      · refine lv_bipush (v := (-5)) hx hb dX0_passTicks_26 (by decide +kernel) ?_
        exact hQ _ _ _ _ _ _ hW dX0_passTicks_28 (by rw [m_X0_passTicks_r, if_neg c_1, if_pos c_2, if_neg c_3]) (by rw [m_X0_passTicks_u, if_neg c_1, if_pos c_2, if_neg c_3])
    · refine lv_bipush (v := (-2)) hx hb dX0_passTicks_11 (by decide +kernel) ?_
      exact hQ _ _ _ _ _ _ hW dX0_passTicks_13 (by rw [m_X0_passTicks_r, if_neg c_1, if_neg c_2]) (by rw [m_X0_passTicks_u, if_neg c_1, if_neg c_2])
set_option maxHeartbeats 4000000 in
theorem CM_X0_passTicks {u : CS} {x : Int32} (h : CM u) : CM (m_X0_passTicks_u u x) := by
  rw [m_X0_passTicks_u]
  split
  · exact h
  · split
    · split
      · exact (CM_X0_runTicks h)
      · exact h
    · exact h
