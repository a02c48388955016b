def m_X5_of_r (f : Nat → Int32) (x : Int32) (w : Int32) : Int32 := if (m_X5_isQueue_r x) = 0 then (-1) else if w = nI 0 then (m_X5_get_r f (tn x) 0) else if w = nI 1 then (m_X5_get_r f (tn x) 1) else if w = nI 2 then (m_X5_get_r f (tn x) 2) else if w = nI 3 then (m_X5_ring_r f (tn x)) else if w = nI 4 then (if (m_X5_placeInRow_r f (tn x)) = (-6) then nI 0 else nI 1) else if w = nI 5 then (m_X5_get_r f (tn x) 3) else if w = nI 6 then (m_X5_get_r f (tn x) 4) else if w = nI 7 then (m_X5_get_r f (tn x) 5) else if w = nI 8 then (m_X5_get_r f (tn x) 6) else if w = nI 9 then (m_X5_get_r f (tn x) 7) else if w = nI 10 then (m_X5_get_r f (tn x) 8) else if w = nI 11 then (m_X5_get_r f (tn x) 9) else if w = nI 12 then (m_X5_oldest_r f (tn x)) else (-2)
set_option maxHeartbeats 4000000 in
set_option maxRecDepth 100000 in
theorem c_X5_of (l : Launch) (D : va_G) (k : Nat → ClassId) (a : Nat → Nat) (z : Nat → Int32) (f : Nat → Int32) (kp : Nat → Int32) (hi : Nat → Int32) (sl : Nat → Int32) (sv : Nat → Int32) (tx : Nat → Int32) (td : Nat → Int32) (x : Int32) (w : Int32) (hf : WF f)  : mI l yX5_of (wsY yX5_of cX5_of 3 (some .int)) 4 D k [.ref (a 0), .int x, .int w] (refW k a z f kp hi sl sv tx td) (refW k a z f kp hi sl sv tx td) (m_X5_of_r f x w) := by
  refine mI_intro rfl (Nat.le_of_ble_eq_true rfl) (Or.inl rfl) ?_
  intro p e s m args below meth c A Q ls X hW hl hQ
  have hx := X.hx
  have hb := X.hb
  have hl : lv_has ls 3 [(0, .ref (a 0)), (1, .int x), (2, .int w)] := hl
  have hq_1 := hf.1.2
  have hq_2 := hf.2.1.2
  have hq_3 := hf.2.2.1.2
  refine lv_iload_n hx hb dX5_of_0 rfl (lv_at hl 1 rfl) ?_
  obtain ⟨z_4, hz_4⟩ : ∃ zq, m_X5_isQueue_r x = zq := ⟨_, rfl⟩
  have hM_5 := (c_X5_isQueue l D k x)
  rw [hz_4] at hM_5
  refine kSi (As := [.int x]) (rest := []) X hW hM_5 yw_X5_isQueue lk_X5_106 ⟨Nat.le_of_ble_eq_true rfl, Nat.le_of_ble_eq_true rfl⟩ rfl hl.1 rfl (Nat.le_of_ble_eq_true rfl) ⟨Nat.zero_le _, Nat.zero_le _⟩ dX5_of_1 (fun H locs hW => ?_)
  refine lv_if_ne (tgt := 9) hx hb dX5_of_4 (by decide) (fun c_6 => ?_) (fun c_6 => ?_)
  · obtain ⟨hs_7, ht_7⟩ := rq3 (x := x) (by rw [hz_4]; exact c_6)
    refine lv_iload_n hx hb dX5_of_9 rfl (lv_at hl 2 rfl) ?_
    by_cases c_9 : w = nI 0
    · refine lv_tableIn (off := 66) (tgt := 76) hx hb dX5_of_10 (by rw [c_9]; decide +kernel) (by rw [c_9]; decide +kernel) (by rw [c_9]; decide +kernel) (by decide) ?_
      refine lv_aload_n hx hb dX5_of_76 rfl (lv_at hl 0 rfl) ?_
      refine lv_iload_n hx hb dX5_of_77 rfl (lv_at hl 1 rfl) ?_
      refine k_top (y := nI (tn x)) (hs_7) ?_
      refine lv_iload_n hx hb dX5_of_78 rfl (lv_at hl 2 rfl) ?_
      refine k_top (y := nI 0) (c_9) ?_
      obtain ⟨z_10, hz_10⟩ : ∃ zq, m_X5_get_r f (tn x) 0 = zq := ⟨_, rfl⟩
      have hM_11 := (c_X5_get l D k a z f kp hi sl sv tx td (tn x) 0 (by first | decide | omega) (by first | decide | omega))
      rw [hz_10] at hM_11
      refine kVi (As := [.int (nI (tn x)), .int (nI 0)]) (rest := []) X hW hM_11 yw_X5_get lk_X5_53 ⟨Nat.le_of_ble_eq_true rfl, Nat.le_of_ble_eq_true rfl⟩ (wr := []) (List.Perm.refl _) (w' := refW k a z f kp hi sl sv tx td) (List.Perm.refl _) (k_rcv X hW (ci := 5) (q0 := 0) rfl rfl) rfl hl.1 rfl (Nat.le_of_ble_eq_true rfl) ⟨Nat.zero_le _, Nat.zero_le _⟩ dX5_of_79 (fun H locs hW => ?_)
      exact hQ _ _ _ _ _ _ hW dX5_of_82 (by subst hz_10; subst hz_4; rw [m_X5_of_r, if_neg c_6, if_pos c_9]) rfl
    by_cases c_12 : w = nI 1
    · refine lv_tableIn (off := 66) (tgt := 76) hx hb dX5_of_10 (by rw [c_12]; decide +kernel) (by rw [c_12]; decide +kernel) (by rw [c_12]; decide +kernel) (by decide) ?_
      refine lv_aload_n hx hb dX5_of_76 rfl (lv_at hl 0 rfl) ?_
      refine lv_iload_n hx hb dX5_of_77 rfl (lv_at hl 1 rfl) ?_
      refine k_top (y := nI (tn x)) (hs_7) ?_
      refine lv_iload_n hx hb dX5_of_78 rfl (lv_at hl 2 rfl) ?_
      refine k_top (y := nI 1) (c_12) ?_
      obtain ⟨z_13, hz_13⟩ : ∃ zq, m_X5_get_r f (tn x) 1 = zq := ⟨_, rfl⟩
      have hM_14 := (c_X5_get l D k a z f kp hi sl sv tx td (tn x) 1 (by first | decide | omega) (by first | decide | omega))
      rw [hz_13] at hM_14
      refine kVi (As := [.int (nI (tn x)), .int (nI 1)]) (rest := []) X hW hM_14 yw_X5_get lk_X5_53 ⟨Nat.le_of_ble_eq_true rfl, Nat.le_of_ble_eq_true rfl⟩ (wr := []) (List.Perm.refl _) (w' := refW k a z f kp hi sl sv tx td) (List.Perm.refl _) (k_rcv X hW (ci := 5) (q0 := 0) rfl rfl) rfl hl.1 rfl (Nat.le_of_ble_eq_true rfl) ⟨Nat.zero_le _, Nat.zero_le _⟩ dX5_of_79 (fun H locs hW => ?_)
      exact hQ _ _ _ _ _ _ hW dX5_of_82 (by subst hz_13; subst hz_4; rw [m_X5_of_r, if_neg c_6, if_neg c_9, if_pos c_12]) rfl
    by_cases c_15 : w = nI 2
    · refine lv_tableIn (off := 66) (tgt := 76) hx hb dX5_of_10 (by rw [c_15]; decide +kernel) (by rw [c_15]; decide +kernel) (by rw [c_15]; decide +kernel) (by decide) ?_
      refine lv_aload_n hx hb dX5_of_76 rfl (lv_at hl 0 rfl) ?_
      refine lv_iload_n hx hb dX5_of_77 rfl (lv_at hl 1 rfl) ?_
      refine k_top (y := nI (tn x)) (hs_7) ?_
      refine lv_iload_n hx hb dX5_of_78 rfl (lv_at hl 2 rfl) ?_
      refine k_top (y := nI 2) (c_15) ?_
      obtain ⟨z_16, hz_16⟩ : ∃ zq, m_X5_get_r f (tn x) 2 = zq := ⟨_, rfl⟩
      have hM_17 := (c_X5_get l D k a z f kp hi sl sv tx td (tn x) 2 (by first | decide | omega) (by first | decide | omega))
      rw [hz_16] at hM_17
      refine kVi (As := [.int (nI (tn x)), .int (nI 2)]) (rest := []) X hW hM_17 yw_X5_get lk_X5_53 ⟨Nat.le_of_ble_eq_true rfl, Nat.le_of_ble_eq_true rfl⟩ (wr := []) (List.Perm.refl _) (w' := refW k a z f kp hi sl sv tx td) (List.Perm.refl _) (k_rcv X hW (ci := 5) (q0 := 0) rfl rfl) rfl hl.1 rfl (Nat.le_of_ble_eq_true rfl) ⟨Nat.zero_le _, Nat.zero_le _⟩ dX5_of_79 (fun H locs hW => ?_)
      exact hQ _ _ _ _ _ _ hW dX5_of_82 (by subst hz_16; subst hz_4; rw [m_X5_of_r, if_neg c_6, if_neg c_9, if_neg c_12, if_pos c_15]) rfl
    by_cases c_18 : w = nI 3
    · refine lv_tableIn (off := 73) (tgt := 83) hx hb dX5_of_10 (by rw [c_18]; decide +kernel) (by rw [c_18]; decide +kernel) (by rw [c_18]; decide +kernel) (by decide) ?_
      refine lv_aload_n hx hb dX5_of_83 rfl (lv_at hl 0 rfl) ?_
      refine lv_iload_n hx hb dX5_of_84 rfl (lv_at hl 1 rfl) ?_
      refine k_top (y := nI (tn x)) (hs_7) ?_
      obtain ⟨z_19, hz_19⟩ : ∃ zq, m_X5_ring_r f (tn x) = zq := ⟨_, rfl⟩
      have hM_20 := (c_X5_ring l D k a z f kp hi sl sv tx td (tn x) hf)
      rw [hz_19] at hM_20
      refine kVi (As := [.int (nI (tn x))]) (rest := []) X hW hM_20 yw_X5_ring lk_X5_56 ⟨Nat.le_of_ble_eq_true rfl, Nat.le_of_ble_eq_true rfl⟩ (wr := []) (List.Perm.refl _) (w' := refW k a z f kp hi sl sv tx td) (List.Perm.refl _) (k_rcv X hW (ci := 5) (q0 := 0) rfl rfl) rfl hl.1 rfl (Nat.le_of_ble_eq_true rfl) ⟨Nat.zero_le _, Nat.zero_le _⟩ dX5_of_85 (fun H locs hW => ?_)
      exact hQ _ _ _ _ _ _ hW dX5_of_88 (by subst hz_19; subst hz_4; rw [m_X5_of_r, if_neg c_6, if_neg c_9, if_neg c_12, if_neg c_15, if_pos c_18]) rfl
    by_cases c_21 : w = nI 4
    · refine lv_tableIn (off := 79) (tgt := 89) hx hb dX5_of_10 (by rw [c_21]; decide +kernel) (by rw [c_21]; decide +kernel) (by rw [c_21]; decide +kernel) (by decide) ?_
      refine lv_aload_n hx hb dX5_of_89 rfl (lv_at hl 0 rfl) ?_
      refine lv_iload_n hx hb dX5_of_90 rfl (lv_at hl 1 rfl) ?_
      refine k_top (y := nI (tn x)) (hs_7) ?_
      obtain ⟨z_22, hz_22⟩ : ∃ zq, m_X5_placeInRow_r f (tn x) = zq := ⟨_, rfl⟩
      have hM_23 := (c_X5_placeInRow l D k a z f kp hi sl sv tx td (tn x) hf)
      rw [hz_22] at hM_23
      refine kVi (As := [.int (nI (tn x))]) (rest := []) X hW hM_23 yw_X5_placeInRow lk_X5_74 ⟨Nat.le_of_ble_eq_true rfl, Nat.le_of_ble_eq_true rfl⟩ (wr := []) (List.Perm.refl _) (w' := refW k a z f kp hi sl sv tx td) (List.Perm.refl _) (k_rcv X hW (ci := 5) (q0 := 0) rfl rfl) rfl hl.1 rfl (Nat.le_of_ble_eq_true rfl) ⟨Nat.zero_le _, Nat.zero_le _⟩ dX5_of_91 (fun H locs hW => ?_)
      refine lv_bipush (v := (-6)) hx hb dX5_of_94 (by decide +kernel) ?_
      refine lv_icmp_ne (tgt := 103) hx hb dX5_of_96 (by decide) (fun c_24 => ?_) (fun c_24 => ?_)
      · refine lv_iconst (v := nI 1) hx hb dX5_of_103 (by decide +kernel) ?_
        exact hQ _ _ _ _ _ _ hW dX5_of_104 (by subst hz_22; subst hz_4; rw [m_X5_of_r, if_neg c_6, if_neg c_9, if_neg c_12, if_neg c_15, if_neg c_18, if_pos c_21, if_neg c_24]) rfl
      · refine lv_iconst (v := nI 0) hx hb dX5_of_99 (by decide +kernel) ?_
        refine lv_goto (tgt := 104) hx hb dX5_of_100 (by decide) ?_
        exact hQ _ _ _ _ _ _ hW dX5_of_104 (by subst hz_22; subst hz_4; rw [m_X5_of_r, if_neg c_6, if_neg c_9, if_neg c_12, if_neg c_15, if_neg c_18, if_pos c_21, if_pos c_24]) rfl
    by_cases c_25 : w = nI 5
    · refine lv_tableIn (off := 95) (tgt := 105) hx hb dX5_of_10 (by rw [c_25]; decide +kernel) (by rw [c_25]; decide +kernel) (by rw [c_25]; decide +kernel) (by decide) ?_
      refine lv_aload_n hx hb dX5_of_105 rfl (lv_at hl 0 rfl) ?_
      refine lv_iload_n hx hb dX5_of_106 rfl (lv_at hl 1 rfl) ?_
      refine k_top (y := nI (tn x)) (hs_7) ?_
      refine lv_iconst (v := nI 3) hx hb dX5_of_107 (by decide +kernel) ?_
      obtain ⟨z_26, hz_26⟩ : ∃ zq, m_X5_get_r f (tn x) 3 = zq := ⟨_, rfl⟩
      have hM_27 := (c_X5_get l D k a z f kp hi sl sv tx td (tn x) 3 (by first | decide | omega) (by first | decide | omega))
      rw [hz_26] at hM_27
      refine kVi (As := [.int (nI (tn x)), .int (nI 3)]) (rest := []) X hW hM_27 yw_X5_get lk_X5_53 ⟨Nat.le_of_ble_eq_true rfl, Nat.le_of_ble_eq_true rfl⟩ (wr := []) (List.Perm.refl _) (w' := refW k a z f kp hi sl sv tx td) (List.Perm.refl _) (k_rcv X hW (ci := 5) (q0 := 0) rfl rfl) rfl hl.1 rfl (Nat.le_of_ble_eq_true rfl) ⟨Nat.zero_le _, Nat.zero_le _⟩ dX5_of_108 (fun H locs hW => ?_)
      exact hQ _ _ _ _ _ _ hW dX5_of_111 (by subst hz_26; subst hz_4; rw [m_X5_of_r, if_neg c_6, if_neg c_9, if_neg c_12, if_neg c_15, if_neg c_18, if_neg c_21, if_pos c_25]) rfl
    by_cases c_28 : w = nI 6
    · refine lv_tableIn (off := 102) (tgt := 112) hx hb dX5_of_10 (by rw [c_28]; decide +kernel) (by rw [c_28]; decide +kernel) (by rw [c_28]; decide +kernel) (by decide) ?_
      refine lv_aload_n hx hb dX5_of_112 rfl (lv_at hl 0 rfl) ?_
      refine lv_iload_n hx hb dX5_of_113 rfl (lv_at hl 1 rfl) ?_
      refine k_top (y := nI (tn x)) (hs_7) ?_
      refine lv_iconst (v := nI 4) hx hb dX5_of_114 (by decide +kernel) ?_
      refine lv_iload_n hx hb dX5_of_115 rfl (lv_at hl 2 rfl) ?_
      refine k_top (y := nI 6) (c_28) ?_
      refine lv_iadd hx hb dX5_of_116 ?_
      refine k_top (y := nI 10) (by decide +kernel) ?_
      refine lv_bipush (v := nI 6) hx hb dX5_of_117 (by decide +kernel) ?_
      refine lv_isub hx hb dX5_of_119 ?_
      refine k_top (y := nI 4) (by decide +kernel) ?_
      obtain ⟨z_29, hz_29⟩ : ∃ zq, m_X5_get_r f (tn x) 4 = zq := ⟨_, rfl⟩
      have hM_30 := (c_X5_get l D k a z f kp hi sl sv tx td (tn x) 4 (by first | decide | omega) (by first | decide | omega))
      rw [hz_29] at hM_30
      refine kVi (As := [.int (nI (tn x)), .int (nI 4)]) (rest := []) X hW hM_30 yw_X5_get lk_X5_53 ⟨Nat.le_of_ble_eq_true rfl, Nat.le_of_ble_eq_true rfl⟩ (wr := []) (List.Perm.refl _) (w' := refW k a z f kp hi sl sv tx td) (List.Perm.refl _) (k_rcv X hW (ci := 5) (q0 := 0) rfl rfl) rfl hl.1 rfl (Nat.le_of_ble_eq_true rfl) ⟨Nat.zero_le _, Nat.zero_le _⟩ dX5_of_120 (fun H locs hW => ?_)
      exact hQ _ _ _ _ _ _ hW dX5_of_123 (by subst hz_29; subst hz_4; rw [m_X5_of_r, if_neg c_6, if_neg c_9, if_neg c_12, if_neg c_15, if_neg c_18, if_neg c_21, if_neg c_25, if_pos c_28]) rfl
    by_cases c_31 : w = nI 7
    · refine lv_tableIn (off := 102) (tgt := 112) hx hb dX5_of_10 (by rw [c_31]; decide +kernel) (by rw [c_31]; decide +kernel) (by rw [c_31]; decide +kernel) (by decide) ?_
      refine lv_aload_n hx hb dX5_of_112 rfl (lv_at hl 0 rfl) ?_
      refine lv_iload_n hx hb dX5_of_113 rfl (lv_at hl 1 rfl) ?_
      refine k_top (y := nI (tn x)) (hs_7) ?_
      refine lv_iconst (v := nI 4) hx hb dX5_of_114 (by decide +kernel) ?_
      refine lv_iload_n hx hb dX5_of_115 rfl (lv_at hl 2 rfl) ?_
      refine k_top (y := nI 7) (c_31) ?_
      refine lv_iadd hx hb dX5_of_116 ?_
      refine k_top (y := nI 11) (by decide +kernel) ?_
      refine lv_bipush (v := nI 6) hx hb dX5_of_117 (by decide +kernel) ?_
      refine lv_isub hx hb dX5_of_119 ?_
      refine k_top (y := nI 5) (by decide +kernel) ?_
      obtain ⟨z_32, hz_32⟩ : ∃ zq, m_X5_get_r f (tn x) 5 = zq := ⟨_, rfl⟩
      have hM_33 := (c_X5_get l D k a z f kp hi sl sv tx td (tn x) 5 (by first | decide | omega) (by first | decide | omega))
      rw [hz_32] at hM_33
      refine kVi (As := [.int (nI (tn x)), .int (nI 5)]) (rest := []) X hW hM_33 yw_X5_get lk_X5_53 ⟨Nat.le_of_ble_eq_true rfl, Nat.le_of_ble_eq_true rfl⟩ (wr := []) (List.Perm.refl _) (w' := refW k a z f kp hi sl sv tx td) (List.Perm.refl _) (k_rcv X hW (ci := 5) (q0 := 0) rfl rfl) rfl hl.1 rfl (Nat.le_of_ble_eq_true rfl) ⟨Nat.zero_le _, Nat.zero_le _⟩ dX5_of_120 (fun H locs hW => ?_)
      exact hQ _ _ _ _ _ _ hW dX5_of_123 (by subst hz_32; subst hz_4; rw [m_X5_of_r, if_neg c_6, if_neg c_9, if_neg c_12, if_neg c_15, if_neg c_18, if_neg c_21, if_neg c_25, if_neg c_28, if_pos c_31]) rfl
    by_cases c_34 : w = nI 8
    · refine lv_tableIn (off := 102) (tgt := 112) hx hb dX5_of_10 (by rw [c_34]; decide +kernel) (by rw [c_34]; decide +kernel) (by rw [c_34]; decide +kernel) (by decide) ?_
      refine lv_aload_n hx hb dX5_of_112 rfl (lv_at hl 0 rfl) ?_
      refine lv_iload_n hx hb dX5_of_113 rfl (lv_at hl 1 rfl) ?_
      refine k_top (y := nI (tn x)) (hs_7) ?_
      refine lv_iconst (v := nI 4) hx hb dX5_of_114 (by decide +kernel) ?_
      refine lv_iload_n hx hb dX5_of_115 rfl (lv_at hl 2 rfl) ?_
      refine k_top (y := nI 8) (c_34) ?_
      refine lv_iadd hx hb dX5_of_116 ?_
      refine k_top (y := nI 12) (by decide +kernel) ?_
      refine lv_bipush (v := nI 6) hx hb dX5_of_117 (by decide +kernel) ?_
      refine lv_isub hx hb dX5_of_119 ?_
      refine k_top (y := nI 6) (by decide +kernel) ?_
      obtain ⟨z_35, hz_35⟩ : ∃ zq, m_X5_get_r f (tn x) 6 = zq := ⟨_, rfl⟩
      have hM_36 := (c_X5_get l D k a z f kp hi sl sv tx td (tn x) 6 (by first | decide | omega) (by first | decide | omega))
      rw [hz_35] at hM_36
      refine kVi (As := [.int (nI (tn x)), .int (nI 6)]) (rest := []) X hW hM_36 yw_X5_get lk_X5_53 ⟨Nat.le_of_ble_eq_true rfl, Nat.le_of_ble_eq_true rfl⟩ (wr := []) (List.Perm.refl _) (w' := refW k a z f kp hi sl sv tx td) (List.Perm.refl _) (k_rcv X hW (ci := 5) (q0 := 0) rfl rfl) rfl hl.1 rfl (Nat.le_of_ble_eq_true rfl) ⟨Nat.zero_le _, Nat.zero_le _⟩ dX5_of_120 (fun H locs hW => ?_)
      exact hQ _ _ _ _ _ _ hW dX5_of_123 (by subst hz_35; subst hz_4; rw [m_X5_of_r, if_neg c_6, if_neg c_9, if_neg c_12, if_neg c_15, if_neg c_18, if_neg c_21, if_neg c_25, if_neg c_28, if_neg c_31, if_pos c_34]) rfl
    by_cases c_37 : w = nI 9
    · refine lv_tableIn (off := 102) (tgt := 112) hx hb dX5_of_10 (by rw [c_37]; decide +kernel) (by rw [c_37]; decide +kernel) (by rw [c_37]; decide +kernel) (by decide) ?_
      refine lv_aload_n hx hb dX5_of_112 rfl (lv_at hl 0 rfl) ?_
      refine lv_iload_n hx hb dX5_of_113 rfl (lv_at hl 1 rfl) ?_
      refine k_top (y := nI (tn x)) (hs_7) ?_
      refine lv_iconst (v := nI 4) hx hb dX5_of_114 (by decide +kernel) ?_
      refine lv_iload_n hx hb dX5_of_115 rfl (lv_at hl 2 rfl) ?_
      refine k_top (y := nI 9) (c_37) ?_
      refine lv_iadd hx hb dX5_of_116 ?_
      refine k_top (y := nI 13) (by decide +kernel) ?_
      refine lv_bipush (v := nI 6) hx hb dX5_of_117 (by decide +kernel) ?_
      refine lv_isub hx hb dX5_of_119 ?_
      refine k_top (y := nI 7) (by decide +kernel) ?_
      obtain ⟨z_38, hz_38⟩ : ∃ zq, m_X5_get_r f (tn x) 7 = zq := ⟨_, rfl⟩
      have hM_39 := (c_X5_get l D k a z f kp hi sl sv tx td (tn x) 7 (by first | decide | omega) (by first | decide | omega))
      rw [hz_38] at hM_39
      refine kVi (As := [.int (nI (tn x)), .int (nI 7)]) (rest := []) X hW hM_39 yw_X5_get lk_X5_53 ⟨Nat.le_of_ble_eq_true rfl, Nat.le_of_ble_eq_true rfl⟩ (wr := []) (List.Perm.refl _) (w' := refW k a z f kp hi sl sv tx td) (List.Perm.refl _) (k_rcv X hW (ci := 5) (q0 := 0) rfl rfl) rfl hl.1 rfl (Nat.le_of_ble_eq_true rfl) ⟨Nat.zero_le _, Nat.zero_le _⟩ dX5_of_120 (fun H locs hW => ?_)
      exact hQ _ _ _ _ _ _ hW dX5_of_123 (by subst hz_38; subst hz_4; rw [m_X5_of_r, if_neg c_6, if_neg c_9, if_neg c_12, if_neg c_15, if_neg c_18, if_neg c_21, if_neg c_25, if_neg c_28, if_neg c_31, if_neg c_34, if_pos c_37]) rfl
    by_cases c_40 : w = nI 10
    · refine lv_tableIn (off := 102) (tgt := 112) hx hb dX5_of_10 (by rw [c_40]; decide +kernel) (by rw [c_40]; decide +kernel) (by rw [c_40]; decide +kernel) (by decide) ?_
      refine lv_aload_n hx hb dX5_of_112 rfl (lv_at hl 0 rfl) ?_
      refine lv_iload_n hx hb dX5_of_113 rfl (lv_at hl 1 rfl) ?_
      refine k_top (y := nI (tn x)) (hs_7) ?_
      refine lv_iconst (v := nI 4) hx hb dX5_of_114 (by decide +kernel) ?_
      refine lv_iload_n hx hb dX5_of_115 rfl (lv_at hl 2 rfl) ?_
      refine k_top (y := nI 10) (c_40) ?_
      refine lv_iadd hx hb dX5_of_116 ?_
      refine k_top (y := nI 14) (by decide +kernel) ?_
      refine lv_bipush (v := nI 6) hx hb dX5_of_117 (by decide +kernel) ?_
      refine lv_isub hx hb dX5_of_119 ?_
      refine k_top (y := nI 8) (by decide +kernel) ?_
      obtain ⟨z_41, hz_41⟩ : ∃ zq, m_X5_get_r f (tn x) 8 = zq := ⟨_, rfl⟩
      have hM_42 := (c_X5_get l D k a z f kp hi sl sv tx td (tn x) 8 (by first | decide | omega) (by first | decide | omega))
      rw [hz_41] at hM_42
      refine kVi (As := [.int (nI (tn x)), .int (nI 8)]) (rest := []) X hW hM_42 yw_X5_get lk_X5_53 ⟨Nat.le_of_ble_eq_true rfl, Nat.le_of_ble_eq_true rfl⟩ (wr := []) (List.Perm.refl _) (w' := refW k a z f kp hi sl sv tx td) (List.Perm.refl _) (k_rcv X hW (ci := 5) (q0 := 0) rfl rfl) rfl hl.1 rfl (Nat.le_of_ble_eq_true rfl) ⟨Nat.zero_le _, Nat.zero_le _⟩ dX5_of_120 (fun H locs hW => ?_)
      exact hQ _ _ _ _ _ _ hW dX5_of_123 (by subst hz_41; subst hz_4; rw [m_X5_of_r, if_neg c_6, if_neg c_9, if_neg c_12, if_neg c_15, if_neg c_18, if_neg c_21, if_neg c_25, if_neg c_28, if_neg c_31, if_neg c_34, if_neg c_37, if_pos c_40]) rfl
    by_cases c_43 : w = nI 11
    · refine lv_tableIn (off := 102) (tgt := 112) hx hb dX5_of_10 (by rw [c_43]; decide +kernel) (by rw [c_43]; decide +kernel) (by rw [c_43]; decide +kernel) (by decide) ?_
      refine lv_aload_n hx hb dX5_of_112 rfl (lv_at hl 0 rfl) ?_
      refine lv_iload_n hx hb dX5_of_113 rfl (lv_at hl 1 rfl) ?_
      refine k_top (y := nI (tn x)) (hs_7) ?_
      refine lv_iconst (v := nI 4) hx hb dX5_of_114 (by decide +kernel) ?_
      refine lv_iload_n hx hb dX5_of_115 rfl (lv_at hl 2 rfl) ?_
      refine k_top (y := nI 11) (c_43) ?_
      refine lv_iadd hx hb dX5_of_116 ?_
      refine k_top (y := nI 15) (by decide +kernel) ?_
      refine lv_bipush (v := nI 6) hx hb dX5_of_117 (by decide +kernel) ?_
      refine lv_isub hx hb dX5_of_119 ?_
      refine k_top (y := nI 9) (by decide +kernel) ?_
      obtain ⟨z_44, hz_44⟩ : ∃ zq, m_X5_get_r f (tn x) 9 = zq := ⟨_, rfl⟩
      have hM_45 := (c_X5_get l D k a z f kp hi sl sv tx td (tn x) 9 (by first | decide | omega) (by first | decide | omega))
      rw [hz_44] at hM_45
      refine kVi (As := [.int (nI (tn x)), .int (nI 9)]) (rest := []) X hW hM_45 yw_X5_get lk_X5_53 ⟨Nat.le_of_ble_eq_true rfl, Nat.le_of_ble_eq_true rfl⟩ (wr := []) (List.Perm.refl _) (w' := refW k a z f kp hi sl sv tx td) (List.Perm.refl _) (k_rcv X hW (ci := 5) (q0 := 0) rfl rfl) rfl hl.1 rfl (Nat.le_of_ble_eq_true rfl) ⟨Nat.zero_le _, Nat.zero_le _⟩ dX5_of_120 (fun H locs hW => ?_)
      exact hQ _ _ _ _ _ _ hW dX5_of_123 (by subst hz_44; subst hz_4; rw [m_X5_of_r, if_neg c_6, if_neg c_9, if_neg c_12, if_neg c_15, if_neg c_18, if_neg c_21, if_neg c_25, if_neg c_28, if_neg c_31, if_neg c_34, if_neg c_37, if_neg c_40, if_pos c_43]) rfl
    by_cases c_46 : w = nI 12
    · refine lv_tableIn (off := 114) (tgt := 124) hx hb dX5_of_10 (by rw [c_46]; decide +kernel) (by rw [c_46]; decide +kernel) (by rw [c_46]; decide +kernel) (by decide) ?_
      refine lv_aload_n hx hb dX5_of_124 rfl (lv_at hl 0 rfl) ?_
      refine lv_iload_n hx hb dX5_of_125 rfl (lv_at hl 1 rfl) ?_
      refine k_top (y := nI (tn x)) (hs_7) ?_
      obtain ⟨z_47, hz_47⟩ : ∃ zq, m_X5_oldest_r f (tn x) = zq := ⟨_, rfl⟩
      have hM_48 := (c_X5_oldest l D k a z f kp hi sl sv tx td (tn x) hf)
      rw [hz_47] at hM_48
      refine kVi (As := [.int (nI (tn x))]) (rest := []) X hW hM_48 yw_X5_oldest lk_X5_63 ⟨Nat.le_of_ble_eq_true rfl, Nat.le_of_ble_eq_true rfl⟩ (wr := []) (List.Perm.refl _) (w' := refW k a z f kp hi sl sv tx td) (List.Perm.refl _) (k_rcv X hW (ci := 5) (q0 := 0) rfl rfl) rfl hl.1 rfl (Nat.le_of_ble_eq_true rfl) ⟨Nat.zero_le _, Nat.zero_le _⟩ dX5_of_126 (fun H locs hW => ?_)
      exact hQ _ _ _ _ _ _ hW dX5_of_129 (by subst hz_47; subst hz_4; rw [m_X5_of_r, if_neg c_6, if_neg c_9, if_neg c_12, if_neg c_15, if_neg c_18, if_neg c_21, if_neg c_25, if_neg c_28, if_neg c_31, if_neg c_34, if_neg c_37, if_neg c_40, if_neg c_43, if_pos c_46]) rfl
    refine lv_tableOut (tgt := 130) hx hb dX5_of_10 (k_sw12 c_9 c_12 c_15 c_18 c_21 c_25 c_28 c_31 c_34 c_37 c_40 c_43 c_46) (by decide) ?_
    refine lv_bipush (v := (-2)) hx hb dX5_of_130 (by decide +kernel) ?_
    exact hQ _ _ _ _ _ _ hW dX5_of_132 (by subst hz_4; rw [m_X5_of_r, if_neg c_6, if_neg c_9, if_neg c_12, if_neg c_15, if_neg c_18, if_neg c_21, if_neg c_25, if_neg c_28, if_neg c_31, if_neg c_34, if_neg c_37, if_neg c_40, if_neg c_43, if_neg c_46]) rfl
  · refine lv_iconst (v := (-1)) hx hb dX5_of_7 (by decide +kernel) ?_
    exact hQ _ _ _ _ _ _ hW dX5_of_8 (by subst hz_4; rw [m_X5_of_r, if_pos c_6]) rfl
def m_X5_count_r (z : Nat → Int32) (f : Nat → Int32) (w : Int32) : Int32 := if w = nI 0 then f 4 else if w = nI 1 then nI (tn (f 5)) else if w = nI 2 then (m_X5_inRings_r f) else if w = nI 3 then (m_X5_allOf_r f 5) else if w = nI 4 then (m_X5_allOf_r f 6) else if w = nI 5 then (m_X5_allOf_r f 4) else if w = nI 6 then ((m_X5_get_r f 0 3) + ((nI 2) * (m_X5_get_r f 1 3))) + ((nI 4) * (m_X5_get_r f 2 3)) else if w = nI 7 then f 0 else if w = nI 8 then nI (tn (f 1)) else if w = nI 9 then f 2 else if w = nI 10 then f 3 else if w = nI 11 then z 7 else if w = nI 12 then z 3 else (-2)
set_option maxHeartbeats 4000000 in
set_option maxRecDepth 100000 in
theorem c_X5_count (l : Launch) (D : va_G) (k : Nat → ClassId) (a : Nat → Nat) (z : Nat → Int32) (f : Nat → Int32) (kp : Nat → Int32) (hi : Nat → Int32) (sl : Nat → Int32) (sv : Nat → Int32) (tx : Nat → Int32) (td : Nat → Int32) (w : Int32) (hf : WF f)  : mI l yX5_count (wsY yX5_count cX5_count 2 (some .int)) 4 D k [.ref (a 0), .int w] (refW k a z f kp hi sl sv tx td) (refW k a z f kp hi sl sv tx td) (m_X5_count_r z f w) := by
  refine mI_intro rfl (Nat.le_of_ble_eq_true rfl) (Or.inl rfl) ?_
  intro p e s m args below meth c A Q ls X hW hl hQ
  have hx := X.hx
  have hb := X.hb
  have hl : lv_has ls 2 [(0, .ref (a 0)), (1, .int w)] := hl
  have hq_1 := hf.1.2
  have hq_2 := hf.2.1.2
  have hq_3 := hf.2.2.1.2
  refine lv_iload_n hx hb dX5_count_0 rfl (lv_at hl 1 rfl) ?_
  by_cases c_5 : w = nI 0
  · refine lv_tableIn (off := 67) (tgt := 68) hx hb dX5_count_1 (by rw [c_5]; decide +kernel) (by rw [c_5]; decide +kernel) (by rw [c_5]; decide +kernel) (by decide) ?_
    refine lv_aload_n hx hb dX5_count_68 rfl (lv_at hl 0 rfl) ?_
    refine k_get X hW inG5 rfl 0 (by decide) fl_X5_7 rfl 0 rfl (v := .ref (a 1)) rfl dX5_count_69 ?_
    refine lv_iconst (v := nI 4) hx hb dX5_count_72 (by decide +kernel) ?_
    refine k_iald X hW 1 rfl (j := 4) (v := f 4) rfl (by decide) (by decide) rfl dX5_count_73 ?_
    exact hQ _ _ _ _ _ _ hW dX5_count_74 (by rw [m_X5_count_r, if_pos c_5]) rfl
  by_cases c_6 : w = nI 1
  · refine lv_tableIn (off := 74) (tgt := 75) hx hb dX5_count_1 (by rw [c_6]; decide +kernel) (by rw [c_6]; decide +kernel) (by rw [c_6]; decide +kernel) (by decide) ?_
    refine lv_aload_n hx hb dX5_count_75 rfl (lv_at hl 0 rfl) ?_
    refine k_get X hW inG5 rfl 0 (by decide) fl_X5_7 rfl 0 rfl (v := .ref (a 1)) rfl dX5_count_76 ?_
    refine lv_iconst (v := nI 5) hx hb dX5_count_79 (by decide +kernel) ?_
    refine k_iald X hW 1 rfl (j := 5) (v := f 5) rfl (by decide) (by decide) rfl dX5_count_80 ?_
    refine k_top (y := nI (tn (f 5))) (hf.1.1) ?_
    exact hQ _ _ _ _ _ _ hW dX5_count_81 (by rw [m_X5_count_r, if_neg c_5, if_pos c_6]) rfl
  by_cases c_7 : w = nI 2
  · refine lv_tableIn (off := 81) (tgt := 82) hx hb dX5_count_1 (by rw [c_7]; decide +kernel) (by rw [c_7]; decide +kernel) (by rw [c_7]; decide +kernel) (by decide) ?_
    refine lv_aload_n hx hb dX5_count_82 rfl (lv_at hl 0 rfl) ?_
    obtain ⟨z_8, hz_8⟩ : ∃ zq, m_X5_inRings_r f = zq := ⟨_, rfl⟩
    have hM_9 := (c_X5_inRings l D k a z f kp hi sl sv tx td  hf)
    rw [hz_8] at hM_9
    refine kVi (As := []) (rest := []) X hW hM_9 yw_X5_inRings lk_X5_132 ⟨Nat.le_of_ble_eq_true rfl, Nat.le_of_ble_eq_true rfl⟩ (wr := []) (List.Perm.refl _) (w' := refW k a z f kp hi sl sv tx td) (List.Perm.refl _) (k_rcv X hW (ci := 5) (q0 := 0) rfl rfl) rfl hl.1 rfl (Nat.le_of_ble_eq_true rfl) ⟨Nat.zero_le _, Nat.zero_le _⟩ dX5_count_83 (fun H locs hW => ?_)
    exact hQ _ _ _ _ _ _ hW dX5_count_86 (by subst hz_8; rw [m_X5_count_r, if_neg c_5, if_neg c_6, if_pos c_7]) rfl
  by_cases c_10 : w = nI 3
  · refine lv_tableIn (off := 86) (tgt := 87) hx hb dX5_count_1 (by rw [c_10]; decide +kernel) (by rw [c_10]; decide +kernel) (by rw [c_10]; decide +kernel) (by decide) ?_
    refine lv_aload_n hx hb dX5_count_87 rfl (lv_at hl 0 rfl) ?_
    refine lv_iconst (v := nI 5) hx hb dX5_count_88 (by decide +kernel) ?_
    obtain ⟨z_11, hz_11⟩ : ∃ zq, m_X5_allOf_r f 5 = zq := ⟨_, rfl⟩
    have hM_12 := (c_X5_allOf l D k a z f kp hi sl sv tx td 5 (by first | decide | omega))
    rw [hz_11] at hM_12
    refine kVi (As := [.int (nI 5)]) (rest := []) X hW hM_12 yw_X5_allOf lk_X5_86 ⟨Nat.le_of_ble_eq_true rfl, Nat.le_of_ble_eq_true rfl⟩ (wr := []) (List.Perm.refl _) (w' := refW k a z f kp hi sl sv tx td) (List.Perm.refl _) (k_rcv X hW (ci := 5) (q0 := 0) rfl rfl) rfl hl.1 rfl (Nat.le_of_ble_eq_true rfl) ⟨Nat.zero_le _, Nat.zero_le _⟩ dX5_count_89 (fun H locs hW => ?_)
    exact hQ _ _ _ _ _ _ hW dX5_count_92 (by subst hz_11; rw [m_X5_count_r, if_neg c_5, if_neg c_6, if_neg c_7, if_pos c_10]) rfl
  by_cases c_13 : w = nI 4
  · refine lv_tableIn (off := 92) (tgt := 93) hx hb dX5_count_1 (by rw [c_13]; decide +kernel) (by rw [c_13]; decide +kernel) (by rw [c_13]; decide +kernel) (by decide) ?_
    refine lv_aload_n hx hb dX5_count_93 rfl (lv_at hl 0 rfl) ?_
    refine lv_bipush (v := nI 6) hx hb dX5_count_94 (by decide +kernel) ?_
    obtain ⟨z_14, hz_14⟩ : ∃ zq, m_X5_allOf_r f 6 = zq := ⟨_, rfl⟩
    have hM_15 := (c_X5_allOf l D k a z f kp hi sl sv tx td 6 (by first | decide | omega))
    rw [hz_14] at hM_15
    refine kVi (As := [.int (nI 6)]) (rest := []) X hW hM_15 yw_X5_allOf lk_X5_86 ⟨Nat.le_of_ble_eq_true rfl, Nat.le_of_ble_eq_true rfl⟩ (wr := []) (List.Perm.refl _) (w' := refW k a z f kp hi sl sv tx td) (List.Perm.refl _) (k_rcv X hW (ci := 5) (q0 := 0) rfl rfl) rfl hl.1 rfl (Nat.le_of_ble_eq_true rfl) ⟨Nat.zero_le _, Nat.zero_le _⟩ dX5_count_96 (fun H locs hW => ?_)
    exact hQ _ _ _ _ _ _ hW dX5_count_99 (by subst hz_14; rw [m_X5_count_r, if_neg c_5, if_neg c_6, if_neg c_7, if_neg c_10, if_pos c_13]) rfl
  by_cases c_16 : w = nI 5
  · refine lv_tableIn (off := 99) (tgt := 100) hx hb dX5_count_1 (by rw [c_16]; decide +kernel) (by rw [c_16]; decide +kernel) (by rw [c_16]; decide +kernel) (by decide) ?_
    refine lv_aload_n hx hb dX5_count_100 rfl (lv_at hl 0 rfl) ?_
    refine lv_iconst (v := nI 4) hx hb dX5_count_101 (by decide +kernel) ?_
    obtain ⟨z_17, hz_17⟩ : ∃ zq, m_X5_allOf_r f 4 = zq := ⟨_, rfl⟩
    have hM_18 := (c_X5_allOf l D k a z f kp hi sl sv tx td 4 (by first | decide | omega))
    rw [hz_17] at hM_18
    refine kVi (As := [.int (nI 4)]) (rest := []) X hW hM_18 yw_X5_allOf lk_X5_86 ⟨Nat.le_of_ble_eq_true rfl, Nat.le_of_ble_eq_true rfl⟩ (wr := []) (List.Perm.refl _) (w' := refW k a z f kp hi sl sv tx td) (List.Perm.refl _) (k_rcv X hW (ci := 5) (q0 := 0) rfl rfl) rfl hl.1 rfl (Nat.le_of_ble_eq_true rfl) ⟨Nat.zero_le _, Nat.zero_le _⟩ dX5_count_102 (fun H locs hW => ?_)
    exact hQ _ _ _ _ _ _ hW dX5_count_105 (by subst hz_17; rw [m_X5_count_r, if_neg c_5, if_neg c_6, if_neg c_7, if_neg c_10, if_neg c_13, if_pos c_16]) rfl
  by_cases c_19 : w = nI 6
  · refine lv_tableIn (off := 105) (tgt := 106) hx hb dX5_count_1 (by rw [c_19]; decide +kernel) (by rw [c_19]; decide +kernel) (by rw [c_19]; decide +kernel) (by decide) ?_
    refine lv_aload_n hx hb dX5_count_106 rfl (lv_at hl 0 rfl) ?_
    refine lv_iconst (v := nI 0) hx hb dX5_count_107 (by decide +kernel) ?_
    refine lv_iconst (v := nI 3) hx hb dX5_count_108 (by decide +kernel) ?_
    obtain ⟨z_20, hz_20⟩ : ∃ zq, m_X5_get_r f 0 3 = zq := ⟨_, rfl⟩
    have hM_21 := (c_X5_get l D k a z f kp hi sl sv tx td 0 3 (by first | decide | omega) (by first | decide | omega))
    rw [hz_20] at hM_21
    refine kVi (As := [.int (nI 0), .int (nI 3)]) (rest := []) X hW hM_21 yw_X5_get lk_X5_53 ⟨Nat.le_of_ble_eq_true rfl, Nat.le_of_ble_eq_true rfl⟩ (wr := []) (List.Perm.refl _) (w' := refW k a z f kp hi sl sv tx td) (List.Perm.refl _) (k_rcv X hW (ci := 5) (q0 := 0) rfl rfl) rfl hl.1 rfl (Nat.le_of_ble_eq_true rfl) ⟨Nat.zero_le _, Nat.zero_le _⟩ dX5_count_109 (fun H locs hW => ?_)
    refine lv_iconst (v := nI 2) hx hb dX5_count_112 (by decide +kernel) ?_
    refine lv_aload_n hx hb dX5_count_113 rfl (lv_at hl 0 rfl) ?_
    refine lv_iconst (v := nI 1) hx hb dX5_count_114 (by decide +kernel) ?_
    refine lv_iconst (v := nI 3) hx hb dX5_count_115 (by decide +kernel) ?_
    obtain ⟨z_22, hz_22⟩ : ∃ zq, m_X5_get_r f 1 3 = zq := ⟨_, rfl⟩
    have hM_23 := (c_X5_get l D k a z f kp hi sl sv tx td 1 3 (by first | decide | omega) (by first | decide | omega))
    rw [hz_22] at hM_23
    refine kVi (As := [.int (nI 1), .int (nI 3)]) (rest := [.int (nI 2), .int z_20]) X hW hM_23 yw_X5_get lk_X5_53 ⟨Nat.le_of_ble_eq_true rfl, Nat.le_of_ble_eq_true rfl⟩ (wr := []) (List.Perm.refl _) (w' := refW k a z f kp hi sl sv tx td) (List.Perm.refl _) (k_rcv X hW (ci := 5) (q0 := 0) rfl rfl) rfl hl.1 rfl (Nat.le_of_ble_eq_true rfl) ⟨Nat.zero_le _, Nat.zero_le _⟩ dX5_count_116 (fun H locs hW => ?_)
    refine lv_imul hx hb dX5_count_119 ?_
    refine lv_iadd hx hb dX5_count_120 ?_
    refine lv_iconst (v := nI 4) hx hb dX5_count_121 (by decide +kernel) ?_
    refine lv_aload_n hx hb dX5_count_122 rfl (lv_at hl 0 rfl) ?_
    refine lv_iconst (v := nI 2) hx hb dX5_count_123 (by decide +kernel) ?_
    refine lv_iconst (v := nI 3) hx hb dX5_count_124 (by decide +kernel) ?_
    obtain ⟨z_24, hz_24⟩ : ∃ zq, m_X5_get_r f 2 3 = zq := ⟨_, rfl⟩
    have hM_25 := (c_X5_get l D k a z f kp hi sl sv tx td 2 3 (by first | decide | omega) (by first | decide | omega))
    rw [hz_24] at hM_25
    refine kVi (As := [.int (nI 2), .int (nI 3)]) (rest := [.int (nI 4), .int (z_20 + ((nI 2) * z_22))]) X hW hM_25 yw_X5_get lk_X5_53 ⟨Nat.le_of_ble_eq_true rfl, Nat.le_of_ble_eq_true rfl⟩ (wr := []) (List.Perm.refl _) (w' := refW k a z f kp hi sl sv tx td) (List.Perm.refl _) (k_rcv X hW (ci := 5) (q0 := 0) rfl rfl) rfl hl.1 rfl (Nat.le_of_ble_eq_true rfl) ⟨Nat.zero_le _, Nat.zero_le _⟩ dX5_count_125 (fun H locs hW => ?_)
    refine lv_imul hx hb dX5_count_128 ?_
    refine lv_iadd hx hb dX5_count_129 ?_
    exact hQ _ _ _ _ _ _ hW dX5_count_130 (by subst hz_24; subst hz_22; subst hz_20; rw [m_X5_count_r, if_neg c_5, if_neg c_6, if_neg c_7, if_neg c_10, if_neg c_13, if_neg c_16, if_pos c_19]) rfl
  by_cases c_26 : w = nI 7
  · refine lv_tableIn (off := 130) (tgt := 131) hx hb dX5_count_1 (by rw [c_26]; decide +kernel) (by rw [c_26]; decide +kernel) (by rw [c_26]; decide +kernel) (by decide) ?_
    refine lv_aload_n hx hb dX5_count_131 rfl (lv_at hl 0 rfl) ?_
    refine k_get X hW inG5 rfl 0 (by decide) fl_X5_7 rfl 0 rfl (v := .ref (a 1)) rfl dX5_count_132 ?_
    refine lv_iload_n hx hb dX5_count_135 rfl (lv_at hl 1 rfl) ?_
    refine k_top (y := nI 7) (c_26) ?_
    refine lv_bipush (v := nI 7) hx hb dX5_count_136 (by decide +kernel) ?_
    refine lv_isub hx hb dX5_count_138 ?_
    refine k_top (y := nI 0) (by decide +kernel) ?_
    refine k_iald X hW 1 rfl (j := 0) (v := f 0) rfl (by decide) (by decide) rfl dX5_count_139 ?_
    exact hQ _ _ _ _ _ _ hW dX5_count_140 (by rw [m_X5_count_r, if_neg c_5, if_neg c_6, if_neg c_7, if_neg c_10, if_neg c_13, if_neg c_16, if_neg c_19, if_pos c_26]) rfl
  by_cases c_27 : w = nI 8
  · refine lv_tableIn (off := 130) (tgt := 131) hx hb dX5_count_1 (by rw [c_27]; decide +kernel) (by rw [c_27]; decide +kernel) (by rw [c_27]; decide +kernel) (by decide) ?_
    refine lv_aload_n hx hb dX5_count_131 rfl (lv_at hl 0 rfl) ?_
    refine k_get X hW inG5 rfl 0 (by decide) fl_X5_7 rfl 0 rfl (v := .ref (a 1)) rfl dX5_count_132 ?_
    refine lv_iload_n hx hb dX5_count_135 rfl (lv_at hl 1 rfl) ?_
    refine k_top (y := nI 8) (c_27) ?_
    refine lv_bipush (v := nI 7) hx hb dX5_count_136 (by decide +kernel) ?_
    refine lv_isub hx hb dX5_count_138 ?_
    refine k_top (y := nI 1) (by decide +kernel) ?_
    refine k_iald X hW 1 rfl (j := 1) (v := f 1) rfl (by decide) (by decide) rfl dX5_count_139 ?_
    refine k_top (y := nI (tn (f 1))) (hf.2.2.1.1) ?_
    exact hQ _ _ _ _ _ _ hW dX5_count_140 (by rw [m_X5_count_r, if_neg c_5, if_neg c_6, if_neg c_7, if_neg c_10, if_neg c_13, if_neg c_16, if_neg c_19, if_neg c_26, if_pos c_27]) rfl
  by_cases c_28 : w = nI 9
  · refine lv_tableIn (off := 130) (tgt := 131) hx hb dX5_count_1 (by rw [c_28]; decide +kernel) (by rw [c_28]; decide +kernel) (by rw [c_28]; decide +kernel) (by decide) ?_
    refine lv_aload_n hx hb dX5_count_131 rfl (lv_at hl 0 rfl) ?_
    refine k_get X hW inG5 rfl 0 (by decide) fl_X5_7 rfl 0 rfl (v := .ref (a 1)) rfl dX5_count_132 ?_
    refine lv_iload_n hx hb dX5_count_135 rfl (lv_at hl 1 rfl) ?_
    refine k_top (y := nI 9) (c_28) ?_
    refine lv_bipush (v := nI 7) hx hb dX5_count_136 (by decide +kernel) ?_
    refine lv_isub hx hb dX5_count_138 ?_
    refine k_top (y := nI 2) (by decide +kernel) ?_
    refine k_iald X hW 1 rfl (j := 2) (v := f 2) rfl (by decide) (by decide) rfl dX5_count_139 ?_
    exact hQ _ _ _ _ _ _ hW dX5_count_140 (by rw [m_X5_count_r, if_neg c_5, if_neg c_6, if_neg c_7, if_neg c_10, if_neg c_13, if_neg c_16, if_neg c_19, if_neg c_26, if_neg c_27, if_pos c_28]) rfl
  by_cases c_29 : w = nI 10
  · refine lv_tableIn (off := 130) (tgt := 131) hx hb dX5_count_1 (by rw [c_29]; decide +kernel) (by rw [c_29]; decide +kernel) (by rw [c_29]; decide +kernel) (by decide) ?_
    refine lv_aload_n hx hb dX5_count_131 rfl (lv_at hl 0 rfl) ?_
    refine k_get X hW inG5 rfl 0 (by decide) fl_X5_7 rfl 0 rfl (v := .ref (a 1)) rfl dX5_count_132 ?_
    refine lv_iload_n hx hb dX5_count_135 rfl (lv_at hl 1 rfl) ?_
    refine k_top (y := nI 10) (c_29) ?_
    refine lv_bipush (v := nI 7) hx hb dX5_count_136 (by decide +kernel) ?_
    refine lv_isub hx hb dX5_count_138 ?_
    refine k_top (y := nI 3) (by decide +kernel) ?_
    refine k_iald X hW 1 rfl (j := 3) (v := f 3) rfl (by decide) (by decide) rfl dX5_count_139 ?_
    exact hQ _ _ _ _ _ _ hW dX5_count_140 (by rw [m_X5_count_r, if_neg c_5, if_neg c_6, if_neg c_7, if_neg c_10, if_neg c_13, if_neg c_16, if_neg c_19, if_neg c_26, if_neg c_27, if_neg c_28, if_pos c_29]) rfl
  by_cases c_30 : w = nI 11
  · refine lv_tableIn (off := 140) (tgt := 141) hx hb dX5_count_1 (by rw [c_30]; decide +kernel) (by rw [c_30]; decide +kernel) (by rw [c_30]; decide +kernel) (by decide) ?_
    refine lv_aload_n hx hb dX5_count_141 rfl (lv_at hl 0 rfl) ?_
    refine k_get X hW inG5 rfl 7 (by decide) fl_X5_136 rfl 0 rfl (v := .int (z 7)) rfl dX5_count_142 ?_
    exact hQ _ _ _ _ _ _ hW dX5_count_145 (by rw [m_X5_count_r, if_neg c_5, if_neg c_6, if_neg c_7, if_neg c_10, if_neg c_13, if_neg c_16, if_neg c_19, if_neg c_26, if_neg c_27, if_neg c_28, if_neg c_29, if_pos c_30]) rfl
  by_cases c_31 : w = nI 12
  · refine lv_tableIn (off := 145) (tgt := 146) hx hb dX5_count_1 (by rw [c_31]; decide +kernel) (by rw [c_31]; decide +kernel) (by rw [c_31]; decide +kernel) (by decide) ?_
    refine lv_aload_n hx hb dX5_count_146 rfl (lv_at hl 0 rfl) ?_
    refine k_get X hW inG5 rfl 3 (by decide) fl_X5_35 rfl 0 rfl (v := .int (z 3)) rfl dX5_count_147 ?_
    exact hQ _ _ _ _ _ _ hW dX5_count_150 (by rw [m_X5_count_r, if_neg c_5, if_neg c_6, if_neg c_7, if_neg c_10, if_neg c_13, if_neg c_16, if_neg c_19, if_neg c_26, if_neg c_27, if_neg c_28, if_neg c_29, if_neg c_30, if_pos c_31]) rfl
  refine lv_tableOut (tgt := 151) hx hb dX5_count_1 (k_sw12 c_5 c_6 c_7 c_10 c_13 c_16 c_19 c_26 c_27 c_28 c_29 c_30 c_31) (by decide) ?_
  refine lv_bipush (v := (-2)) hx hb dX5_count_151 (by decide +kernel) ?_
  exact hQ _ _ _ _ _ _ hW dX5_count_153 (by rw [m_X5_count_r, if_neg c_5, if_neg c_6, if_neg c_7, if_neg c_10, if_neg c_13, if_neg c_16, if_neg c_19, if_neg c_26, if_neg c_27, if_neg c_28, if_neg c_29, if_neg c_30, if_neg c_31]) rfl
def lp_cp (f : Nat → Int32) : Nat → Nat → (Nat → Int32) → (Nat → Int32)
  | 0, _, y => y
  | r + 1, i, y => lp_cp f r (i + 1) (upd y i (f i))
def m_X5_keeps_kp (f : Nat → Int32) (kp : Nat → Int32) : Nat → Int32 := lp_cp f 1640 0 kp
set_option maxHeartbeats 4000000 in
set_option maxRecDepth 100000 in
theorem c_X5_keeps (l : Launch) (D : va_G) (k : Nat → ClassId) (a : Nat → Nat) (z : Nat → Int32) (f : Nat → Int32) (kp : Nat → Int32) (hi : Nat → Int32) (sl : Nat → Int32) (sv : Nat → Int32) (tx : Nat → Int32) (td : Nat → Int32)   : mV l yX5_keeps (wsY yX5_keeps cX5_keeps 2 none) 0 D k [.ref (a 0)] (refW k a z f kp hi sl sv tx td) (refW k a z f (m_X5_keeps_kp f kp) hi sl sv tx td) := by
  refine mV_intro rfl (Nat.le_of_ble_eq_true rfl) ?_
  intro p e s m args below meth c A Q ls X hW hl hQ
  have hx := X.hx
  have hb := X.hb
  have hl : lv_has ls 2 [(0, .ref (a 0))] := hl
  refine lv_iconst (v := nI 0) hx hb dX5_keeps_0 (by decide +kernel) ?_
  refine lv_istore_n (lv' := [(1, .int (nI 0)), (0, .ref (a 0))]) hx hb dX5_keeps_1 rfl hl (by decide) rfl (fun ls hl => ?_)
  have lp2 : ∀ (r i : Nat) (y' : Nat → Int32) (H : Heap) (locs : List Loc) (ls : Array Slot), i + r = 1640 → lp_cp f 1640 0 kp = lp_cp f r i y' → KW D A s (refW k a z f y' hi sl sv tx td) H locs → lv_has ls 2 [(1, .int (nI i)), (0, .ref (a 0))] → W p l e (rmD 0) s m args below meth c H locs 0 0 Q (F0 m 2 ls []) := by
    intro r
    induction r with
    | zero =>
      intro i y' H locs ls hir hy hW hl
      replace hy : lp_cp f 1640 0 kp = y' := hy
      refine lv_iload_n hx hb dX5_keeps_2 rfl (lv_at hl 0 rfl) ?_
      refine lv_sipush (v := nI 1640) hx hb dX5_keeps_3 (by decide +kernel) ?_
      refine lv_icmp_ge (tgt := 27) hx hb dX5_keeps_6 (by decide) (fun c_1 => ?_) (fun c_1 => ?_)
      · have c_1 : 1640 ≤ i := (nI_leI (a := 1640) (b := i) (by omega) (by omega)).mp c_1
        exact hQ _ _ _ _ _ hW dX5_keeps_27 (by rw [← hy]; rfl)
      · have c_1 : ¬ (1640 ≤ i) := fun h => c_1 ((nI_leI (a := 1640) (b := i) (by omega) (by omega)).mpr h)
        omega
    | succ r ih2 =>
      intro i y' H locs ls hir hy hW hl
      refine lv_iload_n hx hb dX5_keeps_2 rfl (lv_at hl 0 rfl) ?_
      refine lv_sipush (v := nI 1640) hx hb dX5_keeps_3 (by decide +kernel) ?_
      refine lv_icmp_ge (tgt := 27) hx hb dX5_keeps_6 (by decide) (fun c_2 => ?_) (fun c_2 => ?_)
      · have c_2 : 1640 ≤ i := (nI_leI (a := 1640) (b := i) (by omega) (by omega)).mp c_2
        omega
      · have c_2 : ¬ (1640 ≤ i) := fun h => c_2 ((nI_leI (a := 1640) (b := i) (by omega) (by omega)).mpr h)
        refine lv_aload_n hx hb dX5_keeps_9 rfl (lv_at hl 1 rfl) ?_
        refine k_get X hW inG5 rfl 1 (by decide) fl_X5_13 rfl 0 rfl (v := .ref (a 2)) rfl dX5_keeps_10 ?_
        refine lv_iload_n hx hb dX5_keeps_13 rfl (lv_at hl 0 rfl) ?_
        refine lv_aload_n hx hb dX5_keeps_14 rfl (lv_at hl 1 rfl) ?_
        refine k_get X hW inG5 rfl 0 (by decide) fl_X5_7 rfl 0 rfl (v := .ref (a 1)) rfl dX5_keeps_15 ?_
        refine lv_iload_n hx hb dX5_keeps_18 rfl (lv_at hl 0 rfl) ?_
        refine k_iald X hW 1 rfl (j := i) (v := f i) rfl (by omega) (by decide) rfl dX5_keeps_19 ?_
        refine k_iast X hW 2 rfl (j := i) rfl (by omega) (by decide) dX5_keeps_20 (w' := refW k a z f (upd y' i (f i)) hi sl sv tx td) rfl (fun H locs hW => ?_)
        refine lv_iinc (v := nI (i + 1)) (lv' := [(1, .int (nI (i + 1))), (0, .ref (a 0))]) hx hb dX5_keeps_21 hl (k := 0) rfl (k_inc _) (by decide) rfl (fun ls hl => ?_)
        refine lv_goto (tgt := 2) hx hb dX5_keeps_24 (by decide) ?_
        exact ih2 (i + 1) _ _ _ _ (by omega) (by rw [hy, lp_cp]) hW (lv_sub hl [0, 1] rfl)
  exact lp2 1640 0 _ _ _ _ (by omega) rfl hW (lv_sub hl [0, 1] rfl)
def m_X5_comesBack_f (f : Nat → Int32) (kp : Nat → Int32) : Nat → Int32 := lp_cp kp 1640 0 f
set_option maxHeartbeats 4000000 in
set_option maxRecDepth 100000 in
theorem c_X5_comesBack (l : Launch) (D : va_G) (k : Nat → ClassId) (a : Nat → Nat) (z : Nat → Int32) (f : Nat → Int32) (kp : Nat → Int32) (hi : Nat → Int32) (sl : Nat → Int32) (sv : Nat → Int32) (tx : Nat → Int32) (td : Nat → Int32)   : mV l yX5_comesBack (wsY yX5_comesBack cX5_comesBack 2 none) 0 D k [.ref (a 0)] (refW k a z f kp hi sl sv tx td) (refW k a z (m_X5_comesBack_f f kp) kp hi sl sv tx td) := by
  refine mV_intro rfl (Nat.le_of_ble_eq_true rfl) ?_
  intro p e s m args below meth c A Q ls X hW hl hQ
  have hx := X.hx
  have hb := X.hb
  have hl : lv_has ls 2 [(0, .ref (a 0))] := hl
  refine lv_iconst (v := nI 0) hx hb dX5_comesBack_0 (by decide +kernel) ?_
  refine lv_istore_n (lv' := [(1, .int (nI 0)), (0, .ref (a 0))]) hx hb dX5_comesBack_1 rfl hl (by decide) rfl (fun ls hl => ?_)
  have lp2 : ∀ (r i : Nat) (y' : Nat → Int32) (H : Heap) (locs : List Loc) (ls : Array Slot), i + r = 1640 → lp_cp kp 1640 0 f = lp_cp kp r i y' → KW D A s (refW k a z y' kp hi sl sv tx td) H locs → lv_has ls 2 [(1, .int (nI i)), (0, .ref (a 0))] → W p l e (rmD 0) s m args below meth c H locs 0 0 Q (F0 m 2 ls []) := by
    intro r
    induction r with
    | zero =>
      intro i y' H locs ls hir hy hW hl
      replace hy : lp_cp kp 1640 0 f = y' := hy
      refine lv_iload_n hx hb dX5_comesBack_2 rfl (lv_at hl 0 rfl) ?_
      refine lv_sipush (v := nI 1640) hx hb dX5_comesBack_3 (by decide +kernel) ?_
      refine lv_icmp_ge (tgt := 27) hx hb dX5_comesBack_6 (by decide) (fun c_1 => ?_) (fun c_1 => ?_)
      · have c_1 : 1640 ≤ i := (nI_leI (a := 1640) (b := i) (by omega) (by omega)).mp c_1
        exact hQ _ _ _ _ _ hW dX5_comesBack_27 (by rw [← hy]; rfl)
      · have c_1 : ¬ (1640 ≤ i) := fun h => c_1 ((nI_leI (a := 1640) (b := i) (by omega) (by omega)).mpr h)
        omega
    | succ r ih2 =>
      intro i y' H locs ls hir hy hW hl
      refine lv_iload_n hx hb dX5_comesBack_2 rfl (lv_at hl 0 rfl) ?_
      refine lv_sipush (v := nI 1640) hx hb dX5_comesBack_3 (by decide +kernel) ?_
      refine lv_icmp_ge (tgt := 27) hx hb dX5_comesBack_6 (by decide) (fun c_2 => ?_) (fun c_2 => ?_)
      · have c_2 : 1640 ≤ i := (nI_leI (a := 1640) (b := i) (by omega) (by omega)).mp c_2
        omega
      · have c_2 : ¬ (1640 ≤ i) := fun h => c_2 ((nI_leI (a := 1640) (b := i) (by omega) (by omega)).mpr h)
        refine lv_aload_n hx hb dX5_comesBack_9 rfl (lv_at hl 1 rfl) ?_
        refine k_get X hW inG5 rfl 0 (by decide) fl_X5_7 rfl 0 rfl (v := .ref (a 1)) rfl dX5_comesBack_10 ?_
        refine lv_iload_n hx hb dX5_comesBack_13 rfl (lv_at hl 0 rfl) ?_
        refine lv_aload_n hx hb dX5_comesBack_14 rfl (lv_at hl 1 rfl) ?_
        refine k_get X hW inG5 rfl 1 (by decide) fl_X5_13 rfl 0 rfl (v := .ref (a 2)) rfl dX5_comesBack_15 ?_
        refine lv_iload_n hx hb dX5_comesBack_18 rfl (lv_at hl 0 rfl) ?_
        refine k_iald X hW 2 rfl (j := i) (v := kp i) rfl (by omega) (by decide) rfl dX5_comesBack_19 ?_
        refine k_iast X hW 1 rfl (j := i) rfl (by omega) (by decide) dX5_comesBack_20 (w' := refW k a z (upd y' i (kp i)) kp hi sl sv tx td) rfl (fun H locs hW => ?_)
        refine lv_iinc (v := nI (i + 1)) (lv' := [(1, .int (nI (i + 1))), (0, .ref (a 0))]) hx hb dX5_comesBack_21 hl (k := 0) rfl (k_inc _) (by decide) rfl (fun ls hl => ?_)
        refine lv_goto (tgt := 2) hx hb dX5_comesBack_24 (by decide) ?_
        exact ih2 (i + 1) _ _ _ _ (by omega) (by rw [hy, lp_cp]) hW (lv_sub hl [0, 1] rfl)
  exact lp2 1640 0 _ _ _ _ (by omega) rfl hW (lv_sub hl [0, 1] rfl)
theorem lp_cp_at (f : Nat → Int32) : ∀ (r i : Nat) (y : Nat → Int32) (j : Nat), lp_cp f r i y j = if i ≤ j ∧ j < i + r then f j else y j := by
  intro r
  induction r with
  | zero => intro i y j; rw [lp_cp, if_neg (by omega)]
  | succ r ih =>
    intro i y j
    rw [lp_cp, ih (i + 1)]
    by_cases h1 : i + 1 ≤ j ∧ j < i + 1 + r
    · rw [if_pos h1, if_pos (by omega)]
    · rw [if_neg h1]
      by_cases h2 : j = i
      · subst h2; rw [if_pos (by omega), pk_us]
      · rw [if_neg (by omega), pk_un h2]
theorem arrV_cg {cA : ClassId} {n : Nat} {f g : Nat → Int32} (h : ∀ j, j < n → g j = f j) : vp_cell cA (n, .inl g) = vp_cell cA (n, .inl f) := by
  rw [vp_cell_i, vp_cell_i]
  unfold arrV
  congr 1
  apply Array.ext
  · simp
  · intro i h1 h2
    simp at h1 h2 ⊢
    exact h i h1
/-- a cell of a row may be told by any function that agrees with it within the row -/
theorem wP_row {D : va_G} {cl : List vw_C} {H : Heap} {a : Nat} {cA : ClassId} {n : Nat} {f g : Nat → Int32} {w1 w2 : va_W} (h : ∀ j, j < n → g j = f j) (hP : va_P D cl (w1 ++ (a, .inl (cA, n, .inl g)) :: w2) H) : va_P D cl (w1 ++ (a, .inl (cA, n, .inl f)) :: w2) H := by
  rw [wP_iff] at hP ⊢
  intro q hq
  rcases List.mem_append.mp hq with hq | hq
  · exact hP q (List.mem_append_left _ hq)
  · rcases List.mem_cons.mp hq with rfl | hq
    · have := hP (a, .inl (cA, n, .inl g)) (by simp)
      show H[a]? = some (vp_cell cA (n, .inl f))
      rw [← arrV_cg h]
      exact this
    · exact hP q (List.mem_append_right _ (List.mem_cons_of_mem _ hq))
theorem wD_fst {A : Nat → Prop} {w w' : va_W} (e : w.map (·.1) = w'.map (·.1)) (h : va_D A w) : va_D A w' := by
  rw [wD_iff] at h ⊢
  refine ⟨e ▸ h.1, fun q hq => ?_⟩
  have : q.1 ∈ w.map (·.1) := by rw [e]; exact List.mem_map_of_mem hq
  obtain ⟨q2, h2, e2⟩ := List.mem_map.mp this
  rw [← e2]; exact h.2 q2 h2
theorem mV_w1 {l : Launch} {y : MethodName} {ws : List Cond} {d : Nat} {D : va_G} {k : Nat → ClassId} {av : List Value} {w0 w1 w2 : va_W} (h : mV l y ws d D k av w0 w1) (hP : ∀ H, va_P D vwCl w1 H → va_P D vwCl w2 H) (e : w1.map (·.1) = w2.map (·.1)) : mV l y ws d D k av w0 w2 := by
  intro sz
  refine MetFree.mono (h sz) (fun _ _ hp => hp) (fun _ _ _ _ _ _ => trivial) ?_
  rintro _ _ _ _ _ ⟨⟨⟨u, h1, h2, h3, h4, h5⟩, h6⟩, h7⟩
  exact ⟨⟨⟨u, h1, h2, hP _ h3, h4, wD_fst e h5⟩, h6⟩, h7⟩
theorem c_X5_keeps2 (l : Launch) (D : va_G) (k : Nat → ClassId) (a : Nat → Nat) (z f kp hi sl sv tx td : Nat → Int32) : mV l yX5_keeps (wsY yX5_keeps cX5_keeps 2 none) 0 D k [.ref (a 0)] (refW k a z f kp hi sl sv tx td) (refW k a z f f hi sl sv tx td) :=
  mV_w1 (c_X5_keeps l D k a z f kp hi sl sv tx td) (fun H h => wP_row (w1 := [_, _]) (fun j hj => by rw [m_X5_keeps_kp, lp_cp_at, if_pos ⟨Nat.zero_le _, by omega⟩]) h) (by simp only [List.map_cons, List.map_nil])
theorem c_X5_comesBack2 (l : Launch) (D : va_G) (k : Nat → ClassId) (a : Nat → Nat) (z f kp hi sl sv tx td : Nat → Int32) : mV l yX5_comesBack (wsY yX5_comesBack cX5_comesBack 2 none) 0 D k [.ref (a 0)] (refW k a z f kp hi sl sv tx td) (refW k a z kp kp hi sl sv tx td) :=
  mV_w1 (c_X5_comesBack l D k a z f kp hi sl sv tx td) (fun H h => wP_row (w1 := [_]) (fun j hj => by rw [m_X5_comesBack_f, lp_cp_at, if_pos ⟨Nat.zero_le _, by omega⟩]) h) (by simp only [List.map_cons, List.map_nil])
def m_X5_empties_f (f : Nat → Int32) : Nat → Int32 := upd (upd (upd (m_X5_lays_f (m_X5_lays_f (m_X5_lays_f (m_X5_lays_f (m_X5_lays_f (m_X5_lays_f (m_X5_lays_f (m_X5_lays_f (m_X5_lays_f (m_X5_lays_f (m_X5_lays_f (m_X5_lays_f (m_X5_lays_f (m_X5_lays_f (m_X5_lays_f (m_X5_lays_f (m_X5_lays_f (m_X5_lays_f (m_X5_lays_f (m_X5_lays_f (m_X5_lays_f (m_X5_lays_f (m_X5_lays_f (m_X5_lays_f (m_X5_lays_f (m_X5_lays_f (m_X5_lays_f f 0 3 (nI 0)) 0 4 (nI 0)) 0 5 (nI 0)) 0 6 (nI 0)) 0 7 (nI 0)) 0 8 (nI 0)) 0 9 (nI 0)) 0 2 (m_X5_get_r (m_X5_lays_f (m_X5_lays_f (m_X5_lays_f (m_X5_lays_f (m_X5_lays_f (m_X5_lays_f (m_X5_lays_f f 0 3 (nI 0)) 0 4 (nI 0)) 0 5 (nI 0)) 0 6 (nI 0)) 0 7 (nI 0)) 0 8 (nI 0)) 0 9 (nI 0)) 0 0)) 0 8 (-6)) 1 3 (nI 0)) 1 4 (nI 0)) 1 5 (nI 0)) 1 6 (nI 0)) 1 7 (nI 0)) 1 8 (nI 0)) 1 9 (nI 0)) 1 2 (m_X5_get_r (m_X5_lays_f (m_X5_lays_f (m_X5_lays_f (m_X5_lays_f (m_X5_lays_f (m_X5_lays_f (m_X5_lays_f (m_X5_lays_f (m_X5_lays_f (m_X5_lays_f (m_X5_lays_f (m_X5_lays_f (m_X5_lays_f (m_X5_lays_f (m_X5_lays_f (m_X5_lays_f f 0 3 (nI 0)) 0 4 (nI 0)) 0 5 (nI 0)) 0 6 (nI 0)) 0 7 (nI 0)) 0 8 (nI 0)) 0 9 (nI 0)) 0 2 (m_X5_get_r (m_X5_lays_f (m_X5_lays_f (m_X5_lays_f (m_X5_lays_f (m_X5_lays_f (m_X5_lays_f (m_X5_lays_f f 0 3 (nI 0)) 0 4 (nI 0)) 0 5 (nI 0)) 0 6 (nI 0)) 0 7 (nI 0)) 0 8 (nI 0)) 0 9 (nI 0)) 0 0)) 0 8 (-6)) 1 3 (nI 0)) 1 4 (nI 0)) 1 5 (nI 0)) 1 6 (nI 0)) 1 7 (nI 0)) 1 8 (nI 0)) 1 9 (nI 0)) 1 0)) 1 8 (-6)) 2 3 (nI 0)) 2 4 (nI 0)) 2 5 (nI 0)) 2 6 (nI 0)) 2 7 (nI 0)) 2 8 (nI 0)) 2 9 (nI 0)) 2 2 (m_X5_get_r (m_X5_lays_f (m_X5_lays_f (m_X5_lays_f (m_X5_lays_f (m_X5_lays_f (m_X5_lays_f (m_X5_lays_f (m_X5_lays_f (m_X5_lays_f (m_X5_lays_f (m_X5_lays_f (m_X5_lays_f (m_X5_lays_f (m_X5_lays_f (m_X5_lays_f (m_X5_lays_f (m_X5_lays_f (m_X5_lays_f (m_X5_lays_f (m_X5_lays_f (m_X5_lays_f (m_X5_lays_f (m_X5_lays_f (m_X5_lays_f (m_X5_lays_f f 0 3 (nI 0)) 0 4 (nI 0)) 0 5 (nI 0)) 0 6 (nI 0)) 0 7 (nI 0)) 0 8 (nI 0)) 0 9 (nI 0)) 0 2 (m_X5_get_r (m_X5_lays_f (m_X5_lays_f (m_X5_lays_f (m_X5_lays_f (m_X5_lays_f (m_X5_lays_f (m_X5_lays_f f 0 3 (nI 0)) 0 4 (nI 0)) 0 5 (nI 0)) 0 6 (nI 0)) 0 7 (nI 0)) 0 8 (nI 0)) 0 9 (nI 0)) 0 0)) 0 8 (-6)) 1 3 (nI 0)) 1 4 (nI 0)) 1 5 (nI 0)) 1 6 (nI 0)) 1 7 (nI 0)) 1 8 (nI 0)) 1 9 (nI 0)) 1 2 (m_X5_get_r (m_X5_lays_f (m_X5_lays_f (m_X5_lays_f (m_X5_lays_f (m_X5_lays_f (m_X5_lays_f (m_X5_lays_f (m_X5_lays_f (m_X5_lays_f (m_X5_lays_f (m_X5_lays_f (m_X5_lays_f (m_X5_lays_f (m_X5_lays_f (m_X5_lays_f (m_X5_lays_f f 0 3 (nI 0)) 0 4 (nI 0)) 0 5 (nI 0)) 0 6 (nI 0)) 0 7 (nI 0)) 0 8 (nI 0)) 0 9 (nI 0)) 0 2 (m_X5_get_r (m_X5_lays_f (m_X5_lays_f (m_X5_lays_f (m_X5_lays_f (m_X5_lays_f (m_X5_lays_f (m_X5_lays_f f 0 3 (nI 0)) 0 4 (nI 0)) 0 5 (nI 0)) 0 6 (nI 0)) 0 7 (nI 0)) 0 8 (nI 0)) 0 9 (nI 0)) 0 0)) 0 8 (-6)) 1 3 (nI 0)) 1 4 (nI 0)) 1 5 (nI 0)) 1 6 (nI 0)) 1 7 (nI 0)) 1 8 (nI 0)) 1 9 (nI 0)) 1 0)) 1 8 (-6)) 2 3 (nI 0)) 2 4 (nI 0)) 2 5 (nI 0)) 2 6 (nI 0)) 2 7 (nI 0)) 2 8 (nI 0)) 2 9 (nI 0)) 2 0)) 2 8 (-6)) 4 (nI 0)) 5 (nI 0)) 6 (nI 0)
set_option maxHeartbeats 4000000 in
set_option maxRecDepth 100000 in
theorem c_X5_empties (l : Launch) (D : va_G) (k : Nat → ClassId) (a : Nat → Nat) (z : Nat → Int32) (f : Nat → Int32) (kp : Nat → Int32) (hi : Nat → Int32) (sl : Nat → Int32) (sv : Nat → Int32) (tx : Nat → Int32) (td : Nat → Int32)   : mV l yX5_empties (wsY yX5_empties cX5_empties 3 none) 1 D k [.ref (a 0)] (refW k a z f kp hi sl sv tx td) (refW k a z (m_X5_empties_f f) kp hi sl sv tx td) := by
  refine mV_intro rfl (Nat.le_of_ble_eq_true rfl) ?_
  intro p e s m args below meth c A Q ls X hW hl hQ
  have hx := X.hx
  have hb := X.hb
  have hl : lv_has ls 3 [(0, .ref (a 0))] := hl
  refine lv_iconst (v := nI 0) hx hb dX5_empties_0 (by decide +kernel) ?_
  refine lv_istore_n (lv' := [(1, .int (nI 0)), (0, .ref (a 0))]) hx hb dX5_empties_1 rfl hl (by decide) rfl (fun ls hl => ?_)
  refine lv_iload_n hx hb dX5_empties_2 rfl (lv_at hl 0 rfl) ?_
  refine lv_iconst (v := nI 3) hx hb dX5_empties_3 (by decide +kernel) ?_
  refine lv_icmp_ge (tgt := 55) hx hb dX5_empties_4 (by decide) (fun c => absurd c (by decide +kernel)) (fun _ => ?_)
  refine lv_iconst (v := nI 3) hx hb dX5_empties_7 (by decide +kernel) ?_
  refine lv_istore_n (lv' := [(2, .int (nI 3)), (1, .int (nI 0)), (0, .ref (a 0))]) hx hb dX5_empties_8 rfl hl (by decide) rfl (fun ls hl => ?_)
  refine lv_iload_n hx hb dX5_empties_9 rfl (lv_at hl 0 rfl) ?_
  refine lv_bipush (v := nI 10) hx hb dX5_empties_10 (by decide +kernel) ?_
  refine lv_icmp_ge (tgt := 28) hx hb dX5_empties_12 (by decide) (fun c => absurd c (by decide +kernel)) (fun _ => ?_)
  refine lv_aload_n hx hb dX5_empties_15 rfl (lv_at hl 2 rfl) ?_
  refine lv_iload_n hx hb dX5_empties_16 rfl (lv_at hl 1 rfl) ?_
  refine lv_iload_n hx hb dX5_empties_17 rfl (lv_at hl 0 rfl) ?_
  refine lv_iconst (v := nI 0) hx hb dX5_empties_18 (by decide +kernel) ?_
  obtain ⟨z_3, hz_3⟩ : ∃ zq, m_X5_lays_f f 0 3 (nI 0) = zq := ⟨_, rfl⟩
  have hM_4 := (c_X5_lays l D k a z f kp hi sl sv tx td 0 3 (nI 0) (by first | decide | omega) (by first | decide | omega))
  rw [hz_3] at hM_4
  refine kVv (As := [.int (nI 0), .int (nI 3), .int (nI 0)]) (rest := []) X hW hM_4 yw_X5_lays lk_X5_31 ⟨Nat.le_of_ble_eq_true rfl, Nat.le_of_ble_eq_true rfl⟩ (wr := []) (List.Perm.refl _) (w' := refW k a z z_3 kp hi sl sv tx td) (List.Perm.refl _) (k_rcv X hW (ci := 5) (q0 := 0) rfl rfl) rfl hl.1 rfl (Nat.le_of_ble_eq_true rfl) ⟨Nat.zero_le _, Nat.zero_le _⟩ dX5_empties_19 (fun H locs hW => ?_)
  refine lv_iinc (v := nI 4) (lv' := [(2, .int (nI 4)), (1, .int (nI 0)), (0, .ref (a 0))]) hx hb dX5_empties_22 hl (k := 0) rfl (k_inc _) (by decide) rfl (fun ls hl => ?_)
  refine lv_goto (tgt := 9) hx hb dX5_empties_25 (by decide) ?_
  refine lv_iload_n hx hb dX5_empties_9 rfl (lv_at hl 0 rfl) ?_
  refine lv_bipush (v := nI 10) hx hb dX5_empties_10 (by decide +kernel) ?_
  refine lv_icmp_ge (tgt := 28) hx hb dX5_empties_12 (by decide) (fun c => absurd c (by decide +kernel)) (fun _ => ?_)
  refine lv_aload_n hx hb dX5_empties_15 rfl (lv_at hl 2 rfl) ?_
  refine lv_iload_n hx hb dX5_empties_16 rfl (lv_at hl 1 rfl) ?_
  refine lv_iload_n hx hb dX5_empties_17 rfl (lv_at hl 0 rfl) ?_
  refine lv_iconst (v := nI 0) hx hb dX5_empties_18 (by decide +kernel) ?_
  obtain ⟨z_6, hz_6⟩ : ∃ zq, m_X5_lays_f z_3 0 4 (nI 0) = zq := ⟨_, rfl⟩
  have hM_7 := (c_X5_lays l D k a z z_3 kp hi sl sv tx td 0 4 (nI 0) (by first | decide | omega) (by first | decide | omega))
  rw [hz_6] at hM_7
  refine kVv (As := [.int (nI 0), .int (nI 4), .int (nI 0)]) (rest := []) X hW hM_7 yw_X5_lays lk_X5_31 ⟨Nat.le_of_ble_eq_true rfl, Nat.le_of_ble_eq_true rfl⟩ (wr := []) (List.Perm.refl _) (w' := refW k a z z_6 kp hi sl sv tx td) (List.Perm.refl _) (k_rcv X hW (ci := 5) (q0 := 0) rfl rfl) rfl hl.1 rfl (Nat.le_of_ble_eq_true rfl) ⟨Nat.zero_le _, Nat.zero_le _⟩ dX5_empties_19 (fun H locs hW => ?_)
  refine lv_iinc (v := nI 5) (lv' := [(2, .int (nI 5)), (1, .int (nI 0)), (0, .ref (a 0))]) hx hb dX5_empties_22 hl (k := 0) rfl (k_inc _) (by decide) rfl (fun ls hl => ?_)
  refine lv_goto (tgt := 9) hx hb dX5_empties_25 (by decide) ?_
  refine lv_iload_n hx hb dX5_empties_9 rfl (lv_at hl 0 rfl) ?_
  refine lv_bipush (v := nI 10) hx hb dX5_empties_10 (by decide +kernel) ?_
  refine lv_icmp_ge (tgt := 28) hx hb dX5_empties_12 (by decide) (fun c => absurd c (by decide +kernel)) (fun _ => ?_)
  refine lv_aload_n hx hb dX5_empties_15 rfl (lv_at hl 2 rfl) ?_
  refine lv_iload_n hx hb dX5_empties_16 rfl (lv_at hl 1 rfl) ?_
  refine lv_iload_n hx hb dX5_empties_17 rfl (lv_at hl 0 rfl) ?_
  refine lv_iconst (v := nI 0) hx hb dX5_empties_18 (by decide +kernel) ?_
  obtain ⟨z_9, hz_9⟩ : ∃ zq, m_X5_lays_f z_6 0 5 (nI 0) = zq := ⟨_, rfl⟩
  have hM_10 := (c_X5_lays l D k a z z_6 kp hi sl sv tx td 0 5 (nI 0) (by first | decide | omega) (by first | decide | omega))
  rw [hz_9] at hM_10
  refine kVv (As := [.int (nI 0), .int (nI 5), .int (nI 0)]) (rest := []) X hW hM_10 yw_X5_lays lk_X5_31 ⟨Nat.le_of_ble_eq_true rfl, Nat.le_of_ble_eq_true rfl⟩ (wr := []) (List.Perm.refl _) (w' := refW k a z z_9 kp hi sl sv tx td) (List.Perm.refl _) (k_rcv X hW (ci := 5) (q0 := 0) rfl rfl) rfl hl.1 rfl (Nat.le_of_ble_eq_true rfl) ⟨Nat.zero_le _, Nat.zero_le _⟩ dX5_empties_19 (fun H locs hW => ?_)
  refine lv_iinc (v := nI 6) (lv' := [(2, .int (nI 6)), (1, .int (nI 0)), (0, .ref (a 0))]) hx hb dX5_empties_22 hl (k := 0) rfl (k_inc _) (by decide) rfl (fun ls hl => ?_)
  refine lv_goto (tgt := 9) hx hb dX5_empties_25 (by decide) ?_
  refine lv_iload_n hx hb dX5_empties_9 rfl (lv_at hl 0 rfl) ?_
  refine lv_bipush (v := nI 10) hx hb dX5_empties_10 (by decide +kernel) ?_
  refine lv_icmp_ge (tgt := 28) hx hb dX5_empties_12 (by decide) (fun c => absurd c (by decide +kernel)) (fun _ => ?_)
  refine lv_aload_n hx hb dX5_empties_15 rfl (lv_at hl 2 rfl) ?_
  refine lv_iload_n hx hb dX5_empties_16 rfl (lv_at hl 1 rfl) ?_
  refine lv_iload_n hx hb dX5_empties_17 rfl (lv_at hl 0 rfl) ?_
  refine lv_iconst (v := nI 0) hx hb dX5_empties_18 (by decide +kernel) ?_
  obtain ⟨z_12, hz_12⟩ : ∃ zq, m_X5_lays_f z_9 0 6 (nI 0) = zq := ⟨_, rfl⟩
  have hM_13 := (c_X5_lays l D k a z z_9 kp hi sl sv tx td 0 6 (nI 0) (by first | decide | omega) (by first | decide | omega))
  rw [hz_12] at hM_13
  refine kVv (As := [.int (nI 0), .int (nI 6), .int (nI 0)]) (rest := []) X hW hM_13 yw_X5_lays lk_X5_31 ⟨Nat.le_of_ble_eq_true rfl, Nat.le_of_ble_eq_true rfl⟩ (wr := []) (List.Perm.refl _) (w' := refW k a z z_12 kp hi sl sv tx td) (List.Perm.refl _) (k_rcv X hW (ci := 5) (q0 := 0) rfl rfl) rfl hl.1 rfl (Nat.le_of_ble_eq_true rfl) ⟨Nat.zero_le _, Nat.zero_le _⟩ dX5_empties_19 (fun H locs hW => ?_)
  refine lv_iinc (v := nI 7) (lv' := [(2, .int (nI 7)), (1, .int (nI 0)), (0, .ref (a 0))]) hx hb dX5_empties_22 hl (k := 0) rfl (k_inc _) (by decide) rfl (fun ls hl => ?_)
  refine lv_goto (tgt := 9) hx hb dX5_empties_25 (by decide) ?_
  refine lv_iload_n hx hb dX5_empties_9 rfl (lv_at hl 0 rfl) ?_
  refine lv_bipush (v := nI 10) hx hb dX5_empties_10 (by decide +kernel) ?_
  refine lv_icmp_ge (tgt := 28) hx hb dX5_empties_12 (by decide) (fun c => absurd c (by decide +kernel)) (fun _ => ?_)
  refine lv_aload_n hx hb dX5_empties_15 rfl (lv_at hl 2 rfl) ?_
  refine lv_iload_n hx hb dX5_empties_16 rfl (lv_at hl 1 rfl) ?_
  refine lv_iload_n hx hb dX5_empties_17 rfl (lv_at hl 0 rfl) ?_
  refine lv_iconst (v := nI 0) hx hb dX5_empties_18 (by decide +kernel) ?_
  obtain ⟨z_15, hz_15⟩ : ∃ zq, m_X5_lays_f z_12 0 7 (nI 0) = zq := ⟨_, rfl⟩
  have hM_16 := (c_X5_lays l D k a z z_12 kp hi sl sv tx td 0 7 (nI 0) (by first | decide | omega) (by first | decide | omega))
  rw [hz_15] at hM_16
  refine kVv (As := [.int (nI 0), .int (nI 7), .int (nI 0)]) (rest := []) X hW hM_16 yw_X5_lays lk_X5_31 ⟨Nat.le_of_ble_eq_true rfl, Nat.le_of_ble_eq_true rfl⟩ (wr := []) (List.Perm.refl _) (w' := refW k a z z_15 kp hi sl sv tx td) (List.Perm.refl _) (k_rcv X hW (ci := 5) (q0 := 0) rfl rfl) rfl hl.1 rfl (Nat.le_of_ble_eq_true rfl) ⟨Nat.zero_le _, Nat.zero_le _⟩ dX5_empties_19 (fun H locs hW => ?_)
  refine lv_iinc (v := nI 8) (lv' := [(2, .int (nI 8)), (1, .int (nI 0)), (0, .ref (a 0))]) hx hb dX5_empties_22 hl (k := 0) rfl (k_inc _) (by decide) rfl (fun ls hl => ?_)
  refine lv_goto (tgt := 9) hx hb dX5_empties_25 (by decide) ?_
  refine lv_iload_n hx hb dX5_empties_9 rfl (lv_at hl 0 rfl) ?_
  refine lv_bipush (v := nI 10) hx hb dX5_empties_10 (by decide +kernel) ?_
  refine lv_icmp_ge (tgt := 28) hx hb dX5_empties_12 (by decide) (fun c => absurd c (by decide +kernel)) (fun _ => ?_)
  refine lv_aload_n hx hb dX5_empties_15 rfl (lv_at hl 2 rfl) ?_
  refine lv_iload_n hx hb dX5_empties_16 rfl (lv_at hl 1 rfl) ?_
  refine lv_iload_n hx hb dX5_empties_17 rfl (lv_at hl 0 rfl) ?_
  refine lv_iconst (v := nI 0) hx hb dX5_empties_18 (by decide +kernel) ?_
  obtain ⟨z_18, hz_18⟩ : ∃ zq, m_X5_lays_f z_15 0 8 (nI 0) = zq := ⟨_, rfl⟩
  have hM_19 := (c_X5_lays l D k a z z_15 kp hi sl sv tx td 0 8 (nI 0) (by first | decide | omega) (by first | decide | omega))
  rw [hz_18] at hM_19
  refine kVv (As := [.int (nI 0), .int (nI 8), .int (nI 0)]) (rest := []) X hW hM_19 yw_X5_lays lk_X5_31 ⟨Nat.le_of_ble_eq_true rfl, Nat.le_of_ble_eq_true rfl⟩ (wr := []) (List.Perm.refl _) (w' := refW k a z z_18 kp hi sl sv tx td) (List.Perm.refl _) (k_rcv X hW (ci := 5) (q0 := 0) rfl rfl) rfl hl.1 rfl (Nat.le_of_ble_eq_true rfl) ⟨Nat.zero_le _, Nat.zero_le _⟩ dX5_empties_19 (fun H locs hW => ?_)
  refine lv_iinc (v := nI 9) (lv' := [(2, .int (nI 9)), (1, .int (nI 0)), (0, .ref (a 0))]) hx hb dX5_empties_22 hl (k := 0) rfl (k_inc _) (by decide) rfl (fun ls hl => ?_)
  refine lv_goto (tgt := 9) hx hb dX5_empties_25 (by decide) ?_
  refine lv_iload_n hx hb dX5_empties_9 rfl (lv_at hl 0 rfl) ?_
  refine lv_bipush (v := nI 10) hx hb dX5_empties_10 (by decide +kernel) ?_
  refine lv_icmp_ge (tgt := 28) hx hb dX5_empties_12 (by decide) (fun c => absurd c (by decide +kernel)) (fun _ => ?_)
  refine lv_aload_n hx hb dX5_empties_15 rfl (lv_at hl 2 rfl) ?_
  refine lv_iload_n hx hb dX5_empties_16 rfl (lv_at hl 1 rfl) ?_
  refine lv_iload_n hx hb dX5_empties_17 rfl (lv_at hl 0 rfl) ?_
  refine lv_iconst (v := nI 0) hx hb dX5_empties_18 (by decide +kernel) ?_
  obtain ⟨z_21, hz_21⟩ : ∃ zq, m_X5_lays_f z_18 0 9 (nI 0) = zq := ⟨_, rfl⟩
  have hM_22 := (c_X5_lays l D k a z z_18 kp hi sl sv tx td 0 9 (nI 0) (by first | decide | omega) (by first | decide | omega))
  rw [hz_21] at hM_22
  refine kVv (As := [.int (nI 0), .int (nI 9), .int (nI 0)]) (rest := []) X hW hM_22 yw_X5_lays lk_X5_31 ⟨Nat.le_of_ble_eq_true rfl, Nat.le_of_ble_eq_true rfl⟩ (wr := []) (List.Perm.refl _) (w' := refW k a z z_21 kp hi sl sv tx td) (List.Perm.refl _) (k_rcv X hW (ci := 5) (q0 := 0) rfl rfl) rfl hl.1 rfl (Nat.le_of_ble_eq_true rfl) ⟨Nat.zero_le _, Nat.zero_le _⟩ dX5_empties_19 (fun H locs hW => ?_)
  refine lv_iinc (v := nI 10) (lv' := [(2, .int (nI 10)), (1, .int (nI 0)), (0, .ref (a 0))]) hx hb dX5_empties_22 hl (k := 0) rfl (k_inc _) (by decide) rfl (fun ls hl => ?_)
  refine lv_goto (tgt := 9) hx hb dX5_empties_25 (by decide) ?_
  refine lv_iload_n hx hb dX5_empties_9 rfl (lv_at hl 0 rfl) ?_
  refine lv_bipush (v := nI 10) hx hb dX5_empties_10 (by decide +kernel) ?_
  refine lv_icmp_ge (tgt := 28) hx hb dX5_empties_12 (by decide) (fun _ => ?_) (fun c => absurd (by decide +kernel) c)
  refine lv_aload_n hx hb dX5_empties_28 rfl (lv_at hl 2 rfl) ?_
  refine lv_iload_n hx hb dX5_empties_29 rfl (lv_at hl 1 rfl) ?_
  refine lv_iconst (v := nI 2) hx hb dX5_empties_30 (by decide +kernel) ?_
  refine lv_aload_n hx hb dX5_empties_31 rfl (lv_at hl 2 rfl) ?_
  refine lv_iload_n hx hb dX5_empties_32 rfl (lv_at hl 1 rfl) ?_
  refine lv_iconst (v := nI 0) hx hb dX5_empties_33 (by decide +kernel) ?_
  obtain ⟨z_24, hz_24⟩ : ∃ zq, m_X5_get_r z_21 0 0 = zq := ⟨_, rfl⟩
  have hM_25 := (c_X5_get l D k a z z_21 kp hi sl sv tx td 0 0 (by first | decide | omega) (by first | decide | omega))
  rw [hz_24] at hM_25
  refine kVi (As := [.int (nI 0), .int (nI 0)]) (rest := [.int (nI 2), .int (nI 0), .ref (a 0)]) X hW hM_25 yw_X5_get lk_X5_53 ⟨Nat.le_of_ble_eq_true rfl, Nat.le_of_ble_eq_true rfl⟩ (wr := []) (List.Perm.refl _) (w' := refW k a z z_21 kp hi sl sv tx td) (List.Perm.refl _) (k_rcv X hW (ci := 5) (q0 := 0) rfl rfl) rfl hl.1 rfl (Nat.le_of_ble_eq_true rfl) ⟨Nat.zero_le _, Nat.zero_le _⟩ dX5_empties_34 (fun H locs hW => ?_)
  obtain ⟨z_26, hz_26⟩ : ∃ zq, m_X5_lays_f z_21 0 2 z_24 = zq := ⟨_, rfl⟩
  have hM_27 := (c_X5_lays l D k a z z_21 kp hi sl sv tx td 0 2 z_24 (by first | decide | omega) (by first | decide | omega))
  rw [hz_26] at hM_27
  refine kVv (As := [.int (nI 0), .int (nI 2), .int z_24]) (rest := []) X hW hM_27 yw_X5_lays lk_X5_31 ⟨Nat.le_of_ble_eq_true rfl, Nat.le_of_ble_eq_true rfl⟩ (wr := []) (List.Perm.refl _) (w' := refW k a z z_26 kp hi sl sv tx td) (List.Perm.refl _) (k_rcv X hW (ci := 5) (q0 := 0) rfl rfl) rfl hl.1 rfl (Nat.le_of_ble_eq_true rfl) ⟨Nat.zero_le _, Nat.zero_le _⟩ dX5_empties_37 (fun H locs hW => ?_)
  refine lv_aload_n hx hb dX5_empties_40 rfl (lv_at hl 2 rfl) ?_
  refine lv_iload_n hx hb dX5_empties_41 rfl (lv_at hl 1 rfl) ?_
  refine lv_bipush (v := nI 8) hx hb dX5_empties_42 (by decide +kernel) ?_
  refine lv_bipush (v := (-6)) hx hb dX5_empties_44 (by decide +kernel) ?_
  obtain ⟨z_28, hz_28⟩ : ∃ zq, m_X5_lays_f z_26 0 8 (-6) = zq := ⟨_, rfl⟩
  have hM_29 := (c_X5_lays l D k a z z_26 kp hi sl sv tx td 0 8 (-6) (by first | decide | omega) (by first | decide | omega))
  rw [hz_28] at hM_29
  refine kVv (As := [.int (nI 0), .int (nI 8), .int (-6)]) (rest := []) X hW hM_29 yw_X5_lays lk_X5_31 ⟨Nat.le_of_ble_eq_true rfl, Nat.le_of_ble_eq_true rfl⟩ (wr := []) (List.Perm.refl _) (w' := refW k a z z_28 kp hi sl sv tx td) (List.Perm.refl _) (k_rcv X hW (ci := 5) (q0 := 0) rfl rfl) rfl hl.1 rfl (Nat.le_of_ble_eq_true rfl) ⟨Nat.zero_le _, Nat.zero_le _⟩ dX5_empties_46 (fun H locs hW => ?_)
  refine lv_iinc (v := nI 1) (lv' := [(1, .int (nI 1)), (2, .int (nI 10)), (0, .ref (a 0))]) hx hb dX5_empties_49 hl (k := 1) rfl (k_inc _) (by decide) rfl (fun ls hl => ?_)
  refine lv_goto (tgt := 2) hx hb dX5_empties_52 (by decide) ?_
  refine lv_iload_n hx hb dX5_empties_2 rfl (lv_at hl 0 rfl) ?_
  refine lv_iconst (v := nI 3) hx hb dX5_empties_3 (by decide +kernel) ?_
  refine lv_icmp_ge (tgt := 55) hx hb dX5_empties_4 (by decide) (fun c => absurd c (by decide +kernel)) (fun _ => ?_)
  refine lv_iconst (v := nI 3) hx hb dX5_empties_7 (by decide +kernel) ?_
  refine lv_istore_n (lv' := [(2, .int (nI 3)), (1, .int (nI 1)), (0, .ref (a 0))]) hx hb dX5_empties_8 rfl hl (by decide) rfl (fun ls hl => ?_)
  refine lv_iload_n hx hb dX5_empties_9 rfl (lv_at hl 0 rfl) ?_
  refine lv_bipush (v := nI 10) hx hb dX5_empties_10 (by decide +kernel) ?_
  refine lv_icmp_ge (tgt := 28) hx hb dX5_empties_12 (by decide) (fun c => absurd c (by decide +kernel)) (fun _ => ?_)
  refine lv_aload_n hx hb dX5_empties_15 rfl (lv_at hl 2 rfl) ?_
  refine lv_iload_n hx hb dX5_empties_16 rfl (lv_at hl 1 rfl) ?_
  refine lv_iload_n hx hb dX5_empties_17 rfl (lv_at hl 0 rfl) ?_
  refine lv_iconst (v := nI 0) hx hb dX5_empties_18 (by decide +kernel) ?_
  obtain ⟨z_32, hz_32⟩ : ∃ zq, m_X5_lays_f z_28 1 3 (nI 0) = zq := ⟨_, rfl⟩
  have hM_33 := (c_X5_lays l D k a z z_28 kp hi sl sv tx td 1 3 (nI 0) (by first | decide | omega) (by first | decide | omega))
  rw [hz_32] at hM_33
  refine kVv (As := [.int (nI 1), .int (nI 3), .int (nI 0)]) (rest := []) X hW hM_33 yw_X5_lays lk_X5_31 ⟨Nat.le_of_ble_eq_true rfl, Nat.le_of_ble_eq_true rfl⟩ (wr := []) (List.Perm.refl _) (w' := refW k a z z_32 kp hi sl sv tx td) (List.Perm.refl _) (k_rcv X hW (ci := 5) (q0 := 0) rfl rfl) rfl hl.1 rfl (Nat.le_of_ble_eq_true rfl) ⟨Nat.zero_le _, Nat.zero_le _⟩ dX5_empties_19 (fun H locs hW => ?_)
  refine lv_iinc (v := nI 4) (lv' := [(2, .int (nI 4)), (1, .int (nI 1)), (0, .ref (a 0))]) hx hb dX5_empties_22 hl (k := 0) rfl (k_inc _) (by decide) rfl (fun ls hl => ?_)
  refine lv_goto (tgt := 9) hx hb dX5_empties_25 (by decide) ?_
  refine lv_iload_n hx hb dX5_empties_9 rfl (lv_at hl 0 rfl) ?_
  refine lv_bipush (v := nI 10) hx hb dX5_empties_10 (by decide +kernel) ?_
  refine lv_icmp_ge (tgt := 28) hx hb dX5_empties_12 (by decide) (fun c => absurd c (by decide +kernel)) (fun _ => ?_)
  refine lv_aload_n hx hb dX5_empties_15 rfl (lv_at hl 2 rfl) ?_
  refine lv_iload_n hx hb dX5_empties_16 rfl (lv_at hl 1 rfl) ?_
  refine lv_iload_n hx hb dX5_empties_17 rfl (lv_at hl 0 rfl) ?_
  refine lv_iconst (v := nI 0) hx hb dX5_empties_18 (by decide +kernel) ?_
  obtain ⟨z_35, hz_35⟩ : ∃ zq, m_X5_lays_f z_32 1 4 (nI 0) = zq := ⟨_, rfl⟩
  have hM_36 := (c_X5_lays l D k a z z_32 kp hi sl sv tx td 1 4 (nI 0) (by first | decide | omega) (by first | decide | omega))
  rw [hz_35] at hM_36
  refine kVv (As := [.int (nI 1), .int (nI 4), .int (nI 0)]) (rest := []) X hW hM_36 yw_X5_lays lk_X5_31 ⟨Nat.le_of_ble_eq_true rfl, Nat.le_of_ble_eq_true rfl⟩ (wr := []) (List.Perm.refl _) (w' := refW k a z z_35 kp hi sl sv tx td) (List.Perm.refl _) (k_rcv X hW (ci := 5) (q0 := 0) rfl rfl) rfl hl.1 rfl (Nat.le_of_ble_eq_true rfl) ⟨Nat.zero_le _, Nat.zero_le _⟩ dX5_empties_19 (fun H locs hW => ?_)
  refine lv_iinc (v := nI 5) (lv' := [(2, .int (nI 5)), (1, .int (nI 1)), (0, .ref (a 0))]) hx hb dX5_empties_22 hl (k := 0) rfl (k_inc _) (by decide) rfl (fun ls hl => ?_)
  refine lv_goto (tgt := 9) hx hb dX5_empties_25 (by decide) ?_
  refine lv_iload_n hx hb dX5_empties_9 rfl (lv_at hl 0 rfl) ?_
  refine lv_bipush (v := nI 10) hx hb dX5_empties_10 (by decide +kernel) ?_
  refine lv_icmp_ge (tgt := 28) hx hb dX5_empties_12 (by decide) (fun c => absurd c (by decide +kernel)) (fun _ => ?_)
  refine lv_aload_n hx hb dX5_empties_15 rfl (lv_at hl 2 rfl) ?_
  refine lv_iload_n hx hb dX5_empties_16 rfl (lv_at hl 1 rfl) ?_
  refine lv_iload_n hx hb dX5_empties_17 rfl (lv_at hl 0 rfl) ?_
  refine lv_iconst (v := nI 0) hx hb dX5_empties_18 (by decide +kernel) ?_
  obtain ⟨z_38, hz_38⟩ : ∃ zq, m_X5_lays_f z_35 1 5 (nI 0) = zq := ⟨_, rfl⟩
  have hM_39 := (c_X5_lays l D k a z z_35 kp hi sl sv tx td 1 5 (nI 0) (by first | decide | omega) (by first | decide | omega))
  rw [hz_38] at hM_39
  refine kVv (As := [.int (nI 1), .int (nI 5), .int (nI 0)]) (rest := []) X hW hM_39 yw_X5_lays lk_X5_31 ⟨Nat.le_of_ble_eq_true rfl, Nat.le_of_ble_eq_true rfl⟩ (wr := []) (List.Perm.refl _) (w' := refW k a z z_38 kp hi sl sv tx td) (List.Perm.refl _) (k_rcv X hW (ci := 5) (q0 := 0) rfl rfl) rfl hl.1 rfl (Nat.le_of_ble_eq_true rfl) ⟨Nat.zero_le _, Nat.zero_le _⟩ dX5_empties_19 (fun H locs hW => ?_)
  refine lv_iinc (v := nI 6) (lv' := [(2, .int (nI 6)), (1, .int (nI 1)), (0, .ref (a 0))]) hx hb dX5_empties_22 hl (k := 0) rfl (k_inc _) (by decide) rfl (fun ls hl => ?_)
  refine lv_goto (tgt := 9) hx hb dX5_empties_25 (by decide) ?_
  refine lv_iload_n hx hb dX5_empties_9 rfl (lv_at hl 0 rfl) ?_
  refine lv_bipush (v := nI 10) hx hb dX5_empties_10 (by decide +kernel) ?_
  refine lv_icmp_ge (tgt := 28) hx hb dX5_empties_12 (by decide) (fun c => absurd c (by decide +kernel)) (fun _ => ?_)
  refine lv_aload_n hx hb dX5_empties_15 rfl (lv_at hl 2 rfl) ?_
  refine lv_iload_n hx hb dX5_empties_16 rfl (lv_at hl 1 rfl) ?_
  refine lv_iload_n hx hb dX5_empties_17 rfl (lv_at hl 0 rfl) ?_
  refine lv_iconst (v := nI 0) hx hb dX5_empties_18 (by decide +kernel) ?_
  obtain ⟨z_41, hz_41⟩ : ∃ zq, m_X5_lays_f z_38 1 6 (nI 0) = zq := ⟨_, rfl⟩
  have hM_42 := (c_X5_lays l D k a z z_38 kp hi sl sv tx td 1 6 (nI 0) (by first | decide | omega) (by first | decide | omega))
  rw [hz_41] at hM_42
  refine kVv (As := [.int (nI 1), .int (nI 6), .int (nI 0)]) (rest := []) X hW hM_42 yw_X5_lays lk_X5_31 ⟨Nat.le_of_ble_eq_true rfl, Nat.le_of_ble_eq_true rfl⟩ (wr := []) (List.Perm.refl _) (w' := refW k a z z_41 kp hi sl sv tx td) (List.Perm.refl _) (k_rcv X hW (ci := 5) (q0 := 0) rfl rfl) rfl hl.1 rfl (Nat.le_of_ble_eq_true rfl) ⟨Nat.zero_le _, Nat.zero_le _⟩ dX5_empties_19 (fun H locs hW => ?_)
  refine lv_iinc (v := nI 7) (lv' := [(2, .int (nI 7)), (1, .int (nI 1)), (0, .ref (a 0))]) hx hb dX5_empties_22 hl (k := 0) rfl (k_inc _) (by decide) rfl (fun ls hl => ?_)
  refine lv_goto (tgt := 9) hx hb dX5_empties_25 (by decide) ?_
  refine lv_iload_n hx hb dX5_empties_9 rfl (lv_at hl 0 rfl) ?_
  refine lv_bipush (v := nI 10) hx hb dX5_empties_10 (by decide +kernel) ?_
  refine lv_icmp_ge (tgt := 28) hx hb dX5_empties_12 (by decide) (fun c => absurd c (by decide +kernel)) (fun _ => ?_)
  refine lv_aload_n hx hb dX5_empties_15 rfl (lv_at hl 2 rfl) ?_
  refine lv_iload_n hx hb dX5_empties_16 rfl (lv_at hl 1 rfl) ?_
  refine lv_iload_n hx hb dX5_empties_17 rfl (lv_at hl 0 rfl) ?_
  refine lv_iconst (v := nI 0) hx hb dX5_empties_18 (by decide +kernel) ?_
  obtain ⟨z_44, hz_44⟩ : ∃ zq, m_X5_lays_f z_41 1 7 (nI 0) = zq := ⟨_, rfl⟩
  have hM_45 := (c_X5_lays l D k a z z_41 kp hi sl sv tx td 1 7 (nI 0) (by first | decide | omega) (by first | decide | omega))
  rw [hz_44] at hM_45
  refine kVv (As := [.int (nI 1), .int (nI 7), .int (nI 0)]) (rest := []) X hW hM_45 yw_X5_lays lk_X5_31 ⟨Nat.le_of_ble_eq_true rfl, Nat.le_of_ble_eq_true rfl⟩ (wr := []) (List.Perm.refl _) (w' := refW k a z z_44 kp hi sl sv tx td) (List.Perm.refl _) (k_rcv X hW (ci := 5) (q0 := 0) rfl rfl) rfl hl.1 rfl (Nat.le_of_ble_eq_true rfl) ⟨Nat.zero_le _, Nat.zero_le _⟩ dX5_empties_19 (fun H locs hW => ?_)
  refine lv_iinc (v := nI 8) (lv' := [(2, .int (nI 8)), (1, .int (nI 1)), (0, .ref (a 0))]) hx hb dX5_empties_22 hl (k := 0) rfl (k_inc _) (by decide) rfl (fun ls hl => ?_)
  refine lv_goto (tgt := 9) hx hb dX5_empties_25 (by decide) ?_
  refine lv_iload_n hx hb dX5_empties_9 rfl (lv_at hl 0 rfl) ?_
  refine lv_bipush (v := nI 10) hx hb dX5_empties_10 (by decide +kernel) ?_
  refine lv_icmp_ge (tgt := 28) hx hb dX5_empties_12 (by decide) (fun c => absurd c (by decide +kernel)) (fun _ => ?_)
  refine lv_aload_n hx hb dX5_empties_15 rfl (lv_at hl 2 rfl) ?_
  refine lv_iload_n hx hb dX5_empties_16 rfl (lv_at hl 1 rfl) ?_
  refine lv_iload_n hx hb dX5_empties_17 rfl (lv_at hl 0 rfl) ?_
  refine lv_iconst (v := nI 0) hx hb dX5_empties_18 (by decide +kernel) ?_
  obtain ⟨z_47, hz_47⟩ : ∃ zq, m_X5_lays_f z_44 1 8 (nI 0) = zq := ⟨_, rfl⟩
  have hM_48 := (c_X5_lays l D k a z z_44 kp hi sl sv tx td 1 8 (nI 0) (by first | decide | omega) (by first | decide | omega))
  rw [hz_47] at hM_48
  refine kVv (As := [.int (nI 1), .int (nI 8), .int (nI 0)]) (rest := []) X hW hM_48 yw_X5_lays lk_X5_31 ⟨Nat.le_of_ble_eq_true rfl, Nat.le_of_ble_eq_true rfl⟩ (wr := []) (List.Perm.refl _) (w' := refW k a z z_47 kp hi sl sv tx td) (List.Perm.refl _) (k_rcv X hW (ci := 5) (q0 := 0) rfl rfl) rfl hl.1 rfl (Nat.le_of_ble_eq_true rfl) ⟨Nat.zero_le _, Nat.zero_le _⟩ dX5_empties_19 (fun H locs hW => ?_)
  refine lv_iinc (v := nI 9) (lv' := [(2, .int (nI 9)), (1, .int (nI 1)), (0, .ref (a 0))]) hx hb dX5_empties_22 hl (k := 0) rfl (k_inc _) (by decide) rfl (fun ls hl => ?_)
  refine lv_goto (tgt := 9) hx hb dX5_empties_25 (by decide) ?_
  refine lv_iload_n hx hb dX5_empties_9 rfl (lv_at hl 0 rfl) ?_
  refine lv_bipush (v := nI 10) hx hb dX5_empties_10 (by decide +kernel) ?_
  refine lv_icmp_ge (tgt := 28) hx hb dX5_empties_12 (by decide) (fun c => absurd c (by decide +kernel)) (fun _ => ?_)
  refine lv_aload_n hx hb dX5_empties_15 rfl (lv_at hl 2 rfl) ?_
  refine lv_iload_n hx hb dX5_empties_16 rfl (lv_at hl 1 rfl) ?_
  refine lv_iload_n hx hb dX5_empties_17 rfl (lv_at hl 0 rfl) ?_
  refine lv_iconst (v := nI 0) hx hb dX5_empties_18 (by decide +kernel) ?_
  obtain ⟨z_50, hz_50⟩ : ∃ zq, m_X5_lays_f z_47 1 9 (nI 0) = zq := ⟨_, rfl⟩
  have hM_51 := (c_X5_lays l D k a z z_47 kp hi sl sv tx td 1 9 (nI 0) (by first | decide | omega) (by first | decide | omega))
  rw [hz_50] at hM_51
  refine kVv (As := [.int (nI 1), .int (nI 9), .int (nI 0)]) (rest := []) X hW hM_51 yw_X5_lays lk_X5_31 ⟨Nat.le_of_ble_eq_true rfl, Nat.le_of_ble_eq_true rfl⟩ (wr := []) (List.Perm.refl _) (w' := refW k a z z_50 kp hi sl sv tx td) (List.Perm.refl _) (k_rcv X hW (ci := 5) (q0 := 0) rfl rfl) rfl hl.1 rfl (Nat.le_of_ble_eq_true rfl) ⟨Nat.zero_le _, Nat.zero_le _⟩ dX5_empties_19 (fun H locs hW => ?_)
  refine lv_iinc (v := nI 10) (lv' := [(2, .int (nI 10)), (1, .int (nI 1)), (0, .ref (a 0))]) hx hb dX5_empties_22 hl (k := 0) rfl (k_inc _) (by decide) rfl (fun ls hl => ?_)
  refine lv_goto (tgt := 9) hx hb dX5_empties_25 (by decide) ?_
  refine lv_iload_n hx hb dX5_empties_9 rfl (lv_at hl 0 rfl) ?_
  refine lv_bipush (v := nI 10) hx hb dX5_empties_10 (by decide +kernel) ?_
  refine lv_icmp_ge (tgt := 28) hx hb dX5_empties_12 (by decide) (fun _ => ?_) (fun c => absurd (by decide +kernel) c)
  refine lv_aload_n hx hb dX5_empties_28 rfl (lv_at hl 2 rfl) ?_
  refine lv_iload_n hx hb dX5_empties_29 rfl (lv_at hl 1 rfl) ?_
  refine lv_iconst (v := nI 2) hx hb dX5_empties_30 (by decide +kernel) ?_
  refine lv_aload_n hx hb dX5_empties_31 rfl (lv_at hl 2 rfl) ?_
  refine lv_iload_n hx hb dX5_empties_32 rfl (lv_at hl 1 rfl) ?_
  refine lv_iconst (v := nI 0) hx hb dX5_empties_33 (by decide +kernel) ?_
  obtain ⟨z_53, hz_53⟩ : ∃ zq, m_X5_get_r z_50 1 0 = zq := ⟨_, rfl⟩
  have hM_54 := (c_X5_get l D k a z z_50 kp hi sl sv tx td 1 0 (by first | decide | omega) (by first | decide | omega))
  rw [hz_53] at hM_54
  refine kVi (As := [.int (nI 1), .int (nI 0)]) (rest := [.int (nI 2), .int (nI 1), .ref (a 0)]) X hW hM_54 yw_X5_get lk_X5_53 ⟨Nat.le_of_ble_eq_true rfl, Nat.le_of_ble_eq_true rfl⟩ (wr := []) (List.Perm.refl _) (w' := refW k a z z_50 kp hi sl sv tx td) (List.Perm.refl _) (k_rcv X hW (ci := 5) (q0 := 0) rfl rfl) rfl hl.1 rfl (Nat.le_of_ble_eq_true rfl) ⟨Nat.zero_le _, Nat.zero_le _⟩ dX5_empties_34 (fun H locs hW => ?_)
  obtain ⟨z_55, hz_55⟩ : ∃ zq, m_X5_lays_f z_50 1 2 z_53 = zq := ⟨_, rfl⟩
  have hM_56 := (c_X5_lays l D k a z z_50 kp hi sl sv tx td 1 2 z_53 (by first | decide | omega) (by first | decide | omega))
  rw [hz_55] at hM_56
  refine kVv (As := [.int (nI 1), .int (nI 2), .int z_53]) (rest := []) X hW hM_56 yw_X5_lays lk_X5_31 ⟨Nat.le_of_ble_eq_true rfl, Nat.le_of_ble_eq_true rfl⟩ (wr := []) (List.Perm.refl _) (w' := refW k a z z_55 kp hi sl sv tx td) (List.Perm.refl _) (k_rcv X hW (ci := 5) (q0 := 0) rfl rfl) rfl hl.1 rfl (Nat.le_of_ble_eq_true rfl) ⟨Nat.zero_le _, Nat.zero_le _⟩ dX5_empties_37 (fun H locs hW => ?_)
  refine lv_aload_n hx hb dX5_empties_40 rfl (lv_at hl 2 rfl) ?_
  refine lv_iload_n hx hb dX5_empties_41 rfl (lv_at hl 1 rfl) ?_
  refine lv_bipush (v := nI 8) hx hb dX5_empties_42 (by decide +kernel) ?_
  refine lv_bipush (v := (-6)) hx hb dX5_empties_44 (by decide +kernel) ?_
  obtain ⟨z_57, hz_57⟩ : ∃ zq, m_X5_lays_f z_55 1 8 (-6) = zq := ⟨_, rfl⟩
  have hM_58 := (c_X5_lays l D k a z z_55 kp hi sl sv tx td 1 8 (-6) (by first | decide | omega) (by first | decide | omega))
  rw [hz_57] at hM_58
  refine kVv (As := [.int (nI 1), .int (nI 8), .int (-6)]) (rest := []) X hW hM_58 yw_X5_lays lk_X5_31 ⟨Nat.le_of_ble_eq_true rfl, Nat.le_of_ble_eq_true rfl⟩ (wr := []) (List.Perm.refl _) (w' := refW k a z z_57 kp hi sl sv tx td) (List.Perm.refl _) (k_rcv X hW (ci := 5) (q0 := 0) rfl rfl) rfl hl.1 rfl (Nat.le_of_ble_eq_true rfl) ⟨Nat.zero_le _, Nat.zero_le _⟩ dX5_empties_46 (fun H locs hW => ?_)
  refine lv_iinc (v := nI 2) (lv' := [(1, .int (nI 2)), (2, .int (nI 10)), (0, .ref (a 0))]) hx hb dX5_empties_49 hl (k := 1) rfl (k_inc _) (by decide) rfl (fun ls hl => ?_)
  refine lv_goto (tgt := 2) hx hb dX5_empties_52 (by decide) ?_
  refine lv_iload_n hx hb dX5_empties_2 rfl (lv_at hl 0 rfl) ?_
  refine lv_iconst (v := nI 3) hx hb dX5_empties_3 (by decide +kernel) ?_
  refine lv_icmp_ge (tgt := 55) hx hb dX5_empties_4 (by decide) (fun c => absurd c (by decide +kernel)) (fun _ => ?_)
  refine lv_iconst (v := nI 3) hx hb dX5_empties_7 (by decide +kernel) ?_
  refine lv_istore_n (lv' := [(2, .int (nI 3)), (1, .int (nI 2)), (0, .ref (a 0))]) hx hb dX5_empties_8 rfl hl (by decide) rfl (fun ls hl => ?_)
  refine lv_iload_n hx hb dX5_empties_9 rfl (lv_at hl 0 rfl) ?_
  refine lv_bipush (v := nI 10) hx hb dX5_empties_10 (by decide +kernel) ?_
  refine lv_icmp_ge (tgt := 28) hx hb dX5_empties_12 (by decide) (fun c => absurd c (by decide +kernel)) (fun _ => ?_)
  refine lv_aload_n hx hb dX5_empties_15 rfl (lv_at hl 2 rfl) ?_
  refine lv_iload_n hx hb dX5_empties_16 rfl (lv_at hl 1 rfl) ?_
  refine lv_iload_n hx hb dX5_empties_17 rfl (lv_at hl 0 rfl) ?_
  refine lv_iconst (v := nI 0) hx hb dX5_empties_18 (by decide +kernel) ?_
  obtain ⟨z_61, hz_61⟩ : ∃ zq, m_X5_lays_f z_57 2 3 (nI 0) = zq := ⟨_, rfl⟩
  have hM_62 := (c_X5_lays l D k a z z_57 kp hi sl sv tx td 2 3 (nI 0) (by first | decide | omega) (by first | decide | omega))
  rw [hz_61] at hM_62
  refine kVv (As := [.int (nI 2), .int (nI 3), .int (nI 0)]) (rest := []) X hW hM_62 yw_X5_lays lk_X5_31 ⟨Nat.le_of_ble_eq_true rfl, Nat.le_of_ble_eq_true rfl⟩ (wr := []) (List.Perm.refl _) (w' := refW k a z z_61 kp hi sl sv tx td) (List.Perm.refl _) (k_rcv X hW (ci := 5) (q0 := 0) rfl rfl) rfl hl.1 rfl (Nat.le_of_ble_eq_true rfl) ⟨Nat.zero_le _, Nat.zero_le _⟩ dX5_empties_19 (fun H locs hW => ?_)
  refine lv_iinc (v := nI 4) (lv' := [(2, .int (nI 4)), (1, .int (nI 2)), (0, .ref (a 0))]) hx hb dX5_empties_22 hl (k := 0) rfl (k_inc _) (by decide) rfl (fun ls hl => ?_)
  refine lv_goto (tgt := 9) hx hb dX5_empties_25 (by decide) ?_
  refine lv_iload_n hx hb dX5_empties_9 rfl (lv_at hl 0 rfl) ?_
  refine lv_bipush (v := nI 10) hx hb dX5_empties_10 (by decide +kernel) ?_
  refine lv_icmp_ge (tgt := 28) hx hb dX5_empties_12 (by decide) (fun c => absurd c (by decide +kernel)) (fun _ => ?_)
  refine lv_aload_n hx hb dX5_empties_15 rfl (lv_at hl 2 rfl) ?_
  refine lv_iload_n hx hb dX5_empties_16 rfl (lv_at hl 1 rfl) ?_
  refine lv_iload_n hx hb dX5_empties_17 rfl (lv_at hl 0 rfl) ?_
  refine lv_iconst (v := nI 0) hx hb dX5_empties_18 (by decide +kernel) ?_
  obtain ⟨z_64, hz_64⟩ : ∃ zq, m_X5_lays_f z_61 2 4 (nI 0) = zq := ⟨_, rfl⟩
  have hM_65 := (c_X5_lays l D k a z z_61 kp hi sl sv tx td 2 4 (nI 0) (by first | decide | omega) (by first | decide | omega))
  rw [hz_64] at hM_65
  refine kVv (As := [.int (nI 2), .int (nI 4), .int (nI 0)]) (rest := []) X hW hM_65 yw_X5_lays lk_X5_31 ⟨Nat.le_of_ble_eq_true rfl, Nat.le_of_ble_eq_true rfl⟩ (wr := []) (List.Perm.refl _) (w' := refW k a z z_64 kp hi sl sv tx td) (List.Perm.refl _) (k_rcv X hW (ci := 5) (q0 := 0) rfl rfl) rfl hl.1 rfl (Nat.le_of_ble_eq_true rfl) ⟨Nat.zero_le _, Nat.zero_le _⟩ dX5_empties_19 (fun H locs hW => ?_)
  refine lv_iinc (v := nI 5) (lv' := [(2, .int (nI 5)), (1, .int (nI 2)), (0, .ref (a 0))]) hx hb dX5_empties_22 hl (k := 0) rfl (k_inc _) (by decide) rfl (fun ls hl => ?_)
  refine lv_goto (tgt := 9) hx hb dX5_empties_25 (by decide) ?_
  refine lv_iload_n hx hb dX5_empties_9 rfl (lv_at hl 0 rfl) ?_
  refine lv_bipush (v := nI 10) hx hb dX5_empties_10 (by decide +kernel) ?_
  refine lv_icmp_ge (tgt := 28) hx hb dX5_empties_12 (by decide) (fun c => absurd c (by decide +kernel)) (fun _ => ?_)
  refine lv_aload_n hx hb dX5_empties_15 rfl (lv_at hl 2 rfl) ?_
  refine lv_iload_n hx hb dX5_empties_16 rfl (lv_at hl 1 rfl) ?_
  refine lv_iload_n hx hb dX5_empties_17 rfl (lv_at hl 0 rfl) ?_
  refine lv_iconst (v := nI 0) hx hb dX5_empties_18 (by decide +kernel) ?_
  obtain ⟨z_67, hz_67⟩ : ∃ zq, m_X5_lays_f z_64 2 5 (nI 0) = zq := ⟨_, rfl⟩
  have hM_68 := (c_X5_lays l D k a z z_64 kp hi sl sv tx td 2 5 (nI 0) (by first | decide | omega) (by first | decide | omega))
  rw [hz_67] at hM_68
  refine kVv (As := [.int (nI 2), .int (nI 5), .int (nI 0)]) (rest := []) X hW hM_68 yw_X5_lays lk_X5_31 ⟨Nat.le_of_ble_eq_true rfl, Nat.le_of_ble_eq_true rfl⟩ (wr := []) (List.Perm.refl _) (w' := refW k a z z_67 kp hi sl sv tx td) (List.Perm.refl _) (k_rcv X hW (ci := 5) (q0 := 0) rfl rfl) rfl hl.1 rfl (Nat.le_of_ble_eq_true rfl) ⟨Nat.zero_le _, Nat.zero_le _⟩ dX5_empties_19 (fun H locs hW => ?_)
  refine lv_iinc (v := nI 6) (lv' := [(2, .int (nI 6)), (1, .int (nI 2)), (0, .ref (a 0))]) hx hb dX5_empties_22 hl (k := 0) rfl (k_inc _) (by decide) rfl (fun ls hl => ?_)
  refine lv_goto (tgt := 9) hx hb dX5_empties_25 (by decide) ?_
  refine lv_iload_n hx hb dX5_empties_9 rfl (lv_at hl 0 rfl) ?_
  refine lv_bipush (v := nI 10) hx hb dX5_empties_10 (by decide +kernel) ?_
  refine lv_icmp_ge (tgt := 28) hx hb dX5_empties_12 (by decide) (fun c => absurd c (by decide +kernel)) (fun _ => ?_)
  refine lv_aload_n hx hb dX5_empties_15 rfl (lv_at hl 2 rfl) ?_
  refine lv_iload_n hx hb dX5_empties_16 rfl (lv_at hl 1 rfl) ?_
  refine lv_iload_n hx hb dX5_empties_17 rfl (lv_at hl 0 rfl) ?_
  refine lv_iconst (v := nI 0) hx hb dX5_empties_18 (by decide +kernel) ?_
  obtain ⟨z_70, hz_70⟩ : ∃ zq, m_X5_lays_f z_67 2 6 (nI 0) = zq := ⟨_, rfl⟩
  have hM_71 := (c_X5_lays l D k a z z_67 kp hi sl sv tx td 2 6 (nI 0) (by first | decide | omega) (by first | decide | omega))
  rw [hz_70] at hM_71
  refine kVv (As := [.int (nI 2), .int (nI 6), .int (nI 0)]) (rest := []) X hW hM_71 yw_X5_lays lk_X5_31 ⟨Nat.le_of_ble_eq_true rfl, Nat.le_of_ble_eq_true rfl⟩ (wr := []) (List.Perm.refl _) (w' := refW k a z z_70 kp hi sl sv tx td) (List.Perm.refl _) (k_rcv X hW (ci := 5) (q0 := 0) rfl rfl) rfl hl.1 rfl (Nat.le_of_ble_eq_true rfl) ⟨Nat.zero_le _, Nat.zero_le _⟩ dX5_empties_19 (fun H locs hW => ?_)
  refine lv_iinc (v := nI 7) (lv' := [(2, .int (nI 7)), (1, .int (nI 2)), (0, .ref (a 0))]) hx hb dX5_empties_22 hl (k := 0) rfl (k_inc _) (by decide) rfl (fun ls hl => ?_)
  refine lv_goto (tgt := 9) hx hb dX5_empties_25 (by decide) ?_
  refine lv_iload_n hx hb dX5_empties_9 rfl (lv_at hl 0 rfl) ?_
  refine lv_bipush (v := nI 10) hx hb dX5_empties_10 (by decide +kernel) ?_
  refine lv_icmp_ge (tgt := 28) hx hb dX5_empties_12 (by decide) (fun c => absurd c (by decide +kernel)) (fun _ => ?_)
  refine lv_aload_n hx hb dX5_empties_15 rfl (lv_at hl 2 rfl) ?_
  refine lv_iload_n hx hb dX5_empties_16 rfl (lv_at hl 1 rfl) ?_
  refine lv_iload_n hx hb dX5_empties_17 rfl (lv_at hl 0 rfl) ?_
  refine lv_iconst (v := nI 0) hx hb dX5_empties_18 (by decide +kernel) ?_
  obtain ⟨z_73, hz_73⟩ : ∃ zq, m_X5_lays_f z_70 2 7 (nI 0) = zq := ⟨_, rfl⟩
  have hM_74 := (c_X5_lays l D k a z z_70 kp hi sl sv tx td 2 7 (nI 0) (by first | decide | omega) (by first | decide | omega))
  rw [hz_73] at hM_74
  refine kVv (As := [.int (nI 2), .int (nI 7), .int (nI 0)]) (rest := []) X hW hM_74 yw_X5_lays lk_X5_31 ⟨Nat.le_of_ble_eq_true rfl, Nat.le_of_ble_eq_true rfl⟩ (wr := []) (List.Perm.refl _) (w' := refW k a z z_73 kp hi sl sv tx td) (List.Perm.refl _) (k_rcv X hW (ci := 5) (q0 := 0) rfl rfl) rfl hl.1 rfl (Nat.le_of_ble_eq_true rfl) ⟨Nat.zero_le _, Nat.zero_le _⟩ dX5_empties_19 (fun H locs hW => ?_)
  refine lv_iinc (v := nI 8) (lv' := [(2, .int (nI 8)), (1, .int (nI 2)), (0, .ref (a 0))]) hx hb dX5_empties_22 hl (k := 0) rfl (k_inc _) (by decide) rfl (fun ls hl => ?_)
  refine lv_goto (tgt := 9) hx hb dX5_empties_25 (by decide) ?_
  refine lv_iload_n hx hb dX5_empties_9 rfl (lv_at hl 0 rfl) ?_
  refine lv_bipush (v := nI 10) hx hb dX5_empties_10 (by decide +kernel) ?_
  refine lv_icmp_ge (tgt := 28) hx hb dX5_empties_12 (by decide) (fun c => absurd c (by decide +kernel)) (fun _ => ?_)
  refine lv_aload_n hx hb dX5_empties_15 rfl (lv_at hl 2 rfl) ?_
  refine lv_iload_n hx hb dX5_empties_16 rfl (lv_at hl 1 rfl) ?_
  refine lv_iload_n hx hb dX5_empties_17 rfl (lv_at hl 0 rfl) ?_
  refine lv_iconst (v := nI 0) hx hb dX5_empties_18 (by decide +kernel) ?_
  obtain ⟨z_76, hz_76⟩ : ∃ zq, m_X5_lays_f z_73 2 8 (nI 0) = zq := ⟨_, rfl⟩
  have hM_77 := (c_X5_lays l D k a z z_73 kp hi sl sv tx td 2 8 (nI 0) (by first | decide | omega) (by first | decide | omega))
  rw [hz_76] at hM_77
  refine kVv (As := [.int (nI 2), .int (nI 8), .int (nI 0)]) (rest := []) X hW hM_77 yw_X5_lays lk_X5_31 ⟨Nat.le_of_ble_eq_true rfl, Nat.le_of_ble_eq_true rfl⟩ (wr := []) (List.Perm.refl _) (w' := refW k a z z_76 kp hi sl sv tx td) (List.Perm.refl _) (k_rcv X hW (ci := 5) (q0 := 0) rfl rfl) rfl hl.1 rfl (Nat.le_of_ble_eq_true rfl) ⟨Nat.zero_le _, Nat.zero_le _⟩ dX5_empties_19 (fun H locs hW => ?_)
  refine lv_iinc (v := nI 9) (lv' := [(2, .int (nI 9)), (1, .int (nI 2)), (0, .ref (a 0))]) hx hb dX5_empties_22 hl (k := 0) rfl (k_inc _) (by decide) rfl (fun ls hl => ?_)
  refine lv_goto (tgt := 9) hx hb dX5_empties_25 (by decide) ?_
  refine lv_iload_n hx hb dX5_empties_9 rfl (lv_at hl 0 rfl) ?_
  refine lv_bipush (v := nI 10) hx hb dX5_empties_10 (by decide +kernel) ?_
  refine lv_icmp_ge (tgt := 28) hx hb dX5_empties_12 (by decide) (fun c => absurd c (by decide +kernel)) (fun _ => ?_)
  refine lv_aload_n hx hb dX5_empties_15 rfl (lv_at hl 2 rfl) ?_
  refine lv_iload_n hx hb dX5_empties_16 rfl (lv_at hl 1 rfl) ?_
  refine lv_iload_n hx hb dX5_empties_17 rfl (lv_at hl 0 rfl) ?_
  refine lv_iconst (v := nI 0) hx hb dX5_empties_18 (by decide +kernel) ?_
  obtain ⟨z_79, hz_79⟩ : ∃ zq, m_X5_lays_f z_76 2 9 (nI 0) = zq := ⟨_, rfl⟩
  have hM_80 := (c_X5_lays l D k a z z_76 kp hi sl sv tx td 2 9 (nI 0) (by first | decide | omega) (by first | decide | omega))
  rw [hz_79] at hM_80
  refine kVv (As := [.int (nI 2), .int (nI 9), .int (nI 0)]) (rest := []) X hW hM_80 yw_X5_lays lk_X5_31 ⟨Nat.le_of_ble_eq_true rfl, Nat.le_of_ble_eq_true rfl⟩ (wr := []) (List.Perm.refl _) (w' := refW k a z z_79 kp hi sl sv tx td) (List.Perm.refl _) (k_rcv X hW (ci := 5) (q0 := 0) rfl rfl) rfl hl.1 rfl (Nat.le_of_ble_eq_true rfl) ⟨Nat.zero_le _, Nat.zero_le _⟩ dX5_empties_19 (fun H locs hW => ?_)
  refine lv_iinc (v := nI 10) (lv' := [(2, .int (nI 10)), (1, .int (nI 2)), (0, .ref (a 0))]) hx hb dX5_empties_22 hl (k := 0) rfl (k_inc _) (by decide) rfl (fun ls hl => ?_)
  refine lv_goto (tgt := 9) hx hb dX5_empties_25 (by decide) ?_
  refine lv_iload_n hx hb dX5_empties_9 rfl (lv_at hl 0 rfl) ?_
  refine lv_bipush (v := nI 10) hx hb dX5_empties_10 (by decide +kernel) ?_
  refine lv_icmp_ge (tgt := 28) hx hb dX5_empties_12 (by decide) (fun _ => ?_) (fun c => absurd (by decide +kernel) c)
  refine lv_aload_n hx hb dX5_empties_28 rfl (lv_at hl 2 rfl) ?_
  refine lv_iload_n hx hb dX5_empties_29 rfl (lv_at hl 1 rfl) ?_
  refine lv_iconst (v := nI 2) hx hb dX5_empties_30 (by decide +kernel) ?_
  refine lv_aload_n hx hb dX5_empties_31 rfl (lv_at hl 2 rfl) ?_
  refine lv_iload_n hx hb dX5_empties_32 rfl (lv_at hl 1 rfl) ?_
  refine lv_iconst (v := nI 0) hx hb dX5_empties_33 (by decide +kernel) ?_
  obtain ⟨z_82, hz_82⟩ : ∃ zq, m_X5_get_r z_79 2 0 = zq := ⟨_, rfl⟩
  have hM_83 := (c_X5_get l D k a z z_79 kp hi sl sv tx td 2 0 (by first | decide | omega) (by first | decide | omega))
  rw [hz_82] at hM_83
  refine kVi (As := [.int (nI 2), .int (nI 0)]) (rest := [.int (nI 2), .int (nI 2), .ref (a 0)]) X hW hM_83 yw_X5_get lk_X5_53 ⟨Nat.le_of_ble_eq_true rfl, Nat.le_of_ble_eq_true rfl⟩ (wr := []) (List.Perm.refl _) (w' := refW k a z z_79 kp hi sl sv tx td) (List.Perm.refl _) (k_rcv X hW (ci := 5) (q0 := 0) rfl rfl) rfl hl.1 rfl (Nat.le_of_ble_eq_true rfl) ⟨Nat.zero_le _, Nat.zero_le _⟩ dX5_empties_34 (fun H locs hW => ?_)
  obtain ⟨z_84, hz_84⟩ : ∃ zq, m_X5_lays_f z_79 2 2 z_82 = zq := ⟨_, rfl⟩
  have hM_85 := (c_X5_lays l D k a z z_79 kp hi sl sv tx td 2 2 z_82 (by first | decide | omega) (by first | decide | omega))
  rw [hz_84] at hM_85
  refine kVv (As := [.int (nI 2), .int (nI 2), .int z_82]) (rest := []) X hW hM_85 yw_X5_lays lk_X5_31 ⟨Nat.le_of_ble_eq_true rfl, Nat.le_of_ble_eq_true rfl⟩ (wr := []) (List.Perm.refl _) (w' := refW k a z z_84 kp hi sl sv tx td) (List.Perm.refl _) (k_rcv X hW (ci := 5) (q0 := 0) rfl rfl) rfl hl.1 rfl (Nat.le_of_ble_eq_true rfl) ⟨Nat.zero_le _, Nat.zero_le _⟩ dX5_empties_37 (fun H locs hW => ?_)
  refine lv_aload_n hx hb dX5_empties_40 rfl (lv_at hl 2 rfl) ?_
  refine lv_iload_n hx hb dX5_empties_41 rfl (lv_at hl 1 rfl) ?_
  refine lv_bipush (v := nI 8) hx hb dX5_empties_42 (by decide +kernel) ?_
  refine lv_bipush (v := (-6)) hx hb dX5_empties_44 (by decide +kernel) ?_
  obtain ⟨z_86, hz_86⟩ : ∃ zq, m_X5_lays_f z_84 2 8 (-6) = zq := ⟨_, rfl⟩
  have hM_87 := (c_X5_lays l D k a z z_84 kp hi sl sv tx td 2 8 (-6) (by first | decide | omega) (by first | decide | omega))
  rw [hz_86] at hM_87
  refine kVv (As := [.int (nI 2), .int (nI 8), .int (-6)]) (rest := []) X hW hM_87 yw_X5_lays lk_X5_31 ⟨Nat.le_of_ble_eq_true rfl, Nat.le_of_ble_eq_true rfl⟩ (wr := []) (List.Perm.refl _) (w' := refW k a z z_86 kp hi sl sv tx td) (List.Perm.refl _) (k_rcv X hW (ci := 5) (q0 := 0) rfl rfl) rfl hl.1 rfl (Nat.le_of_ble_eq_true rfl) ⟨Nat.zero_le _, Nat.zero_le _⟩ dX5_empties_46 (fun H locs hW => ?_)
  refine lv_iinc (v := nI 3) (lv' := [(1, .int (nI 3)), (2, .int (nI 10)), (0, .ref (a 0))]) hx hb dX5_empties_49 hl (k := 1) rfl (k_inc _) (by decide) rfl (fun ls hl => ?_)
  refine lv_goto (tgt := 2) hx hb dX5_empties_52 (by decide) ?_
  refine lv_iload_n hx hb dX5_empties_2 rfl (lv_at hl 0 rfl) ?_
  refine lv_iconst (v := nI 3) hx hb dX5_empties_3 (by decide +kernel) ?_
  refine lv_icmp_ge (tgt := 55) hx hb dX5_empties_4 (by decide) (fun _ => ?_) (fun c => absurd (by decide +kernel) c)
  refine lv_aload_n hx hb dX5_empties_55 rfl (lv_at hl 2 rfl) ?_
  refine k_get X hW inG5 rfl 0 (by decide) fl_X5_7 rfl 0 rfl (v := .ref (a 1)) rfl dX5_empties_56 ?_
  refine lv_iconst (v := nI 4) hx hb dX5_empties_59 (by decide +kernel) ?_
  refine lv_iconst (v := nI 0) hx hb dX5_empties_60 (by decide +kernel) ?_
  refine k_iast X hW 1 rfl (j := 4) rfl (by decide) (by decide) dX5_empties_61 (w' := refW k a z (upd z_86 4 (nI 0)) kp hi sl sv tx td) rfl (fun H locs hW => ?_)
  refine lv_aload_n hx hb dX5_empties_62 rfl (lv_at hl 2 rfl) ?_
  refine k_get X hW inG5 rfl 0 (by decide) fl_X5_7 rfl 0 rfl (v := .ref (a 1)) rfl dX5_empties_63 ?_
  refine lv_iconst (v := nI 5) hx hb dX5_empties_66 (by decide +kernel) ?_
  refine lv_iconst (v := nI 0) hx hb dX5_empties_67 (by decide +kernel) ?_
  refine k_iast X hW 1 rfl (j := 5) rfl (by decide) (by decide) dX5_empties_68 (w' := refW k a z (upd (upd z_86 4 (nI 0)) 5 (nI 0)) kp hi sl sv tx td) rfl (fun H locs hW => ?_)
  refine lv_aload_n hx hb dX5_empties_69 rfl (lv_at hl 2 rfl) ?_
  refine k_get X hW inG5 rfl 0 (by decide) fl_X5_7 rfl 0 rfl (v := .ref (a 1)) rfl dX5_empties_70 ?_
  refine lv_bipush (v := nI 6) hx hb dX5_empties_73 (by decide +kernel) ?_
  refine lv_iconst (v := nI 0) hx hb dX5_empties_75 (by decide +kernel) ?_
  refine k_iast X hW 1 rfl (j := 6) rfl (by decide) (by decide) dX5_empties_76 (w' := refW k a z (upd (upd (upd z_86 4 (nI 0)) 5 (nI 0)) 6 (nI 0)) kp hi sl sv tx td) rfl (fun H locs hW => ?_)
  exact hQ _ _ _ _ _ hW dX5_empties_77 (by subst hz_86; subst hz_84; subst hz_82; subst hz_79; subst hz_76; subst hz_73; subst hz_70; subst hz_67; subst hz_64; subst hz_61; subst hz_57; subst hz_55; subst hz_53; subst hz_50; subst hz_47; subst hz_44; subst hz_41; subst hz_38; subst hz_35; subst hz_32; subst hz_28; subst hz_26; subst hz_24; subst hz_21; subst hz_18; subst hz_15; subst hz_12; subst hz_9; subst hz_6; subst hz_3; rw [m_X5_empties_f])
