def m_take_0 (u : CS) : CS := st2 (st2 (st2 u 4 (m_X0_takeOldest_u4 u (u 6))) 5 (m_X0_takeOldest_u5 u (u 6))) 6 (m_X0_takeOldest_q u (u 6) (nI 0))
def lp_poll_0 : Nat → CS → CS
  | 0, u => u
  | r + 1, u => if m_X0_hasFrame_r u (u 6 6) = 0 then u else lp_poll_0 r (m_take_0 u)
def lp_pollN_0 : Nat → CS → Nat
  | 0, _ => 0
  | r + 1, u => if m_X0_hasFrame_r u (u 6 6) = 0 then 0 else 1 + lp_pollN_0 r (m_take_0 u)
theorem lp_poll_0_01 : ∀ (r : Nat) (u : CS), lp_poll_0 r u 0 = u 0 ∧ lp_poll_0 r u 1 = u 1 := by
  intro r
  induction r with
  | zero => intro u; exact ⟨rfl, rfl⟩
  | succ r ih =>
    intro u
    rw [lp_poll_0]
    split
    · exact ⟨rfl, rfl⟩
    · exact ih (m_take_0 u)
def m_take_1 (u : CS) : CS := st2 (st2 (st2 u 4 (m_X0_takeOldest_u4 u (u 7))) 5 (m_X0_takeOldest_u5 u (u 7))) 7 (m_X0_takeOldest_q u (u 7) (nI 1))
def lp_poll_1 : Nat → CS → CS
  | 0, u => u
  | r + 1, u => if m_X0_hasFrame_r u (u 7 6) = 0 then u else lp_poll_1 r (m_take_1 u)
def lp_pollN_1 : Nat → CS → Nat
  | 0, _ => 0
  | r + 1, u => if m_X0_hasFrame_r u (u 7 6) = 0 then 0 else 1 + lp_pollN_1 r (m_take_1 u)
theorem lp_poll_1_01 : ∀ (r : Nat) (u : CS), lp_poll_1 r u 0 = u 0 ∧ lp_poll_1 r u 1 = u 1 := by
  intro r
  induction r with
  | zero => intro u; exact ⟨rfl, rfl⟩
  | succ r ih =>
    intro u
    rw [lp_poll_1]
    split
    · exact ⟨rfl, rfl⟩
    · exact ih (m_take_1 u)
def m_take_2 (u : CS) : CS := st2 (st2 (st2 u 4 (m_X0_takeOldest_u4 u (u 8))) 5 (m_X0_takeOldest_u5 u (u 8))) 8 (m_X0_takeOldest_q u (u 8) (nI 2))
def lp_poll_2 : Nat → CS → CS
  | 0, u => u
  | r + 1, u => if m_X0_hasFrame_r u (u 8 6) = 0 then u else lp_poll_2 r (m_take_2 u)
def lp_pollN_2 : Nat → CS → Nat
  | 0, _ => 0
  | r + 1, u => if m_X0_hasFrame_r u (u 8 6) = 0 then 0 else 1 + lp_pollN_2 r (m_take_2 u)
theorem lp_poll_2_01 : ∀ (r : Nat) (u : CS), lp_poll_2 r u 0 = u 0 ∧ lp_poll_2 r u 1 = u 1 := by
  intro r
  induction r with
  | zero => intro u; exact ⟨rfl, rfl⟩
  | succ r ih =>
    intro u
    rw [lp_poll_2]
    split
    · exact ⟨rfl, rfl⟩
    · exact ih (m_take_2 u)
def m_pollrest_0_r (u1 : CS) (t : Nat) : Int32 := if (m_X0_leaveRow_0_u u1) 1 1 ≤ nI t then nI t else if (m_X0_leaveRow_0_u u1) 1 2 = nI 1 then nI t else nI t
def m_pollrest_0_u1 (u1 : CS) (t : Nat) : CS := if (m_X0_leaveRow_0_u u1) 1 1 ≤ nI t then st2 (m_X0_leaveRow_0_u u1) 6 (upd ((m_X0_leaveRow_0_u u1) 6) 3 (m_X0_rowLength_r (m_X0_leaveRow_0_u u1))) else if (m_X0_leaveRow_0_u u1) 1 2 = nI 1 then st2 (m_X0_leaveRow_0_u u1) 6 (m_X3_becomeIdle_q ((m_X0_leaveRow_0_u u1) 6) (nI 1)) else st2 (m_X0_leaveRow_0_u u1) 6 (m_X3_becomeIdle_q ((m_X0_leaveRow_0_u u1) 6) (nI 0))
def m_pollrest_1_r (u1 : CS) (t : Nat) : Int32 := if (m_X0_leaveRow_1_u u1) 1 1 ≤ nI t then nI t else if (m_X0_leaveRow_1_u u1) 1 2 = nI 1 then nI t else nI t
def m_pollrest_1_u1 (u1 : CS) (t : Nat) : CS := if (m_X0_leaveRow_1_u u1) 1 1 ≤ nI t then st2 (m_X0_leaveRow_1_u u1) 7 (upd ((m_X0_leaveRow_1_u u1) 7) 3 (m_X0_rowLength_r (m_X0_leaveRow_1_u u1))) else if (m_X0_leaveRow_1_u u1) 1 2 = nI 1 then st2 (m_X0_leaveRow_1_u u1) 7 (m_X3_becomeIdle_q ((m_X0_leaveRow_1_u u1) 7) (nI 1)) else st2 (m_X0_leaveRow_1_u u1) 7 (m_X3_becomeIdle_q ((m_X0_leaveRow_1_u u1) 7) (nI 0))
def m_pollrest_2_r (u1 : CS) (t : Nat) : Int32 := if (m_X0_leaveRow_2_u u1) 1 1 ≤ nI t then nI t else if (m_X0_leaveRow_2_u u1) 1 2 = nI 1 then nI t else nI t
def m_pollrest_2_u1 (u1 : CS) (t : Nat) : CS := if (m_X0_leaveRow_2_u u1) 1 1 ≤ nI t then st2 (m_X0_leaveRow_2_u u1) 8 (upd ((m_X0_leaveRow_2_u u1) 8) 3 (m_X0_rowLength_r (m_X0_leaveRow_2_u u1))) else if (m_X0_leaveRow_2_u u1) 1 2 = nI 1 then st2 (m_X0_leaveRow_2_u u1) 8 (m_X3_becomeIdle_q ((m_X0_leaveRow_2_u u1) 8) (nI 1)) else st2 (m_X0_leaveRow_2_u u1) 8 (m_X3_becomeIdle_q ((m_X0_leaveRow_2_u u1) 8) (nI 0))
def m_X0_poll_r (u : CS) : Int32 := if m_X4_isQueue_r (m_X0_queueAt_r u (nI 0)) = 0 then nI 0 else if m_X0_queueAt_r u (nI 0) = nI 0 then m_pollrest_0_r (lp_poll_0 (tn (u 1 1)) u) (0 + lp_pollN_0 (tn (u 1 1)) u) else if m_X0_queueAt_r u (nI 0) = nI 1 then m_pollrest_1_r (lp_poll_1 (tn (u 1 1)) u) (0 + lp_pollN_1 (tn (u 1 1)) u) else m_pollrest_2_r (lp_poll_2 (tn (u 1 1)) u) (0 + lp_pollN_2 (tn (u 1 1)) u)
def m_X0_poll_u (u : CS) : CS := if m_X4_isQueue_r (m_X0_queueAt_r u (nI 0)) = 0 then u else if m_X0_queueAt_r u (nI 0) = nI 0 then m_pollrest_0_u1 (lp_poll_0 (tn (u 1 1)) u) (0 + lp_pollN_0 (tn (u 1 1)) u) else if m_X0_queueAt_r u (nI 0) = nI 1 then m_pollrest_1_u1 (lp_poll_1 (tn (u 1 1)) u) (0 + lp_pollN_1 (tn (u 1 1)) u) else m_pollrest_2_u1 (lp_poll_2 (tn (u 1 1)) u) (0 + lp_pollN_2 (tn (u 1 1)) u)
set_option maxHeartbeats 4000000 in
set_option maxRecDepth 100000 in
theorem c_X0_poll (l : Launch) (D : va_G) (k : Nat → ClassId) (a : Nat → Nat) (u : CS)  (hc : CM u)  : mI l yX0_poll (wsY yX0_poll cX0_poll 4 (some .int)) 3 D k [.ref (a 0)] (cardW k a u) (cardW k a (m_X0_poll_u u)) (m_X0_poll_r u) := by
  refine mI_intro rfl (Nat.le_of_ble_eq_true rfl) (Or.inl rfl) ?_
  intro p e s m args below meth c A Q ls X hW hl hQ
  have hx := X.hx
  have hb := X.hb
  have hl : lv_has ls 4 [(0, .ref (a 0))] := hl
  have hc4 := hc.2.1
  refine lv_aload_n hx hb dX0_poll_0 rfl (lv_at hl 0 rfl) ?_
  refine lv_iconst (v := nI 0) hx hb dX0_poll_1 (by decide +kernel) ?_
  obtain ⟨z_1, hz_1⟩ : ∃ zq, m_X0_queueAt_r u (nI 0) = zq := ⟨_, rfl⟩
  have hM_2 := (c_X0_queueAt l D k a u (nI 0))
  rw [hz_1] at hM_2
  refine kVi (As := [.int (nI 0)]) (rest := []) X hW hM_2 yw_X0_queueAt lk_X0_114 ⟨Nat.le_of_ble_eq_true rfl, Nat.le_of_ble_eq_true rfl⟩ (wr := []) (List.Perm.refl _) (w' := cardW k a u) (List.Perm.refl _) (k_rcv X hW (ci := 0) (q0 := 0) rfl rfl) rfl hl.1 rfl (Nat.le_of_ble_eq_true rfl) ⟨Nat.zero_le _, Nat.zero_le _⟩ dX0_poll_2 (fun H locs hW => ?_)
  refine lv_istore_n (lv' := [(1, .int z_1), (0, .ref (a 0))]) hx hb dX0_poll_5 rfl hl (by decide) rfl (fun ls hl => ?_)
  refine lv_iload_n hx hb dX0_poll_6 rfl (lv_at hl 0 rfl) ?_
  obtain ⟨z_3, hz_3⟩ : ∃ zq, m_X4_isQueue_r z_1 = zq := ⟨_, rfl⟩
  have hM_4 := (c_X4_isQueue l D k z_1)
  rw [hz_3] at hM_4
  refine kSNi (As := [.int z_1]) (rest := []) X hW hM_4 yw_X4_isQueue lkn_X0_63 ⟨Nat.le_of_ble_eq_true rfl, Nat.le_of_ble_eq_true rfl⟩ rfl hl.1 rfl (Nat.le_of_ble_eq_true rfl) ⟨Nat.zero_le _, Nat.zero_le _⟩ dX0_poll_7 (fun H locs hW => ?_)
  refine lv_if_ne (tgt := 15) hx hb dX0_poll_10 (by decide) (fun c_5 => ?_) (fun c_5 => ?_)
  · refine lv_aload_n hx hb dX0_poll_15 rfl (lv_at hl 1 rfl) ?_
    refine k_get X hW inG0 rfl 1 (by decide) fl_X0_20 rfl 0 rfl (v := .ref (a 2)) rfl dX0_poll_16 ?_
    refine lv_iload_n hx hb dX0_poll_19 rfl (lv_at hl 0 rfl) ?_
    rcases isq3 (x := z_1) (by rw [hz_3]; exact c_5) with h_6 | h_6 | h_6
    · refine k_top (y := nI 0) (h_6) ?_
      refine k_aald X hW 2 1 rfl rfl (j := 0) (b := a 7) rfl (by decide) (by decide) rfl dX0_poll_20 ?_
      refine lv_astore_n (lv' := [(2, .ref (a 7)), (1, .int z_1), (0, .ref (a 0))]) hx hb dX0_poll_21 rfl hl (by decide) rfl (fun ls hl => ?_)
      refine lv_iconst (v := nI 0) hx hb dX0_poll_22 (by decide +kernel) ?_
      refine lv_istore_n (lv' := [(3, .int (nI 0)), (2, .ref (a 7)), (1, .int z_1), (0, .ref (a 0))]) hx hb dX0_poll_23 rfl hl (by decide) rfl (fun ls hl => ?_)
      have hB := hc.2.2.1
      have hB16 := hc.2.2.2
      have kx : ∀ (u1 : CS) (t : Nat) (H : Heap) (locs : List Loc) (ls : Array Slot), u1 1 = u 1 → u1 0 = u 0 → m_X0_poll_r u = m_pollrest_0_r u1 t → m_X0_poll_u u = m_pollrest_0_u1 u1 t → KW D A s (cardW k a u1) H locs → lv_has ls 4 [(3, .int (nI t)), (0, .ref (a 0)), (1, .int (z_1)), (2, .ref (a 7))] → W p l e (rmD 3) s m args below meth c H locs 0 0 Q (F0 m 57 ls []) := by
        intro u1 t H locs ls hu1 hu0 hr hu hW hl
        refine lv_aload_n hx hb dX0_poll_57 rfl (lv_at hl 1 rfl) ?_
        refine lv_aload_n hx hb dX0_poll_58 rfl (lv_at hl 3 rfl) ?_
        obtain ⟨z_7, hz_7⟩ : ∃ zq, m_X0_leaveRow_0_u u1 = zq := ⟨_, rfl⟩
        have hcm_z_7 : CM z_7 := by rw [← hz_7]; exact CM_X0_leaveRow_0 (CM_of hc hu0 hu1)
        have hM_8 := (c_X0_leaveRow_0 l D k a u1 )
        rw [hz_7] at hM_8
        refine kVv (As := [.ref (a 7)]) (rest := []) X hW hM_8 yw_X0_leaveRow lk_X0_124 ⟨Nat.le_of_ble_eq_true rfl, Nat.le_of_ble_eq_true rfl⟩ (wr := []) (List.Perm.refl _) (w' := cardW k a z_7) (List.Perm.refl _) (k_rcv X hW (ci := 0) (q0 := 0) rfl rfl) rfl hl.1 rfl (Nat.le_of_ble_eq_true rfl) ⟨Nat.zero_le _, Nat.zero_le _⟩ dX0_poll_59 (fun H locs hW => ?_)
        refine lv_iload_n hx hb dX0_poll_62 rfl (lv_at hl 0 rfl) ?_
        refine lv_aload_n hx hb dX0_poll_63 rfl (lv_at hl 1 rfl) ?_
        refine k_get X hW inG0 rfl 0 (by decide) fl_X0_13 rfl 0 rfl (v := .ref (a 1)) rfl dX0_poll_64 ?_
        refine lv_iconst (v := nI 1) hx hb dX0_poll_67 (by decide +kernel) ?_
        refine k_iald X hW 1 rfl (j := 1) (v := z_7 1 1) rfl (by decide) (by decide) rfl dX0_poll_68 ?_
        refine lv_icmp_ge (tgt := 94) hx hb dX0_poll_69 (by decide) (fun c_9 => ?_) (fun c_9 => ?_)
        · refine lv_aload_n hx hb dX0_poll_94 rfl (lv_at hl 3 rfl) ?_
          refine lv_aload_n hx hb dX0_poll_95 rfl (lv_at hl 1 rfl) ?_
          obtain ⟨z_10, hz_10⟩ : ∃ zq, m_X0_rowLength_r z_7 = zq := ⟨_, rfl⟩
          have hM_11 := (c_X0_rowLength l D k a z_7 )
          rw [hz_10] at hM_11
          refine kVi (As := []) (rest := [.ref (a 7)]) X hW hM_11 yw_X0_rowLength lk_X0_131 ⟨Nat.le_of_ble_eq_true rfl, Nat.le_of_ble_eq_true rfl⟩ (wr := []) (List.Perm.refl _) (w' := cardW k a z_7) (List.Perm.refl _) (k_rcv X hW (ci := 0) (q0 := 0) rfl rfl) rfl hl.1 rfl (Nat.le_of_ble_eq_true rfl) ⟨Nat.zero_le _, Nat.zero_le _⟩ dX0_poll_96 (fun H locs hW => ?_)
          refine k_putN X hW inG3 rfl tyX3_ok nmX3 3 (by decide) fln_X0_96 rfl rfl 7 rfl rfl rfl (Nat.le_of_ble_eq_true rfl) dX0_poll_99 (w' := cardW k a (st2 z_7 6 (upd (z_7 6) 3 z_10))) rfl (fun H locs hW => ?_)
          refine lv_iload_n hx hb dX0_poll_102 rfl (lv_at hl 0 rfl) ?_
          exact hQ _ _ _ _ _ _ hW dX0_poll_103 (by subst hz_10; subst hz_7; subst hz_3; subst hz_1; rw [hr, m_pollrest_0_r, if_pos c_9]) (by subst hz_10; subst hz_7; subst hz_3; subst hz_1; rw [hu, m_pollrest_0_u1, if_pos c_9])
        · refine lv_aload_n hx hb dX0_poll_72 rfl (lv_at hl 3 rfl) ?_
          refine lv_aload_n hx hb dX0_poll_73 rfl (lv_at hl 1 rfl) ?_
          refine k_get X hW inG0 rfl 0 (by decide) fl_X0_13 rfl 0 rfl (v := .ref (a 1)) rfl dX0_poll_74 ?_
          refine lv_iconst (v := nI 2) hx hb dX0_poll_77 (by decide +kernel) ?_
          refine k_iald X hW 1 rfl (j := 2) (v := z_7 1 2) rfl (by decide) (by decide) rfl dX0_poll_78 ?_
          refine lv_iconst (v := nI 1) hx hb dX0_poll_79 (by decide +kernel) ?_
          refine lv_icmp_ne (tgt := 87) hx hb dX0_poll_80 (by decide) (fun c_12 => ?_) (fun c_12 => ?_)
          · refine lv_iconst (v := nI 0) hx hb dX0_poll_87 (by decide +kernel) ?_
            obtain ⟨z_13, hz_13⟩ : ∃ zq, m_X3_becomeIdle_q (z_7 6) (nI 0) = zq := ⟨_, rfl⟩
            have hM_14 := (c_X3_becomeIdle l D k (a 7) (z_7 6) (nI 0))
            rw [hz_13] at hM_14
            refine kNv (As := [.int (nI 0)]) (rest := []) X hW hM_14 yw_X3_becomeIdle lkn_X0_127 ⟨Nat.le_of_ble_eq_true rfl, Nat.le_of_ble_eq_true rfl⟩ (wr := [cO a z_7, cSe k a z_7, cQs k a, cFl k a z_7, cCa k a z_7, cHo k a z_7, cTa k a z_7, qC (a 8) (z_7 7), qC (a 9) (z_7 8)]) (w_idx (n := 10) [0, 1, 2, 3, 4, 5, 6, 8, 9, 7] rfl (by decide) rfl) (w' := cardW k a (st2 z_7 6 z_13)) (w_idx (n := 10) [0, 1, 2, 3, 4, 5, 6, 9, 7, 8] rfl (by decide) rfl) (k_rcv X hW (ci := 3) (q0 := 7) rfl rfl) rfl hl.1 rfl (Nat.le_of_ble_eq_true rfl) ⟨Nat.zero_le _, Nat.zero_le _⟩ dX0_poll_88 (fun H locs hW => ?_)
            refine lv_goto (tgt := 102) hx hb dX0_poll_91 (by decide) ?_
            refine lv_iload_n hx hb dX0_poll_102 rfl (lv_at hl 0 rfl) ?_
            exact hQ _ _ _ _ _ _ hW dX0_poll_103 (by subst hz_13; subst hz_7; subst hz_3; subst hz_1; rw [hr, m_pollrest_0_r, if_neg c_9, if_neg c_12]) (by subst hz_13; subst hz_7; subst hz_3; subst hz_1; rw [hu, m_pollrest_0_u1, if_neg c_9, if_neg c_12])
          · refine lv_iconst (v := nI 1) hx hb dX0_poll_83 (by decide +kernel) ?_
            refine lv_goto (tgt := 88) hx hb dX0_poll_84 (by decide) ?_
            obtain ⟨z_15, hz_15⟩ : ∃ zq, m_X3_becomeIdle_q (z_7 6) (nI 1) = zq := ⟨_, rfl⟩
            have hM_16 := (c_X3_becomeIdle l D k (a 7) (z_7 6) (nI 1))
            rw [hz_15] at hM_16
            refine kNv (As := [.int (nI 1)]) (rest := []) X hW hM_16 yw_X3_becomeIdle lkn_X0_127 ⟨Nat.le_of_ble_eq_true rfl, Nat.le_of_ble_eq_true rfl⟩ (wr := [cO a z_7, cSe k a z_7, cQs k a, cFl k a z_7, cCa k a z_7, cHo k a z_7, cTa k a z_7, qC (a 8) (z_7 7), qC (a 9) (z_7 8)]) (w_idx (n := 10) [0, 1, 2, 3, 4, 5, 6, 8, 9, 7] rfl (by decide) rfl) (w' := cardW k a (st2 z_7 6 z_15)) (w_idx (n := 10) [0, 1, 2, 3, 4, 5, 6, 9, 7, 8] rfl (by decide) rfl) (k_rcv X hW (ci := 3) (q0 := 7) rfl rfl) rfl hl.1 rfl (Nat.le_of_ble_eq_true rfl) ⟨Nat.zero_le _, Nat.zero_le _⟩ dX0_poll_88 (fun H locs hW => ?_)
            refine lv_goto (tgt := 102) hx hb dX0_poll_91 (by decide) ?_
            refine lv_iload_n hx hb dX0_poll_102 rfl (lv_at hl 0 rfl) ?_
            exact hQ _ _ _ _ _ _ hW dX0_poll_103 (by subst hz_15; subst hz_7; subst hz_3; subst hz_1; rw [hr, m_pollrest_0_r, if_neg c_9, if_pos c_12]) (by subst hz_15; subst hz_7; subst hz_3; subst hz_1; rw [hu, m_pollrest_0_u1, if_neg c_9, if_pos c_12])
      have lp : ∀ (r : Nat) (u' : CS) (t : Nat) (H : Heap) (locs : List Loc) (ls : Array Slot), t + r = tn (u 1 1) → u' 1 = u 1 → u' 0 = u 0 → (∀ x y, x = lp_poll_0 r u' → y = t + lp_pollN_0 r u' → m_X0_poll_r u = m_pollrest_0_r x y ∧ m_X0_poll_u u = m_pollrest_0_u1 x y) → KW D A s (cardW k a u') H locs → lv_has ls 4 [(3, .int (nI t)), (0, .ref (a 0)), (1, .int (z_1)), (2, .ref (a 7))] → W p l e (rmD 3) s m args below meth c H locs 0 0 Q (F0 m 24 ls []) := by
        intro r
        induction r with
        | zero =>
          intro u' t H locs ls htr hu1 hu0 hk hW hl
          refine lv_iload_n hx hb dX0_poll_24 rfl (lv_at hl 0 rfl) ?_
          refine lv_aload_n hx hb dX0_poll_25 rfl (lv_at hl 1 rfl) ?_
          refine k_get X hW inG0 rfl 0 (by decide) fl_X0_13 rfl 0 rfl (v := .ref (a 1)) rfl dX0_poll_26 ?_
          refine lv_iconst (v := nI 1) hx hb dX0_poll_29 (by decide +kernel) ?_
          refine k_iald X hW 1 rfl (j := 1) (v := u' 1 1) rfl (by decide) (by decide) rfl dX0_poll_30 ?_
          refine k_top (y := nI (tn (u 1 1))) (by rw [hu1]; exact hB) ?_
          refine lv_icmp_ge (tgt := 57) hx hb dX0_poll_31 (by decide) (fun c_17 => ?_) (fun c_17 => ?_)
          · have c_17 : tn (u 1 1) ≤ t := (nI_leI (a := tn (u 1 1)) (b := t) (by omega) (by omega)).mp c_17
            obtain ⟨hr, hu⟩ := hk u' t (rfl) (rfl)
            exact kx u' t _ _ _ hu1 hu0 hr hu hW (lv_sub hl [0, 1, 2, 3] rfl)
          · have c_17 : ¬ (tn (u 1 1) ≤ t) := fun h => c_17 ((nI_leI (a := tn (u 1 1)) (b := t) (by omega) (by omega)).mpr h)
            omega
        | succ r ih =>
          intro u' t H locs ls htr hu1 hu0 hk hW hl
          refine lv_iload_n hx hb dX0_poll_24 rfl (lv_at hl 0 rfl) ?_
          refine lv_aload_n hx hb dX0_poll_25 rfl (lv_at hl 1 rfl) ?_
          refine k_get X hW inG0 rfl 0 (by decide) fl_X0_13 rfl 0 rfl (v := .ref (a 1)) rfl dX0_poll_26 ?_
          refine lv_iconst (v := nI 1) hx hb dX0_poll_29 (by decide +kernel) ?_
          refine k_iald X hW 1 rfl (j := 1) (v := u' 1 1) rfl (by decide) (by decide) rfl dX0_poll_30 ?_
          refine k_top (y := nI (tn (u 1 1))) (by rw [hu1]; exact hB) ?_
          refine lv_icmp_ge (tgt := 57) hx hb dX0_poll_31 (by decide) (fun c_18 => ?_) (fun c_18 => ?_)
          · have c_18 : tn (u 1 1) ≤ t := (nI_leI (a := tn (u 1 1)) (b := t) (by omega) (by omega)).mp c_18
            omega
          · have c_18 : ¬ (tn (u 1 1) ≤ t) := fun h => c_18 ((nI_leI (a := tn (u 1 1)) (b := t) (by omega) (by omega)).mpr h)
            refine lv_aload_n hx hb dX0_poll_34 rfl (lv_at hl 1 rfl) ?_
            refine lv_aload_n hx hb dX0_poll_35 rfl (lv_at hl 3 rfl) ?_
            refine k_getN X hW inG3 rfl 6 (by decide) fln_X0_82 rfl 7 rfl (v := .int (u' 6 6)) rfl dX0_poll_36 ?_
            obtain ⟨z_19, hz_19⟩ : ∃ zq, m_X0_hasFrame_r u' (u' 6 6) = zq := ⟨_, rfl⟩
            have hM_20 := (c_X0_hasFrame l D k a u' (u' 6 6))
            rw [hz_19] at hM_20
            refine kVi (As := [.int (u' 6 6)]) (rest := []) X hW hM_20 yw_X0_hasFrame lk_X0_117 ⟨Nat.le_of_ble_eq_true rfl, Nat.le_of_ble_eq_true rfl⟩ (wr := [cSe k a u', cQs k a, cFl k a u', cCa k a u', cHo k a u', cTa k a u', qC (a 7) (u' 6), qC (a 8) (u' 7), qC (a 9) (u' 8)]) (w_idx (n := 10) [1, 2, 3, 4, 5, 6, 7, 8, 9, 0] rfl (by decide) rfl) (w' := cardW k a u') (w_idx (n := 10) [9, 0, 1, 2, 3, 4, 5, 6, 7, 8] rfl (by decide) rfl) (k_rcv X hW (ci := 0) (q0 := 0) rfl rfl) rfl hl.1 rfl (Nat.le_of_ble_eq_true rfl) ⟨Nat.zero_le _, Nat.zero_le _⟩ dX0_poll_39 (fun H locs hW => ?_)
            refine lv_if_eq (tgt := 57) hx hb dX0_poll_42 (by decide) (fun c_21 => ?_) (fun c_21 => ?_)
            · subst hz_19
              obtain ⟨hr, hu⟩ := hk u' t (by rw [lp_poll_0, if_pos c_21]) (by rw [lp_pollN_0, if_pos c_21]; rfl)
              exact kx u' t _ _ _ hu1 hu0 hr hu hW (lv_sub hl [0, 1, 2, 3] rfl)
            · obtain ⟨hi_22, hj_22⟩ := hf_n (CM_of hc hu0 hu1) (by rw [hz_19]; exact c_21)
              refine lv_aload_n hx hb dX0_poll_45 rfl (lv_at hl 1 rfl) ?_
              refine lv_aload_n hx hb dX0_poll_46 rfl (lv_at hl 3 rfl) ?_
              refine lv_iload_n hx hb dX0_poll_47 rfl (lv_at hl 2 rfl) ?_
              refine k_top (y := nI 0) (h_6) ?_
              obtain ⟨z_23, hz_23⟩ : ∃ zq, m_X0_takeOldest_u4 u' (u' 6) = zq := ⟨_, rfl⟩
              obtain ⟨z_24, hz_24⟩ : ∃ zq, m_X0_takeOldest_u5 u' (u' 6) = zq := ⟨_, rfl⟩
              obtain ⟨z_25, hz_25⟩ : ∃ zq, m_X0_takeOldest_q u' (u' 6) (nI 0) = zq := ⟨_, rfl⟩
              have hM_26 := (c_X0_takeOldest l D k a (a 7) u' (u' 6) (nI 0) (CM_of hc hu0 hu1) hi_22 hj_22)
              rw [hz_23, hz_24, hz_25] at hM_26
              refine kVv (As := [.ref (a 7), .int (nI 0)]) (rest := []) X hW hM_26 yw_X0_takeOldest lk_X0_120 ⟨Nat.le_of_ble_eq_true rfl, Nat.le_of_ble_eq_true rfl⟩ (wr := [cSe k a u', cQs k a, qC (a 8) (u' 7), qC (a 9) (u' 8)]) (w_idx (n := 10) [1, 2, 8, 9, 0, 3, 4, 5, 6, 7] rfl (by decide) rfl) (w' := cardW k a (st2 (st2 (st2 u' 4 z_23) 5 z_24) 6 z_25)) (w_idx (n := 10) [4, 0, 1, 5, 6, 7, 8, 9, 2, 3] rfl (by decide) rfl) (k_rcv X hW (ci := 0) (q0 := 0) rfl rfl) rfl hl.1 rfl (Nat.le_of_ble_eq_true rfl) ⟨Nat.zero_le _, Nat.zero_le _⟩ dX0_poll_48 (fun H locs hW => ?_)
              refine lv_iinc (v := nI (t + 1)) (lv' := [(3, .int (nI (t + 1))), (0, .ref (a 0)), (1, .int z_1), (2, .ref (a 7))]) hx hb dX0_poll_51 hl (k := 0) rfl (k_inc _) (by decide) rfl (fun ls hl => ?_)
              refine lv_goto (tgt := 24) hx hb dX0_poll_54 (by decide) ?_
              subst hz_25
              subst hz_24
              subst hz_23
              subst hz_19
              exact ih (m_take_0 u') (t + 1) _ _ _ (by omega) hu1 hu0 (fun x y hx hy => hk x y (by rw [hx, lp_poll_0, if_neg c_21]) (by rw [hy, lp_pollN_0, if_neg c_21, Nat.add_assoc])) hW (lv_sub hl [0, 1, 2, 3] rfl)
      exact lp (tn (u 1 1)) u 0 _ _ _ (by omega) rfl rfl (fun x y hx hy => by subst hx; subst hy; subst hz_3; subst hz_1; exact ⟨by rw [m_X0_poll_r, if_neg c_5, if_pos h_6], by rw [m_X0_poll_u, if_neg c_5, if_pos h_6]⟩) hW (lv_sub hl [0, 3, 2, 1] rfl)
    · have c_27 : ¬ z_1 = nI 0 := by rw [h_6]; decide +kernel
      refine k_top (y := nI 1) (h_6) ?_
      refine k_aald X hW 2 1 rfl rfl (j := 1) (b := a 8) rfl (by decide) (by decide) rfl dX0_poll_20 ?_
      refine lv_astore_n (lv' := [(2, .ref (a 8)), (1, .int z_1), (0, .ref (a 0))]) hx hb dX0_poll_21 rfl hl (by decide) rfl (fun ls hl => ?_)
      refine lv_iconst (v := nI 0) hx hb dX0_poll_22 (by decide +kernel) ?_
      refine lv_istore_n (lv' := [(3, .int (nI 0)), (2, .ref (a 8)), (1, .int z_1), (0, .ref (a 0))]) hx hb dX0_poll_23 rfl hl (by decide) rfl (fun ls hl => ?_)
      have hB := hc.2.2.1
      have hB16 := hc.2.2.2
      have kx : ∀ (u1 : CS) (t : Nat) (H : Heap) (locs : List Loc) (ls : Array Slot), u1 1 = u 1 → u1 0 = u 0 → m_X0_poll_r u = m_pollrest_1_r u1 t → m_X0_poll_u u = m_pollrest_1_u1 u1 t → KW D A s (cardW k a u1) H locs → lv_has ls 4 [(3, .int (nI t)), (0, .ref (a 0)), (1, .int (z_1)), (2, .ref (a 8))] → W p l e (rmD 3) s m args below meth c H locs 0 0 Q (F0 m 57 ls []) := by
        intro u1 t H locs ls hu1 hu0 hr hu hW hl
        refine lv_aload_n hx hb dX0_poll_57 rfl (lv_at hl 1 rfl) ?_
        refine lv_aload_n hx hb dX0_poll_58 rfl (lv_at hl 3 rfl) ?_
        obtain ⟨z_28, hz_28⟩ : ∃ zq, m_X0_leaveRow_1_u u1 = zq := ⟨_, rfl⟩
        have hcm_z_28 : CM z_28 := by rw [← hz_28]; exact CM_X0_leaveRow_1 (CM_of hc hu0 hu1)
        have hM_29 := (c_X0_leaveRow_1 l D k a u1 )
        rw [hz_28] at hM_29
        refine kVv (As := [.ref (a 8)]) (rest := []) X hW hM_29 yw_X0_leaveRow lk_X0_124 ⟨Nat.le_of_ble_eq_true rfl, Nat.le_of_ble_eq_true rfl⟩ (wr := []) (List.Perm.refl _) (w' := cardW k a z_28) (List.Perm.refl _) (k_rcv X hW (ci := 0) (q0 := 0) rfl rfl) rfl hl.1 rfl (Nat.le_of_ble_eq_true rfl) ⟨Nat.zero_le _, Nat.zero_le _⟩ dX0_poll_59 (fun H locs hW => ?_)
        refine lv_iload_n hx hb dX0_poll_62 rfl (lv_at hl 0 rfl) ?_
        refine lv_aload_n hx hb dX0_poll_63 rfl (lv_at hl 1 rfl) ?_
        refine k_get X hW inG0 rfl 0 (by decide) fl_X0_13 rfl 0 rfl (v := .ref (a 1)) rfl dX0_poll_64 ?_
        refine lv_iconst (v := nI 1) hx hb dX0_poll_67 (by decide +kernel) ?_
        refine k_iald X hW 1 rfl (j := 1) (v := z_28 1 1) rfl (by decide) (by decide) rfl dX0_poll_68 ?_
        refine lv_icmp_ge (tgt := 94) hx hb dX0_poll_69 (by decide) (fun c_30 => ?_) (fun c_30 => ?_)
        · refine lv_aload_n hx hb dX0_poll_94 rfl (lv_at hl 3 rfl) ?_
          refine lv_aload_n hx hb dX0_poll_95 rfl (lv_at hl 1 rfl) ?_
          obtain ⟨z_31, hz_31⟩ : ∃ zq, m_X0_rowLength_r z_28 = zq := ⟨_, rfl⟩
          have hM_32 := (c_X0_rowLength l D k a z_28 )
          rw [hz_31] at hM_32
          refine kVi (As := []) (rest := [.ref (a 8)]) X hW hM_32 yw_X0_rowLength lk_X0_131 ⟨Nat.le_of_ble_eq_true rfl, Nat.le_of_ble_eq_true rfl⟩ (wr := []) (List.Perm.refl _) (w' := cardW k a z_28) (List.Perm.refl _) (k_rcv X hW (ci := 0) (q0 := 0) rfl rfl) rfl hl.1 rfl (Nat.le_of_ble_eq_true rfl) ⟨Nat.zero_le _, Nat.zero_le _⟩ dX0_poll_96 (fun H locs hW => ?_)
          refine k_putN X hW inG3 rfl tyX3_ok nmX3 3 (by decide) fln_X0_96 rfl rfl 8 rfl rfl rfl (Nat.le_of_ble_eq_true rfl) dX0_poll_99 (w' := cardW k a (st2 z_28 7 (upd (z_28 7) 3 z_31))) rfl (fun H locs hW => ?_)
          refine lv_iload_n hx hb dX0_poll_102 rfl (lv_at hl 0 rfl) ?_
          exact hQ _ _ _ _ _ _ hW dX0_poll_103 (by subst hz_31; subst hz_28; subst hz_3; subst hz_1; rw [hr, m_pollrest_1_r, if_pos c_30]) (by subst hz_31; subst hz_28; subst hz_3; subst hz_1; rw [hu, m_pollrest_1_u1, if_pos c_30])
        · refine lv_aload_n hx hb dX0_poll_72 rfl (lv_at hl 3 rfl) ?_
          refine lv_aload_n hx hb dX0_poll_73 rfl (lv_at hl 1 rfl) ?_
          refine k_get X hW inG0 rfl 0 (by decide) fl_X0_13 rfl 0 rfl (v := .ref (a 1)) rfl dX0_poll_74 ?_
          refine lv_iconst (v := nI 2) hx hb dX0_poll_77 (by decide +kernel) ?_
          refine k_iald X hW 1 rfl (j := 2) (v := z_28 1 2) rfl (by decide) (by decide) rfl dX0_poll_78 ?_
          refine lv_iconst (v := nI 1) hx hb dX0_poll_79 (by decide +kernel) ?_
          refine lv_icmp_ne (tgt := 87) hx hb dX0_poll_80 (by decide) (fun c_33 => ?_) (fun c_33 => ?_)
          · refine lv_iconst (v := nI 0) hx hb dX0_poll_87 (by decide +kernel) ?_
            obtain ⟨z_34, hz_34⟩ : ∃ zq, m_X3_becomeIdle_q (z_28 7) (nI 0) = zq := ⟨_, rfl⟩
            have hM_35 := (c_X3_becomeIdle l D k (a 8) (z_28 7) (nI 0))
            rw [hz_34] at hM_35
            refine kNv (As := [.int (nI 0)]) (rest := []) X hW hM_35 yw_X3_becomeIdle lkn_X0_127 ⟨Nat.le_of_ble_eq_true rfl, Nat.le_of_ble_eq_true rfl⟩ (wr := [cO a z_28, cSe k a z_28, cQs k a, cFl k a z_28, cCa k a z_28, cHo k a z_28, cTa k a z_28, qC (a 7) (z_28 6), qC (a 9) (z_28 8)]) (w_idx (n := 10) [0, 1, 2, 3, 4, 5, 6, 7, 9, 8] rfl (by decide) rfl) (w' := cardW k a (st2 z_28 7 z_34)) (w_idx (n := 10) [0, 1, 2, 3, 4, 5, 6, 7, 9, 8] rfl (by decide) rfl) (k_rcv X hW (ci := 3) (q0 := 8) rfl rfl) rfl hl.1 rfl (Nat.le_of_ble_eq_true rfl) ⟨Nat.zero_le _, Nat.zero_le _⟩ dX0_poll_88 (fun H locs hW => ?_)
            refine lv_goto (tgt := 102) hx hb dX0_poll_91 (by decide) ?_
            refine lv_iload_n hx hb dX0_poll_102 rfl (lv_at hl 0 rfl) ?_
            exact hQ _ _ _ _ _ _ hW dX0_poll_103 (by subst hz_34; subst hz_28; subst hz_3; subst hz_1; rw [hr, m_pollrest_1_r, if_neg c_30, if_neg c_33]) (by subst hz_34; subst hz_28; subst hz_3; subst hz_1; rw [hu, m_pollrest_1_u1, if_neg c_30, if_neg c_33])
          · refine lv_iconst (v := nI 1) hx hb dX0_poll_83 (by decide +kernel) ?_
            refine lv_goto (tgt := 88) hx hb dX0_poll_84 (by decide) ?_
            obtain ⟨z_36, hz_36⟩ : ∃ zq, m_X3_becomeIdle_q (z_28 7) (nI 1) = zq := ⟨_, rfl⟩
            have hM_37 := (c_X3_becomeIdle l D k (a 8) (z_28 7) (nI 1))
            rw [hz_36] at hM_37
            refine kNv (As := [.int (nI 1)]) (rest := []) X hW hM_37 yw_X3_becomeIdle lkn_X0_127 ⟨Nat.le_of_ble_eq_true rfl, Nat.le_of_ble_eq_true rfl⟩ (wr := [cO a z_28, cSe k a z_28, cQs k a, cFl k a z_28, cCa k a z_28, cHo k a z_28, cTa k a z_28, qC (a 7) (z_28 6), qC (a 9) (z_28 8)]) (w_idx (n := 10) [0, 1, 2, 3, 4, 5, 6, 7, 9, 8] rfl (by decide) rfl) (w' := cardW k a (st2 z_28 7 z_36)) (w_idx (n := 10) [0, 1, 2, 3, 4, 5, 6, 7, 9, 8] rfl (by decide) rfl) (k_rcv X hW (ci := 3) (q0 := 8) rfl rfl) rfl hl.1 rfl (Nat.le_of_ble_eq_true rfl) ⟨Nat.zero_le _, Nat.zero_le _⟩ dX0_poll_88 (fun H locs hW => ?_)
            refine lv_goto (tgt := 102) hx hb dX0_poll_91 (by decide) ?_
            refine lv_iload_n hx hb dX0_poll_102 rfl (lv_at hl 0 rfl) ?_
            exact hQ _ _ _ _ _ _ hW dX0_poll_103 (by subst hz_36; subst hz_28; subst hz_3; subst hz_1; rw [hr, m_pollrest_1_r, if_neg c_30, if_pos c_33]) (by subst hz_36; subst hz_28; subst hz_3; subst hz_1; rw [hu, m_pollrest_1_u1, if_neg c_30, if_pos c_33])
      have lp : ∀ (r : Nat) (u' : CS) (t : Nat) (H : Heap) (locs : List Loc) (ls : Array Slot), t + r = tn (u 1 1) → u' 1 = u 1 → u' 0 = u 0 → (∀ x y, x = lp_poll_1 r u' → y = t + lp_pollN_1 r u' → m_X0_poll_r u = m_pollrest_1_r x y ∧ m_X0_poll_u u = m_pollrest_1_u1 x y) → KW D A s (cardW k a u') H locs → lv_has ls 4 [(3, .int (nI t)), (0, .ref (a 0)), (1, .int (z_1)), (2, .ref (a 8))] → W p l e (rmD 3) s m args below meth c H locs 0 0 Q (F0 m 24 ls []) := by
        intro r
        induction r with
        | zero =>
          intro u' t H locs ls htr hu1 hu0 hk hW hl
          refine lv_iload_n hx hb dX0_poll_24 rfl (lv_at hl 0 rfl) ?_
          refine lv_aload_n hx hb dX0_poll_25 rfl (lv_at hl 1 rfl) ?_
          refine k_get X hW inG0 rfl 0 (by decide) fl_X0_13 rfl 0 rfl (v := .ref (a 1)) rfl dX0_poll_26 ?_
          refine lv_iconst (v := nI 1) hx hb dX0_poll_29 (by decide +kernel) ?_
          refine k_iald X hW 1 rfl (j := 1) (v := u' 1 1) rfl (by decide) (by decide) rfl dX0_poll_30 ?_
          refine k_top (y := nI (tn (u 1 1))) (by rw [hu1]; exact hB) ?_
          refine lv_icmp_ge (tgt := 57) hx hb dX0_poll_31 (by decide) (fun c_38 => ?_) (fun c_38 => ?_)
          · have c_38 : tn (u 1 1) ≤ t := (nI_leI (a := tn (u 1 1)) (b := t) (by omega) (by omega)).mp c_38
            obtain ⟨hr, hu⟩ := hk u' t (rfl) (rfl)
            exact kx u' t _ _ _ hu1 hu0 hr hu hW (lv_sub hl [0, 1, 2, 3] rfl)
          · have c_38 : ¬ (tn (u 1 1) ≤ t) := fun h => c_38 ((nI_leI (a := tn (u 1 1)) (b := t) (by omega) (by omega)).mpr h)
            omega
        | succ r ih =>
          intro u' t H locs ls htr hu1 hu0 hk hW hl
          refine lv_iload_n hx hb dX0_poll_24 rfl (lv_at hl 0 rfl) ?_
          refine lv_aload_n hx hb dX0_poll_25 rfl (lv_at hl 1 rfl) ?_
          refine k_get X hW inG0 rfl 0 (by decide) fl_X0_13 rfl 0 rfl (v := .ref (a 1)) rfl dX0_poll_26 ?_
          refine lv_iconst (v := nI 1) hx hb dX0_poll_29 (by decide +kernel) ?_
          refine k_iald X hW 1 rfl (j := 1) (v := u' 1 1) rfl (by decide) (by decide) rfl dX0_poll_30 ?_
          refine k_top (y := nI (tn (u 1 1))) (by rw [hu1]; exact hB) ?_
          refine lv_icmp_ge (tgt := 57) hx hb dX0_poll_31 (by decide) (fun c_39 => ?_) (fun c_39 => ?_)
          · have c_39 : tn (u 1 1) ≤ t := (nI_leI (a := tn (u 1 1)) (b := t) (by omega) (by omega)).mp c_39
            omega
          · have c_39 : ¬ (tn (u 1 1) ≤ t) := fun h => c_39 ((nI_leI (a := tn (u 1 1)) (b := t) (by omega) (by omega)).mpr h)
            refine lv_aload_n hx hb dX0_poll_34 rfl (lv_at hl 1 rfl) ?_
            refine lv_aload_n hx hb dX0_poll_35 rfl (lv_at hl 3 rfl) ?_
            refine k_getN X hW inG3 rfl 6 (by decide) fln_X0_82 rfl 8 rfl (v := .int (u' 7 6)) rfl dX0_poll_36 ?_
            obtain ⟨z_40, hz_40⟩ : ∃ zq, m_X0_hasFrame_r u' (u' 7 6) = zq := ⟨_, rfl⟩
            have hM_41 := (c_X0_hasFrame l D k a u' (u' 7 6))
            rw [hz_40] at hM_41
            refine kVi (As := [.int (u' 7 6)]) (rest := []) X hW hM_41 yw_X0_hasFrame lk_X0_117 ⟨Nat.le_of_ble_eq_true rfl, Nat.le_of_ble_eq_true rfl⟩ (wr := [cSe k a u', cQs k a, cFl k a u', cCa k a u', cHo k a u', cTa k a u', qC (a 7) (u' 6), qC (a 8) (u' 7), qC (a 9) (u' 8)]) (w_idx (n := 10) [1, 2, 3, 4, 5, 6, 7, 8, 9, 0] rfl (by decide) rfl) (w' := cardW k a u') (w_idx (n := 10) [9, 0, 1, 2, 3, 4, 5, 6, 7, 8] rfl (by decide) rfl) (k_rcv X hW (ci := 0) (q0 := 0) rfl rfl) rfl hl.1 rfl (Nat.le_of_ble_eq_true rfl) ⟨Nat.zero_le _, Nat.zero_le _⟩ dX0_poll_39 (fun H locs hW => ?_)
            refine lv_if_eq (tgt := 57) hx hb dX0_poll_42 (by decide) (fun c_42 => ?_) (fun c_42 => ?_)
            · subst hz_40
              obtain ⟨hr, hu⟩ := hk u' t (by rw [lp_poll_1, if_pos c_42]) (by rw [lp_pollN_1, if_pos c_42]; rfl)
              exact kx u' t _ _ _ hu1 hu0 hr hu hW (lv_sub hl [0, 1, 2, 3] rfl)
            · obtain ⟨hi_43, hj_43⟩ := hf_n (CM_of hc hu0 hu1) (by rw [hz_40]; exact c_42)
              refine lv_aload_n hx hb dX0_poll_45 rfl (lv_at hl 1 rfl) ?_
              refine lv_aload_n hx hb dX0_poll_46 rfl (lv_at hl 3 rfl) ?_
              refine lv_iload_n hx hb dX0_poll_47 rfl (lv_at hl 2 rfl) ?_
              refine k_top (y := nI 1) (h_6) ?_
              obtain ⟨z_44, hz_44⟩ : ∃ zq, m_X0_takeOldest_u4 u' (u' 7) = zq := ⟨_, rfl⟩
              obtain ⟨z_45, hz_45⟩ : ∃ zq, m_X0_takeOldest_u5 u' (u' 7) = zq := ⟨_, rfl⟩
              obtain ⟨z_46, hz_46⟩ : ∃ zq, m_X0_takeOldest_q u' (u' 7) (nI 1) = zq := ⟨_, rfl⟩
              have hM_47 := (c_X0_takeOldest l D k a (a 8) u' (u' 7) (nI 1) (CM_of hc hu0 hu1) hi_43 hj_43)
              rw [hz_44, hz_45, hz_46] at hM_47
              refine kVv (As := [.ref (a 8), .int (nI 1)]) (rest := []) X hW hM_47 yw_X0_takeOldest lk_X0_120 ⟨Nat.le_of_ble_eq_true rfl, Nat.le_of_ble_eq_true rfl⟩ (wr := [cSe k a u', cQs k a, qC (a 7) (u' 6), qC (a 9) (u' 8)]) (w_idx (n := 10) [1, 2, 7, 9, 0, 3, 4, 5, 6, 8] rfl (by decide) rfl) (w' := cardW k a (st2 (st2 (st2 u' 4 z_44) 5 z_45) 7 z_46)) (w_idx (n := 10) [4, 0, 1, 5, 6, 7, 8, 2, 9, 3] rfl (by decide) rfl) (k_rcv X hW (ci := 0) (q0 := 0) rfl rfl) rfl hl.1 rfl (Nat.le_of_ble_eq_true rfl) ⟨Nat.zero_le _, Nat.zero_le _⟩ dX0_poll_48 (fun H locs hW => ?_)
              refine lv_iinc (v := nI (t + 1)) (lv' := [(3, .int (nI (t + 1))), (0, .ref (a 0)), (1, .int z_1), (2, .ref (a 8))]) hx hb dX0_poll_51 hl (k := 0) rfl (k_inc _) (by decide) rfl (fun ls hl => ?_)
              refine lv_goto (tgt := 24) hx hb dX0_poll_54 (by decide) ?_
              subst hz_46
              subst hz_45
              subst hz_44
              subst hz_40
              exact ih (m_take_1 u') (t + 1) _ _ _ (by omega) hu1 hu0 (fun x y hx hy => hk x y (by rw [hx, lp_poll_1, if_neg c_42]) (by rw [hy, lp_pollN_1, if_neg c_42, Nat.add_assoc])) hW (lv_sub hl [0, 1, 2, 3] rfl)
      exact lp (tn (u 1 1)) u 0 _ _ _ (by omega) rfl rfl (fun x y hx hy => by subst hx; subst hy; subst hz_3; subst hz_1; exact ⟨by rw [m_X0_poll_r, if_neg c_5, if_neg c_27, if_pos h_6], by rw [m_X0_poll_u, if_neg c_5, if_neg c_27, if_pos h_6]⟩) hW (lv_sub hl [0, 3, 2, 1] rfl)
    · have c_48 : ¬ z_1 = nI 0 := by rw [h_6]; decide +kernel
      have c_49 : ¬ z_1 = nI 1 := by rw [h_6]; decide +kernel
      refine k_top (y := nI 2) (h_6) ?_
      refine k_aald X hW 2 1 rfl rfl (j := 2) (b := a 9) rfl (by decide) (by decide) rfl dX0_poll_20 ?_
      refine lv_astore_n (lv' := [(2, .ref (a 9)), (1, .int z_1), (0, .ref (a 0))]) hx hb dX0_poll_21 rfl hl (by decide) rfl (fun ls hl => ?_)
      refine lv_iconst (v := nI 0) hx hb dX0_poll_22 (by decide +kernel) ?_
      refine lv_istore_n (lv' := [(3, .int (nI 0)), (2, .ref (a 9)), (1, .int z_1), (0, .ref (a 0))]) hx hb dX0_poll_23 rfl hl (by decide) rfl (fun ls hl => ?_)
      have hB := hc.2.2.1
      have hB16 := hc.2.2.2
      have kx : ∀ (u1 : CS) (t : Nat) (H : Heap) (locs : List Loc) (ls : Array Slot), u1 1 = u 1 → u1 0 = u 0 → m_X0_poll_r u = m_pollrest_2_r u1 t → m_X0_poll_u u = m_pollrest_2_u1 u1 t → KW D A s (cardW k a u1) H locs → lv_has ls 4 [(3, .int (nI t)), (0, .ref (a 0)), (1, .int (z_1)), (2, .ref (a 9))] → W p l e (rmD 3) s m args below meth c H locs 0 0 Q (F0 m 57 ls []) := by
        intro u1 t H locs ls hu1 hu0 hr hu hW hl
        refine lv_aload_n hx hb dX0_poll_57 rfl (lv_at hl 1 rfl) ?_
        refine lv_aload_n hx hb dX0_poll_58 rfl (lv_at hl 3 rfl) ?_
        obtain ⟨z_50, hz_50⟩ : ∃ zq, m_X0_leaveRow_2_u u1 = zq := ⟨_, rfl⟩
        have hcm_z_50 : CM z_50 := by rw [← hz_50]; exact CM_X0_leaveRow_2 (CM_of hc hu0 hu1)
        have hM_51 := (c_X0_leaveRow_2 l D k a u1 )
        rw [hz_50] at hM_51
        refine kVv (As := [.ref (a 9)]) (rest := []) X hW hM_51 yw_X0_leaveRow lk_X0_124 ⟨Nat.le_of_ble_eq_true rfl, Nat.le_of_ble_eq_true rfl⟩ (wr := []) (List.Perm.refl _) (w' := cardW k a z_50) (List.Perm.refl _) (k_rcv X hW (ci := 0) (q0 := 0) rfl rfl) rfl hl.1 rfl (Nat.le_of_ble_eq_true rfl) ⟨Nat.zero_le _, Nat.zero_le _⟩ dX0_poll_59 (fun H locs hW => ?_)
        refine lv_iload_n hx hb dX0_poll_62 rfl (lv_at hl 0 rfl) ?_
        refine lv_aload_n hx hb dX0_poll_63 rfl (lv_at hl 1 rfl) ?_
        refine k_get X hW inG0 rfl 0 (by decide) fl_X0_13 rfl 0 rfl (v := .ref (a 1)) rfl dX0_poll_64 ?_
        refine lv_iconst (v := nI 1) hx hb dX0_poll_67 (by decide +kernel) ?_
        refine k_iald X hW 1 rfl (j := 1) (v := z_50 1 1) rfl (by decide) (by decide) rfl dX0_poll_68 ?_
        refine lv_icmp_ge (tgt := 94) hx hb dX0_poll_69 (by decide) (fun c_52 => ?_) (fun c_52 => ?_)
        · refine lv_aload_n hx hb dX0_poll_94 rfl (lv_at hl 3 rfl) ?_
          refine lv_aload_n hx hb dX0_poll_95 rfl (lv_at hl 1 rfl) ?_
          obtain ⟨z_53, hz_53⟩ : ∃ zq, m_X0_rowLength_r z_50 = zq := ⟨_, rfl⟩
          have hM_54 := (c_X0_rowLength l D k a z_50 )
          rw [hz_53] at hM_54
          refine kVi (As := []) (rest := [.ref (a 9)]) X hW hM_54 yw_X0_rowLength lk_X0_131 ⟨Nat.le_of_ble_eq_true rfl, Nat.le_of_ble_eq_true rfl⟩ (wr := []) (List.Perm.refl _) (w' := cardW k a z_50) (List.Perm.refl _) (k_rcv X hW (ci := 0) (q0 := 0) rfl rfl) rfl hl.1 rfl (Nat.le_of_ble_eq_true rfl) ⟨Nat.zero_le _, Nat.zero_le _⟩ dX0_poll_96 (fun H locs hW => ?_)
          refine k_putN X hW inG3 rfl tyX3_ok nmX3 3 (by decide) fln_X0_96 rfl rfl 9 rfl rfl rfl (Nat.le_of_ble_eq_true rfl) dX0_poll_99 (w' := cardW k a (st2 z_50 8 (upd (z_50 8) 3 z_53))) rfl (fun H locs hW => ?_)
          refine lv_iload_n hx hb dX0_poll_102 rfl (lv_at hl 0 rfl) ?_
          exact hQ _ _ _ _ _ _ hW dX0_poll_103 (by subst hz_53; subst hz_50; subst hz_3; subst hz_1; rw [hr, m_pollrest_2_r, if_pos c_52]) (by subst hz_53; subst hz_50; subst hz_3; subst hz_1; rw [hu, m_pollrest_2_u1, if_pos c_52])
        · refine lv_aload_n hx hb dX0_poll_72 rfl (lv_at hl 3 rfl) ?_
          refine lv_aload_n hx hb dX0_poll_73 rfl (lv_at hl 1 rfl) ?_
          refine k_get X hW inG0 rfl 0 (by decide) fl_X0_13 rfl 0 rfl (v := .ref (a 1)) rfl dX0_poll_74 ?_
          refine lv_iconst (v := nI 2) hx hb dX0_poll_77 (by decide +kernel) ?_
          refine k_iald X hW 1 rfl (j := 2) (v := z_50 1 2) rfl (by decide) (by decide) rfl dX0_poll_78 ?_
          refine lv_iconst (v := nI 1) hx hb dX0_poll_79 (by decide +kernel) ?_
          refine lv_icmp_ne (tgt := 87) hx hb dX0_poll_80 (by decide) (fun c_55 => ?_) (fun c_55 => ?_)
          · refine lv_iconst (v := nI 0) hx hb dX0_poll_87 (by decide +kernel) ?_
            obtain ⟨z_56, hz_56⟩ : ∃ zq, m_X3_becomeIdle_q (z_50 8) (nI 0) = zq := ⟨_, rfl⟩
            have hM_57 := (c_X3_becomeIdle l D k (a 9) (z_50 8) (nI 0))
            rw [hz_56] at hM_57
            refine kNv (As := [.int (nI 0)]) (rest := []) X hW hM_57 yw_X3_becomeIdle lkn_X0_127 ⟨Nat.le_of_ble_eq_true rfl, Nat.le_of_ble_eq_true rfl⟩ (wr := [cO a z_50, cSe k a z_50, cQs k a, cFl k a z_50, cCa k a z_50, cHo k a z_50, cTa k a z_50, qC (a 7) (z_50 6), qC (a 8) (z_50 7)]) (w_idx (n := 10) [0, 1, 2, 3, 4, 5, 6, 7, 8, 9] rfl (by decide) rfl) (w' := cardW k a (st2 z_50 8 z_56)) (w_idx (n := 10) [0, 1, 2, 3, 4, 5, 6, 7, 8, 9] rfl (by decide) rfl) (k_rcv X hW (ci := 3) (q0 := 9) rfl rfl) rfl hl.1 rfl (Nat.le_of_ble_eq_true rfl) ⟨Nat.zero_le _, Nat.zero_le _⟩ dX0_poll_88 (fun H locs hW => ?_)
            refine lv_goto (tgt := 102) hx hb dX0_poll_91 (by decide) ?_
            refine lv_iload_n hx hb dX0_poll_102 rfl (lv_at hl 0 rfl) ?_
            exact hQ _ _ _ _ _ _ hW dX0_poll_103 (by subst hz_56; subst hz_50; subst hz_3; subst hz_1; rw [hr, m_pollrest_2_r, if_neg c_52, if_neg c_55]) (by subst hz_56; subst hz_50; subst hz_3; subst hz_1; rw [hu, m_pollrest_2_u1, if_neg c_52, if_neg c_55])
          · refine lv_iconst (v := nI 1) hx hb dX0_poll_83 (by decide +kernel) ?_
            refine lv_goto (tgt := 88) hx hb dX0_poll_84 (by decide) ?_
            obtain ⟨z_58, hz_58⟩ : ∃ zq, m_X3_becomeIdle_q (z_50 8) (nI 1) = zq := ⟨_, rfl⟩
            have hM_59 := (c_X3_becomeIdle l D k (a 9) (z_50 8) (nI 1))
            rw [hz_58] at hM_59
            refine kNv (As := [.int (nI 1)]) (rest := []) X hW hM_59 yw_X3_becomeIdle lkn_X0_127 ⟨Nat.le_of_ble_eq_true rfl, Nat.le_of_ble_eq_true rfl⟩ (wr := [cO a z_50, cSe k a z_50, cQs k a, cFl k a z_50, cCa k a z_50, cHo k a z_50, cTa k a z_50, qC (a 7) (z_50 6), qC (a 8) (z_50 7)]) (w_idx (n := 10) [0, 1, 2, 3, 4, 5, 6, 7, 8, 9] rfl (by decide) rfl) (w' := cardW k a (st2 z_50 8 z_58)) (w_idx (n := 10) [0, 1, 2, 3, 4, 5, 6, 7, 8, 9] rfl (by decide) rfl) (k_rcv X hW (ci := 3) (q0 := 9) rfl rfl) rfl hl.1 rfl (Nat.le_of_ble_eq_true rfl) ⟨Nat.zero_le _, Nat.zero_le _⟩ dX0_poll_88 (fun H locs hW => ?_)
            refine lv_goto (tgt := 102) hx hb dX0_poll_91 (by decide) ?_
            refine lv_iload_n hx hb dX0_poll_102 rfl (lv_at hl 0 rfl) ?_
            exact hQ _ _ _ _ _ _ hW dX0_poll_103 (by subst hz_58; subst hz_50; subst hz_3; subst hz_1; rw [hr, m_pollrest_2_r, if_neg c_52, if_pos c_55]) (by subst hz_58; subst hz_50; subst hz_3; subst hz_1; rw [hu, m_pollrest_2_u1, if_neg c_52, if_pos c_55])
      have lp : ∀ (r : Nat) (u' : CS) (t : Nat) (H : Heap) (locs : List Loc) (ls : Array Slot), t + r = tn (u 1 1) → u' 1 = u 1 → u' 0 = u 0 → (∀ x y, x = lp_poll_2 r u' → y = t + lp_pollN_2 r u' → m_X0_poll_r u = m_pollrest_2_r x y ∧ m_X0_poll_u u = m_pollrest_2_u1 x y) → KW D A s (cardW k a u') H locs → lv_has ls 4 [(3, .int (nI t)), (0, .ref (a 0)), (1, .int (z_1)), (2, .ref (a 9))] → W p l e (rmD 3) s m args below meth c H locs 0 0 Q (F0 m 24 ls []) := by
        intro r
        induction r with
        | zero =>
          intro u' t H locs ls htr hu1 hu0 hk hW hl
          refine lv_iload_n hx hb dX0_poll_24 rfl (lv_at hl 0 rfl) ?_
          refine lv_aload_n hx hb dX0_poll_25 rfl (lv_at hl 1 rfl) ?_
          refine k_get X hW inG0 rfl 0 (by decide) fl_X0_13 rfl 0 rfl (v := .ref (a 1)) rfl dX0_poll_26 ?_
          refine lv_iconst (v := nI 1) hx hb dX0_poll_29 (by decide +kernel) ?_
          refine k_iald X hW 1 rfl (j := 1) (v := u' 1 1) rfl (by decide) (by decide) rfl dX0_poll_30 ?_
          refine k_top (y := nI (tn (u 1 1))) (by rw [hu1]; exact hB) ?_
          refine lv_icmp_ge (tgt := 57) hx hb dX0_poll_31 (by decide) (fun c_60 => ?_) (fun c_60 => ?_)
          · have c_60 : tn (u 1 1) ≤ t := (nI_leI (a := tn (u 1 1)) (b := t) (by omega) (by omega)).mp c_60
            obtain ⟨hr, hu⟩ := hk u' t (rfl) (rfl)
            exact kx u' t _ _ _ hu1 hu0 hr hu hW (lv_sub hl [0, 1, 2, 3] rfl)
          · have c_60 : ¬ (tn (u 1 1) ≤ t) := fun h => c_60 ((nI_leI (a := tn (u 1 1)) (b := t) (by omega) (by omega)).mpr h)
            omega
        | succ r ih =>
          intro u' t H locs ls htr hu1 hu0 hk hW hl
          refine lv_iload_n hx hb dX0_poll_24 rfl (lv_at hl 0 rfl) ?_
          refine lv_aload_n hx hb dX0_poll_25 rfl (lv_at hl 1 rfl) ?_
          refine k_get X hW inG0 rfl 0 (by decide) fl_X0_13 rfl 0 rfl (v := .ref (a 1)) rfl dX0_poll_26 ?_
          refine lv_iconst (v := nI 1) hx hb dX0_poll_29 (by decide +kernel) ?_
          refine k_iald X hW 1 rfl (j := 1) (v := u' 1 1) rfl (by decide) (by decide) rfl dX0_poll_30 ?_
          refine k_top (y := nI (tn (u 1 1))) (by rw [hu1]; exact hB) ?_
          refine lv_icmp_ge (tgt := 57) hx hb dX0_poll_31 (by decide) (fun c_61 => ?_) (fun c_61 => ?_)
          · have c_61 : tn (u 1 1) ≤ t := (nI_leI (a := tn (u 1 1)) (b := t) (by omega) (by omega)).mp c_61
            omega
          · have c_61 : ¬ (tn (u 1 1) ≤ t) := fun h => c_61 ((nI_leI (a := tn (u 1 1)) (b := t) (by omega) (by omega)).mpr h)
            refine lv_aload_n hx hb dX0_poll_34 rfl (lv_at hl 1 rfl) ?_
            refine lv_aload_n hx hb dX0_poll_35 rfl (lv_at hl 3 rfl) ?_
            refine k_getN X hW inG3 rfl 6 (by decide) fln_X0_82 rfl 9 rfl (v := .int (u' 8 6)) rfl dX0_poll_36 ?_
            obtain ⟨z_62, hz_62⟩ : ∃ zq, m_X0_hasFrame_r u' (u' 8 6) = zq := ⟨_, rfl⟩
            have hM_63 := (c_X0_hasFrame l D k a u' (u' 8 6))
            rw [hz_62] at hM_63
            refine kVi (As := [.int (u' 8 6)]) (rest := []) X hW hM_63 yw_X0_hasFrame lk_X0_117 ⟨Nat.le_of_ble_eq_true rfl, Nat.le_of_ble_eq_true rfl⟩ (wr := [cSe k a u', cQs k a, cFl k a u', cCa k a u', cHo k a u', cTa k a u', qC (a 7) (u' 6), qC (a 8) (u' 7), qC (a 9) (u' 8)]) (w_idx (n := 10) [1, 2, 3, 4, 5, 6, 7, 8, 9, 0] rfl (by decide) rfl) (w' := cardW k a u') (w_idx (n := 10) [9, 0, 1, 2, 3, 4, 5, 6, 7, 8] rfl (by decide) rfl) (k_rcv X hW (ci := 0) (q0 := 0) rfl rfl) rfl hl.1 rfl (Nat.le_of_ble_eq_true rfl) ⟨Nat.zero_le _, Nat.zero_le _⟩ dX0_poll_39 (fun H locs hW => ?_)
            refine lv_if_eq (tgt := 57) hx hb dX0_poll_42 (by decide) (fun c_64 => ?_) (fun c_64 => ?_)
            · subst hz_62
              obtain ⟨hr, hu⟩ := hk u' t (by rw [lp_poll_2, if_pos c_64]) (by rw [lp_pollN_2, if_pos c_64]; rfl)
              exact kx u' t _ _ _ hu1 hu0 hr hu hW (lv_sub hl [0, 1, 2, 3] rfl)
            · obtain ⟨hi_65, hj_65⟩ := hf_n (CM_of hc hu0 hu1) (by rw [hz_62]; exact c_64)
              refine lv_aload_n hx hb dX0_poll_45 rfl (lv_at hl 1 rfl) ?_
              refine lv_aload_n hx hb dX0_poll_46 rfl (lv_at hl 3 rfl) ?_
              refine lv_iload_n hx hb dX0_poll_47 rfl (lv_at hl 2 rfl) ?_
              refine k_top (y := nI 2) (h_6) ?_
              obtain ⟨z_66, hz_66⟩ : ∃ zq, m_X0_takeOldest_u4 u' (u' 8) = zq := ⟨_, rfl⟩
              obtain ⟨z_67, hz_67⟩ : ∃ zq, m_X0_takeOldest_u5 u' (u' 8) = zq := ⟨_, rfl⟩
              obtain ⟨z_68, hz_68⟩ : ∃ zq, m_X0_takeOldest_q u' (u' 8) (nI 2) = zq := ⟨_, rfl⟩
              have hM_69 := (c_X0_takeOldest l D k a (a 9) u' (u' 8) (nI 2) (CM_of hc hu0 hu1) hi_65 hj_65)
              rw [hz_66, hz_67, hz_68] at hM_69
              refine kVv (As := [.ref (a 9), .int (nI 2)]) (rest := []) X hW hM_69 yw_X0_takeOldest lk_X0_120 ⟨Nat.le_of_ble_eq_true rfl, Nat.le_of_ble_eq_true rfl⟩ (wr := [cSe k a u', cQs k a, qC (a 7) (u' 6), qC (a 8) (u' 7)]) (w_idx (n := 10) [1, 2, 7, 8, 0, 3, 4, 5, 6, 9] rfl (by decide) rfl) (w' := cardW k a (st2 (st2 (st2 u' 4 z_66) 5 z_67) 8 z_68)) (w_idx (n := 10) [4, 0, 1, 5, 6, 7, 8, 2, 3, 9] rfl (by decide) rfl) (k_rcv X hW (ci := 0) (q0 := 0) rfl rfl) rfl hl.1 rfl (Nat.le_of_ble_eq_true rfl) ⟨Nat.zero_le _, Nat.zero_le _⟩ dX0_poll_48 (fun H locs hW => ?_)
              refine lv_iinc (v := nI (t + 1)) (lv' := [(3, .int (nI (t + 1))), (0, .ref (a 0)), (1, .int z_1), (2, .ref (a 9))]) hx hb dX0_poll_51 hl (k := 0) rfl (k_inc _) (by decide) rfl (fun ls hl => ?_)
              refine lv_goto (tgt := 24) hx hb dX0_poll_54 (by decide) ?_
              subst hz_68
              subst hz_67
              subst hz_66
              subst hz_62
              exact ih (m_take_2 u') (t + 1) _ _ _ (by omega) hu1 hu0 (fun x y hx hy => hk x y (by rw [hx, lp_poll_2, if_neg c_64]) (by rw [hy, lp_pollN_2, if_neg c_64, Nat.add_assoc])) hW (lv_sub hl [0, 1, 2, 3] rfl)
      exact lp (tn (u 1 1)) u 0 _ _ _ (by omega) rfl rfl (fun x y hx hy => by subst hx; subst hy; subst hz_3; subst hz_1; exact ⟨by rw [m_X0_poll_r, if_neg c_5, if_neg c_48, if_neg c_49], by rw [m_X0_poll_u, if_neg c_5, if_neg c_48, if_neg c_49]⟩) hW (lv_sub hl [0, 3, 2, 1] rfl)
  · refine lv_iconst (v := nI 0) hx hb dX0_poll_13 (by decide +kernel) ?_
    exact hQ _ _ _ _ _ _ hW dX0_poll_14 (by subst hz_3; subst hz_1; rw [m_X0_poll_r, if_pos c_5]) (by subst hz_3; subst hz_1; rw [m_X0_poll_u, if_pos c_5])
set_option maxHeartbeats 4000000 in
theorem CM_pollrest_0 {u1 : CS} {t : Nat} (h : CM u1) : CM (m_pollrest_0_u1 u1 t) := by
  rw [m_pollrest_0_u1]
  split
  · exact (CM_stc (CM_X0_leaveRow_0 h) (by decide) (by decide))
  · split
    · exact (CM_stc (CM_X0_leaveRow_0 h) (by decide) (by decide))
    · exact (CM_stc (CM_X0_leaveRow_0 h) (by decide) (by decide))
set_option maxHeartbeats 4000000 in
theorem CM_pollrest_1 {u1 : CS} {t : Nat} (h : CM u1) : CM (m_pollrest_1_u1 u1 t) := by
  rw [m_pollrest_1_u1]
  split
  · exact (CM_stc (CM_X0_leaveRow_1 h) (by decide) (by decide))
  · split
    · exact (CM_stc (CM_X0_leaveRow_1 h) (by decide) (by decide))
    · exact (CM_stc (CM_X0_leaveRow_1 h) (by decide) (by decide))
set_option maxHeartbeats 4000000 in
theorem CM_pollrest_2 {u1 : CS} {t : Nat} (h : CM u1) : CM (m_pollrest_2_u1 u1 t) := by
  rw [m_pollrest_2_u1]
  split
  · exact (CM_stc (CM_X0_leaveRow_2 h) (by decide) (by decide))
  · split
    · exact (CM_stc (CM_X0_leaveRow_2 h) (by decide) (by decide))
    · exact (CM_stc (CM_X0_leaveRow_2 h) (by decide) (by decide))
set_option maxHeartbeats 4000000 in
theorem CM_X0_poll {u : CS} (h : CM u) : CM (m_X0_poll_u u) := by
  have h0 := CM_pollrest_0 (t := 0 + lp_pollN_0 (tn (u 1 1)) u) (CM_of h (lp_poll_0_01 (tn (u 1 1)) u).1 (lp_poll_0_01 (tn (u 1 1)) u).2)
  have h1 := CM_pollrest_1 (t := 0 + lp_pollN_1 (tn (u 1 1)) u) (CM_of h (lp_poll_1_01 (tn (u 1 1)) u).1 (lp_poll_1_01 (tn (u 1 1)) u).2)
  have h2 := CM_pollrest_2 (t := 0 + lp_pollN_2 (tn (u 1 1)) u) (CM_of h (lp_poll_2_01 (tn (u 1 1)) u).1 (lp_poll_2_01 (tn (u 1 1)) u).2)
  rw [m_X0_poll_u]
  split
  · exact h
  · split
    · exact h0
    · split
      · exact h1
      · exact h2
