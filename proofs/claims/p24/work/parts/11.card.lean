def m_X4_isQueue_r (x : Int32) : Int32 := if x < 0 then nI 0 else if nI 3 ≤ x then nI 0 else nI 1
set_option maxHeartbeats 4000000 in
set_option maxRecDepth 100000 in
theorem c_X4_isQueue (l : Launch) (D : va_G) (k : Nat → ClassId)   (x : Int32)  : mI l yX4_isQueue (wsY yX4_isQueue cX4_isQueue 1 (some .boolean)) 0 D k [.int x] [] [] (m_X4_isQueue_r x) := by
  refine mI_intro rfl (Nat.le_of_ble_eq_true rfl) (Or.inr ⟨rfl, by rw [m_X4_isQueue_r]; exact (nb_ite rfl (nb_ite rfl rfl))⟩) ?_
  intro p e s m args below meth c A Q ls X hW hl hQ
  have hx := X.hx
  have hb := X.hb
  have hl : lv_has ls 1 [(0, .int x)] := hl
  refine lv_iload_n hx hb dX4_isQueue_0 rfl (lv_at hl 0 rfl) ?_
  refine lv_if_lt (tgt := 13) hx hb dX4_isQueue_1 (by decide) (fun c_1 => ?_) (fun c_1 => ?_)
  · refine lv_iconst (v := nI 0) hx hb dX4_isQueue_13 (by decide +kernel) ?_
    exact hQ _ _ _ _ _ _ hW dX4_isQueue_14 (by rw [m_X4_isQueue_r, if_pos c_1]) rfl
  · refine lv_iload_n hx hb dX4_isQueue_4 rfl (lv_at hl 0 rfl) ?_
    refine lv_iconst (v := nI 3) hx hb dX4_isQueue_5 (by decide +kernel) ?_
    refine lv_icmp_ge (tgt := 13) hx hb dX4_isQueue_6 (by decide) (fun c_2 => ?_) (fun c_2 => ?_)
    · refine lv_iconst (v := nI 0) hx hb dX4_isQueue_13 (by decide +kernel) ?_
      exact hQ _ _ _ _ _ _ hW dX4_isQueue_14 (by rw [m_X4_isQueue_r, if_neg c_1, if_pos c_2]) rfl
    · refine lv_iconst (v := nI 1) hx hb dX4_isQueue_9 (by decide +kernel) ?_
      refine lv_goto (tgt := 14) hx hb dX4_isQueue_10 (by decide) ?_
      exact hQ _ _ _ _ _ _ hW dX4_isQueue_14 (by rw [m_X4_isQueue_r, if_neg c_1, if_neg c_2]) rfl
theorem isq3 {x : Int32} (h : ¬ m_X4_isQueue_r x = 0) : x = nI 0 ∨ x = nI 1 ∨ x = nI 2 := by
  unfold m_X4_isQueue_r at h
  by_cases h0 : x < 0
  · rw [if_pos h0] at h; exact absurd rfl h
  · rw [if_neg h0] at h
    by_cases h1 : nI 3 ≤ x
    · rw [if_pos h1] at h; exact absurd rfl h
    · obtain ⟨j, hj, rfl⟩ := nI_of h0
      have hj3 : j < 3 := Nat.lt_of_not_le (fun q => h1 (nI_le q hj))
      rcases (by omega : j = 0 ∨ j = 1 ∨ j = 2) with rfl | rfl | rfl
      · exact Or.inl rfl
      · exact Or.inr (Or.inl rfl)
      · exact Or.inr (Or.inr rfl)
def m_X0_hasFrame_r (u : CS) (x : Int32) : Int32 := if x < 0 then nI 0 else if u 0 3 ≤ x then nI 0 else nI 1
set_option maxHeartbeats 4000000 in
set_option maxRecDepth 100000 in
theorem c_X0_hasFrame (l : Launch) (D : va_G) (k : Nat → ClassId) (a : Nat → Nat) (u : CS) (x : Int32)  : mI l yX0_hasFrame (wsY yX0_hasFrame cX0_hasFrame 2 (some .boolean)) 0 D k [.ref (a 0), .int x] [cO a u] [cO a u] (m_X0_hasFrame_r u x) := by
  refine mI_intro rfl (Nat.le_of_ble_eq_true rfl) (Or.inr ⟨rfl, by rw [m_X0_hasFrame_r]; exact (nb_ite rfl (nb_ite rfl rfl))⟩) ?_
  intro p e s m args below meth c A Q ls X hW hl hQ
  have hx := X.hx
  have hb := X.hb
  have hl : lv_has ls 2 [(0, .ref (a 0)), (1, .int x)] := hl
  refine lv_iload_n hx hb dX0_hasFrame_0 rfl (lv_at hl 1 rfl) ?_
  refine lv_if_lt (tgt := 16) hx hb dX0_hasFrame_1 (by decide) (fun c_1 => ?_) (fun c_1 => ?_)
  · refine lv_iconst (v := nI 0) hx hb dX0_hasFrame_16 (by decide +kernel) ?_
    exact hQ _ _ _ _ _ _ hW dX0_hasFrame_17 (by rw [m_X0_hasFrame_r, if_pos c_1]) rfl
  · refine lv_iload_n hx hb dX0_hasFrame_4 rfl (lv_at hl 1 rfl) ?_
    refine lv_aload_n hx hb dX0_hasFrame_5 rfl (lv_at hl 0 rfl) ?_
    refine k_get X hW inG0 rfl 3 (by decide) fl_X0_28 rfl 0 rfl (v := .int (u 0 3)) rfl dX0_hasFrame_6 ?_
    refine lv_icmp_ge (tgt := 16) hx hb dX0_hasFrame_9 (by decide) (fun c_2 => ?_) (fun c_2 => ?_)
    · refine lv_iconst (v := nI 0) hx hb dX0_hasFrame_16 (by decide +kernel) ?_
      exact hQ _ _ _ _ _ _ hW dX0_hasFrame_17 (by rw [m_X0_hasFrame_r, if_neg c_1, if_pos c_2]) rfl
    · refine lv_iconst (v := nI 1) hx hb dX0_hasFrame_12 (by decide +kernel) ?_
      refine lv_goto (tgt := 17) hx hb dX0_hasFrame_13 (by decide) ?_
      exact hQ _ _ _ _ _ _ hW dX0_hasFrame_17 (by rw [m_X0_hasFrame_r, if_neg c_1, if_neg c_2]) rfl
def m_X0_rowLength_r (u : CS) : Int32 := if (m_X3_isCalled_r (u 6)) = 0 then (if (m_X3_isCalled_r (u 7)) = 0 then (if (m_X3_isCalled_r (u 8)) = 0 then nI 0 else nI 1) else if (m_X3_isCalled_r (u 8)) = 0 then nI 1 else nI 2) else if (m_X3_isCalled_r (u 7)) = 0 then (if (m_X3_isCalled_r (u 8)) = 0 then nI 1 else nI 2) else if (m_X3_isCalled_r (u 8)) = 0 then nI 2 else nI 3
set_option maxHeartbeats 4000000 in
set_option maxRecDepth 100000 in
theorem c_X0_rowLength (l : Launch) (D : va_G) (k : Nat → ClassId) (a : Nat → Nat) (u : CS)   : mI l yX0_rowLength (wsY yX0_rowLength cX0_rowLength 6 (some .int)) 1 D k [.ref (a 0)] (cardW k a u) (cardW k a u) (m_X0_rowLength_r u) := by
  refine mI_intro rfl (Nat.le_of_ble_eq_true rfl) (Or.inl rfl) ?_
  intro p e s m args below meth c A Q ls X hW hl hQ
  have hx := X.hx
  have hb := X.hb
  have hl : lv_has ls 6 [(0, .ref (a 0))] := hl
  refine lv_iconst (v := nI 0) hx hb dX0_rowLength_0 (by decide +kernel) ?_
  refine lv_istore_n (lv' := [(1, .int (nI 0)), (0, .ref (a 0))]) hx hb dX0_rowLength_1 rfl hl (by decide) rfl (fun ls hl => ?_)
  refine lv_aload_n hx hb dX0_rowLength_2 rfl (lv_at hl 1 rfl) ?_
  refine k_get X hW inG0 rfl 1 (by decide) fl_X0_20 rfl 0 rfl (v := .ref (a 2)) rfl dX0_rowLength_3 ?_
  refine lv_astore_n (lv' := [(2, .ref (a 2)), (1, .int (nI 0)), (0, .ref (a 0))]) hx hb dX0_rowLength_6 rfl hl (by decide) rfl (fun ls hl => ?_)
  refine lv_aload_n hx hb dX0_rowLength_7 rfl (lv_at hl 0 rfl) ?_
  refine k_alen X hW 2 1 rfl rfl (v := nI 3) rfl dX0_rowLength_8 ?_
  refine lv_istore_n (lv' := [(3, .int (nI 3)), (2, .ref (a 2)), (1, .int (nI 0)), (0, .ref (a 0))]) hx hb dX0_rowLength_9 rfl hl (by decide) rfl (fun ls hl => ?_)
  refine lv_iconst (v := nI 0) hx hb dX0_rowLength_10 (by decide +kernel) ?_
  refine lv_istore (lv' := [(4, .int (nI 0)), (3, .int (nI 3)), (2, .ref (a 2)), (1, .int (nI 0)), (0, .ref (a 0))]) hx hb dX0_rowLength_11 hl (by decide) rfl (fun ls hl => ?_)
  refine lv_iload hx hb dX0_rowLength_13 (lv_at hl 0 rfl) ?_
  refine lv_iload_n hx hb dX0_rowLength_15 rfl (lv_at hl 1 rfl) ?_
  refine lv_icmp_ge (tgt := 47) hx hb dX0_rowLength_16 (by decide) (fun c => absurd c (by decide +kernel)) (fun _ => ?_)
  refine lv_aload_n hx hb dX0_rowLength_19 rfl (lv_at hl 2 rfl) ?_
  refine lv_iload hx hb dX0_rowLength_20 (lv_at hl 0 rfl) ?_
  refine k_aald X hW 2 1 rfl rfl (j := 0) (b := a 7) rfl (by decide) (by decide) rfl dX0_rowLength_22 ?_
  refine lv_astore (lv' := [(5, .ref (a 7)), (4, .int (nI 0)), (3, .int (nI 3)), (2, .ref (a 2)), (1, .int (nI 0)), (0, .ref (a 0))]) hx hb dX0_rowLength_23 hl (by decide) rfl (fun ls hl => ?_)
  refine lv_iload_n hx hb dX0_rowLength_25 rfl (lv_at hl 4 rfl) ?_
  refine lv_aload hx hb dX0_rowLength_26 (lv_at hl 0 rfl) ?_
  obtain ⟨z_2, hz_2⟩ : ∃ zq, m_X3_isCalled_r (u 6) = zq := ⟨_, rfl⟩
  have hM_3 := (c_X3_isCalled l D k (a 7) (u 6) )
  rw [hz_2] at hM_3
  refine kNi (As := []) (rest := [.int (nI 0)]) X hW hM_3 yw_X3_isCalled lkn_X0_89 ⟨Nat.le_of_ble_eq_true rfl, Nat.le_of_ble_eq_true rfl⟩ (wr := [cO a u, cSe k a u, cQs k a, cFl k a u, cCa k a u, cHo k a u, cTa k a u, qC (a 8) (u 7), qC (a 9) (u 8)]) (w_idx (n := 10) [0, 1, 2, 3, 4, 5, 6, 8, 9, 7] rfl (by decide) rfl) (w' := cardW k a u) (w_idx (n := 10) [0, 1, 2, 3, 4, 5, 6, 9, 7, 8] rfl (by decide) rfl) (k_rcv X hW (ci := 3) (q0 := 7) rfl rfl) rfl hl.1 rfl (Nat.le_of_ble_eq_true rfl) ⟨Nat.zero_le _, Nat.zero_le _⟩ dX0_rowLength_28 (fun H locs hW => ?_)
  refine lv_if_eq (tgt := 38) hx hb dX0_rowLength_31 (by decide) (fun c_4 => ?_) (fun c_4 => ?_)
  · refine lv_iconst (v := nI 0) hx hb dX0_rowLength_38 (by decide +kernel) ?_
    refine lv_iadd hx hb dX0_rowLength_39 ?_
    refine k_top (y := nI 0) (by decide +kernel) ?_
    refine lv_istore_n (lv' := [(1, .int (nI 0)), (5, .ref (a 7)), (4, .int (nI 0)), (3, .int (nI 3)), (2, .ref (a 2)), (0, .ref (a 0))]) hx hb dX0_rowLength_40 rfl hl (by decide) rfl (fun ls hl => ?_)
    refine lv_iinc (v := nI 1) (lv' := [(4, .int (nI 1)), (1, .int (nI 0)), (5, .ref (a 7)), (3, .int (nI 3)), (2, .ref (a 2)), (0, .ref (a 0))]) hx hb dX0_rowLength_41 hl (k := 2) rfl (k_inc _) (by decide) rfl (fun ls hl => ?_)
    refine lv_goto (tgt := 13) hx hb dX0_rowLength_44 (by decide) ?_
    refine lv_iload hx hb dX0_rowLength_13 (lv_at hl 0 rfl) ?_
    refine lv_iload_n hx hb dX0_rowLength_15 rfl (lv_at hl 3 rfl) ?_
    refine lv_icmp_ge (tgt := 47) hx hb dX0_rowLength_16 (by decide) (fun c => absurd c (by decide +kernel)) (fun _ => ?_)
    refine lv_aload_n hx hb dX0_rowLength_19 rfl (lv_at hl 4 rfl) ?_
    refine lv_iload hx hb dX0_rowLength_20 (lv_at hl 0 rfl) ?_
    refine k_aald X hW 2 1 rfl rfl (j := 1) (b := a 8) rfl (by decide) (by decide) rfl dX0_rowLength_22 ?_
    refine lv_astore (lv' := [(5, .ref (a 8)), (4, .int (nI 1)), (1, .int (nI 0)), (3, .int (nI 3)), (2, .ref (a 2)), (0, .ref (a 0))]) hx hb dX0_rowLength_23 hl (by decide) rfl (fun ls hl => ?_)
    refine lv_iload_n hx hb dX0_rowLength_25 rfl (lv_at hl 2 rfl) ?_
    refine lv_aload hx hb dX0_rowLength_26 (lv_at hl 0 rfl) ?_
    obtain ⟨z_6, hz_6⟩ : ∃ zq, m_X3_isCalled_r (u 7) = zq := ⟨_, rfl⟩
    have hM_7 := (c_X3_isCalled l D k (a 8) (u 7) )
    rw [hz_6] at hM_7
    refine kNi (As := []) (rest := [.int (nI 0)]) X hW hM_7 yw_X3_isCalled lkn_X0_89 ⟨Nat.le_of_ble_eq_true rfl, Nat.le_of_ble_eq_true rfl⟩ (wr := [cO a u, cSe k a u, cQs k a, cFl k a u, cCa k a u, cHo k a u, cTa k a u, qC (a 7) (u 6), qC (a 9) (u 8)]) (w_idx (n := 10) [0, 1, 2, 3, 4, 5, 6, 7, 9, 8] rfl (by decide) rfl) (w' := cardW k a u) (w_idx (n := 10) [0, 1, 2, 3, 4, 5, 6, 7, 9, 8] rfl (by decide) rfl) (k_rcv X hW (ci := 3) (q0 := 8) rfl rfl) rfl hl.1 rfl (Nat.le_of_ble_eq_true rfl) ⟨Nat.zero_le _, Nat.zero_le _⟩ dX0_rowLength_28 (fun H locs hW => ?_)
    refine lv_if_eq (tgt := 38) hx hb dX0_rowLength_31 (by decide) (fun c_8 => ?_) (fun c_8 => ?_)
    · refine lv_iconst (v := nI 0) hx hb dX0_rowLength_38 (by decide +kernel) ?_
      refine lv_iadd hx hb dX0_rowLength_39 ?_
      refine k_top (y := nI 0) (by decide +kernel) ?_
      refine lv_istore_n (lv' := [(1, .int (nI 0)), (5, .ref (a 8)), (4, .int (nI 1)), (3, .int (nI 3)), (2, .ref (a 2)), (0, .ref (a 0))]) hx hb dX0_rowLength_40 rfl hl (by decide) rfl (fun ls hl => ?_)
      refine lv_iinc (v := nI 2) (lv' := [(4, .int (nI 2)), (1, .int (nI 0)), (5, .ref (a 8)), (3, .int (nI 3)), (2, .ref (a 2)), (0, .ref (a 0))]) hx hb dX0_rowLength_41 hl (k := 2) rfl (k_inc _) (by decide) rfl (fun ls hl => ?_)
      refine lv_goto (tgt := 13) hx hb dX0_rowLength_44 (by decide) ?_
      refine lv_iload hx hb dX0_rowLength_13 (lv_at hl 0 rfl) ?_
      refine lv_iload_n hx hb dX0_rowLength_15 rfl (lv_at hl 3 rfl) ?_
      refine lv_icmp_ge (tgt := 47) hx hb dX0_rowLength_16 (by decide) (fun c => absurd c (by decide +kernel)) (fun _ => ?_)
      refine lv_aload_n hx hb dX0_rowLength_19 rfl (lv_at hl 4 rfl) ?_
      refine lv_iload hx hb dX0_rowLength_20 (lv_at hl 0 rfl) ?_
      refine k_aald X hW 2 1 rfl rfl (j := 2) (b := a 9) rfl (by decide) (by decide) rfl dX0_rowLength_22 ?_
      refine lv_astore (lv' := [(5, .ref (a 9)), (4, .int (nI 2)), (1, .int (nI 0)), (3, .int (nI 3)), (2, .ref (a 2)), (0, .ref (a 0))]) hx hb dX0_rowLength_23 hl (by decide) rfl (fun ls hl => ?_)
      refine lv_iload_n hx hb dX0_rowLength_25 rfl (lv_at hl 2 rfl) ?_
      refine lv_aload hx hb dX0_rowLength_26 (lv_at hl 0 rfl) ?_
      obtain ⟨z_10, hz_10⟩ : ∃ zq, m_X3_isCalled_r (u 8) = zq := ⟨_, rfl⟩
      have hM_11 := (c_X3_isCalled l D k (a 9) (u 8) )
      rw [hz_10] at hM_11
      refine kNi (As := []) (rest := [.int (nI 0)]) X hW hM_11 yw_X3_isCalled lkn_X0_89 ⟨Nat.le_of_ble_eq_true rfl, Nat.le_of_ble_eq_true rfl⟩ (wr := [cO a u, cSe k a u, cQs k a, cFl k a u, cCa k a u, cHo k a u, cTa k a u, qC (a 7) (u 6), qC (a 8) (u 7)]) (w_idx (n := 10) [0, 1, 2, 3, 4, 5, 6, 7, 8, 9] rfl (by decide) rfl) (w' := cardW k a u) (w_idx (n := 10) [0, 1, 2, 3, 4, 5, 6, 7, 8, 9] rfl (by decide) rfl) (k_rcv X hW (ci := 3) (q0 := 9) rfl rfl) rfl hl.1 rfl (Nat.le_of_ble_eq_true rfl) ⟨Nat.zero_le _, Nat.zero_le _⟩ dX0_rowLength_28 (fun H locs hW => ?_)
      refine lv_if_eq (tgt := 38) hx hb dX0_rowLength_31 (by decide) (fun c_12 => ?_) (fun c_12 => ?_)
      · refine lv_iconst (v := nI 0) hx hb dX0_rowLength_38 (by decide +kernel) ?_
        refine lv_iadd hx hb dX0_rowLength_39 ?_
        refine k_top (y := nI 0) (by decide +kernel) ?_
        refine lv_istore_n (lv' := [(1, .int (nI 0)), (5, .ref (a 9)), (4, .int (nI 2)), (3, .int (nI 3)), (2, .ref (a 2)), (0, .ref (a 0))]) hx hb dX0_rowLength_40 rfl hl (by decide) rfl (fun ls hl => ?_)
        refine lv_iinc (v := nI 3) (lv' := [(4, .int (nI 3)), (1, .int (nI 0)), (5, .ref (a 9)), (3, .int (nI 3)), (2, .ref (a 2)), (0, .ref (a 0))]) hx hb dX0_rowLength_41 hl (k := 2) rfl (k_inc _) (by decide) rfl (fun ls hl => ?_)
        refine lv_goto (tgt := 13) hx hb dX0_rowLength_44 (by decide) ?_
        refine lv_iload hx hb dX0_rowLength_13 (lv_at hl 0 rfl) ?_
        refine lv_iload_n hx hb dX0_rowLength_15 rfl (lv_at hl 3 rfl) ?_
        refine lv_icmp_ge (tgt := 47) hx hb dX0_rowLength_16 (by decide) (fun _ => ?_) (fun c => absurd (by decide +kernel) c)
        refine lv_iload_n hx hb dX0_rowLength_47 rfl (lv_at hl 1 rfl) ?_
        exact hQ _ _ _ _ _ _ hW dX0_rowLength_48 (by subst hz_10; subst hz_6; subst hz_2; rw [m_X0_rowLength_r, if_pos c_4, if_pos c_8, if_pos c_12]) rfl
      · refine lv_iconst (v := nI 1) hx hb dX0_rowLength_34 (by decide +kernel) ?_
        refine lv_goto (tgt := 39) hx hb dX0_rowLength_35 (by decide) ?_
        refine lv_iadd hx hb dX0_rowLength_39 ?_
        refine k_top (y := nI 1) (by decide +kernel) ?_
        refine lv_istore_n (lv' := [(1, .int (nI 1)), (5, .ref (a 9)), (4, .int (nI 2)), (3, .int (nI 3)), (2, .ref (a 2)), (0, .ref (a 0))]) hx hb dX0_rowLength_40 rfl hl (by decide) rfl (fun ls hl => ?_)
        refine lv_iinc (v := nI 3) (lv' := [(4, .int (nI 3)), (1, .int (nI 1)), (5, .ref (a 9)), (3, .int (nI 3)), (2, .ref (a 2)), (0, .ref (a 0))]) hx hb dX0_rowLength_41 hl (k := 2) rfl (k_inc _) (by decide) rfl (fun ls hl => ?_)
        refine lv_goto (tgt := 13) hx hb dX0_rowLength_44 (by decide) ?_
        refine lv_iload hx hb dX0_rowLength_13 (lv_at hl 0 rfl) ?_
        refine lv_iload_n hx hb dX0_rowLength_15 rfl (lv_at hl 3 rfl) ?_
        refine lv_icmp_ge (tgt := 47) hx hb dX0_rowLength_16 (by decide) (fun _ => ?_) (fun c => absurd (by decide +kernel) c)
        refine lv_iload_n hx hb dX0_rowLength_47 rfl (lv_at hl 1 rfl) ?_
        exact hQ _ _ _ _ _ _ hW dX0_rowLength_48 (by subst hz_10; subst hz_6; subst hz_2; rw [m_X0_rowLength_r, if_pos c_4, if_pos c_8, if_neg c_12]) rfl
    · refine lv_iconst (v := nI 1) hx hb dX0_rowLength_34 (by decide +kernel) ?_
      refine lv_goto (tgt := 39) hx hb dX0_rowLength_35 (by decide) ?_
      refine lv_iadd hx hb dX0_rowLength_39 ?_
      refine k_top (y := nI 1) (by decide +kernel) ?_
      refine lv_istore_n (lv' := [(1, .int (nI 1)), (5, .ref (a 8)), (4, .int (nI 1)), (3, .int (nI 3)), (2, .ref (a 2)), (0, .ref (a 0))]) hx hb dX0_rowLength_40 rfl hl (by decide) rfl (fun ls hl => ?_)
      refine lv_iinc (v := nI 2) (lv' := [(4, .int (nI 2)), (1, .int (nI 1)), (5, .ref (a 8)), (3, .int (nI 3)), (2, .ref (a 2)), (0, .ref (a 0))]) hx hb dX0_rowLength_41 hl (k := 2) rfl (k_inc _) (by decide) rfl (fun ls hl => ?_)
      refine lv_goto (tgt := 13) hx hb dX0_rowLength_44 (by decide) ?_
      refine lv_iload hx hb dX0_rowLength_13 (lv_at hl 0 rfl) ?_
      refine lv_iload_n hx hb dX0_rowLength_15 rfl (lv_at hl 3 rfl) ?_
      refine lv_icmp_ge (tgt := 47) hx hb dX0_rowLength_16 (by decide) (fun c => absurd c (by decide +kernel)) (fun _ => ?_)
      refine lv_aload_n hx hb dX0_rowLength_19 rfl (lv_at hl 4 rfl) ?_
      refine lv_iload hx hb dX0_rowLength_20 (lv_at hl 0 rfl) ?_
      refine k_aald X hW 2 1 rfl rfl (j := 2) (b := a 9) rfl (by decide) (by decide) rfl dX0_rowLength_22 ?_
      refine lv_astore (lv' := [(5, .ref (a 9)), (4, .int (nI 2)), (1, .int (nI 1)), (3, .int (nI 3)), (2, .ref (a 2)), (0, .ref (a 0))]) hx hb dX0_rowLength_23 hl (by decide) rfl (fun ls hl => ?_)
      refine lv_iload_n hx hb dX0_rowLength_25 rfl (lv_at hl 2 rfl) ?_
      refine lv_aload hx hb dX0_rowLength_26 (lv_at hl 0 rfl) ?_
      obtain ⟨z_16, hz_16⟩ : ∃ zq, m_X3_isCalled_r (u 8) = zq := ⟨_, rfl⟩
      have hM_17 := (c_X3_isCalled l D k (a 9) (u 8) )
      rw [hz_16] at hM_17
      refine kNi (As := []) (rest := [.int (nI 1)]) X hW hM_17 yw_X3_isCalled lkn_X0_89 ⟨Nat.le_of_ble_eq_true rfl, Nat.le_of_ble_eq_true rfl⟩ (wr := [cO a u, cSe k a u, cQs k a, cFl k a u, cCa k a u, cHo k a u, cTa k a u, qC (a 7) (u 6), qC (a 8) (u 7)]) (w_idx (n := 10) [0, 1, 2, 3, 4, 5, 6, 7, 8, 9] rfl (by decide) rfl) (w' := cardW k a u) (w_idx (n := 10) [0, 1, 2, 3, 4, 5, 6, 7, 8, 9] rfl (by decide) rfl) (k_rcv X hW (ci := 3) (q0 := 9) rfl rfl) rfl hl.1 rfl (Nat.le_of_ble_eq_true rfl) ⟨Nat.zero_le _, Nat.zero_le _⟩ dX0_rowLength_28 (fun H locs hW => ?_)
      refine lv_if_eq (tgt := 38) hx hb dX0_rowLength_31 (by decide) (fun c_18 => ?_) (fun c_18 => ?_)
      · refine lv_iconst (v := nI 0) hx hb dX0_rowLength_38 (by decide +kernel) ?_
        refine lv_iadd hx hb dX0_rowLength_39 ?_
        refine k_top (y := nI 1) (by decide +kernel) ?_
        refine lv_istore_n (lv' := [(1, .int (nI 1)), (5, .ref (a 9)), (4, .int (nI 2)), (3, .int (nI 3)), (2, .ref (a 2)), (0, .ref (a 0))]) hx hb dX0_rowLength_40 rfl hl (by decide) rfl (fun ls hl => ?_)
        refine lv_iinc (v := nI 3) (lv' := [(4, .int (nI 3)), (1, .int (nI 1)), (5, .ref (a 9)), (3, .int (nI 3)), (2, .ref (a 2)), (0, .ref (a 0))]) hx hb dX0_rowLength_41 hl (k := 2) rfl (k_inc _) (by decide) rfl (fun ls hl => ?_)
        refine lv_goto (tgt := 13) hx hb dX0_rowLength_44 (by decide) ?_
        refine lv_iload hx hb dX0_rowLength_13 (lv_at hl 0 rfl) ?_
        refine lv_iload_n hx hb dX0_rowLength_15 rfl (lv_at hl 3 rfl) ?_
        refine lv_icmp_ge (tgt := 47) hx hb dX0_rowLength_16 (by decide) (fun _ => ?_) (fun c => absurd (by decide +kernel) c)
        refine lv_iload_n hx hb dX0_rowLength_47 rfl (lv_at hl 1 rfl) ?_
        exact hQ _ _ _ _ _ _ hW dX0_rowLength_48 (by subst hz_16; subst hz_6; subst hz_2; rw [m_X0_rowLength_r, if_pos c_4, if_neg c_8, if_pos c_18]) rfl
      · refine lv_iconst (v := nI 1) hx hb dX0_rowLength_34 (by decide +kernel) ?_
        refine lv_goto (tgt := 39) hx hb dX0_rowLength_35 (by decide) ?_
        refine lv_iadd hx hb dX0_rowLength_39 ?_
        refine k_top (y := nI 2) (by decide +kernel) ?_
        refine lv_istore_n (lv' := [(1, .int (nI 2)), (5, .ref (a 9)), (4, .int (nI 2)), (3, .int (nI 3)), (2, .ref (a 2)), (0, .ref (a 0))]) hx hb dX0_rowLength_40 rfl hl (by decide) rfl (fun ls hl => ?_)
        refine lv_iinc (v := nI 3) (lv' := [(4, .int (nI 3)), (1, .int (nI 2)), (5, .ref (a 9)), (3, .int (nI 3)), (2, .ref (a 2)), (0, .ref (a 0))]) hx hb dX0_rowLength_41 hl (k := 2) rfl (k_inc _) (by decide) rfl (fun ls hl => ?_)
        refine lv_goto (tgt := 13) hx hb dX0_rowLength_44 (by decide) ?_
        refine lv_iload hx hb dX0_rowLength_13 (lv_at hl 0 rfl) ?_
        refine lv_iload_n hx hb dX0_rowLength_15 rfl (lv_at hl 3 rfl) ?_
        refine lv_icmp_ge (tgt := 47) hx hb dX0_rowLength_16 (by decide) (fun _ => ?_) (fun c => absurd (by decide +kernel) c)
        refine lv_iload_n hx hb dX0_rowLength_47 rfl (lv_at hl 1 rfl) ?_
        exact hQ _ _ _ _ _ _ hW dX0_rowLength_48 (by subst hz_16; subst hz_6; subst hz_2; rw [m_X0_rowLength_r, if_pos c_4, if_neg c_8, if_neg c_18]) rfl
  · refine lv_iconst (v := nI 1) hx hb dX0_rowLength_34 (by decide +kernel) ?_
    refine lv_goto (tgt := 39) hx hb dX0_rowLength_35 (by decide) ?_
    refine lv_iadd hx hb dX0_rowLength_39 ?_
    refine k_top (y := nI 1) (by decide +kernel) ?_
    refine lv_istore_n (lv' := [(1, .int (nI 1)), (5, .ref (a 7)), (4, .int (nI 0)), (3, .int (nI 3)), (2, .ref (a 2)), (0, .ref (a 0))]) hx hb dX0_rowLength_40 rfl hl (by decide) rfl (fun ls hl => ?_)
    refine lv_iinc (v := nI 1) (lv' := [(4, .int (nI 1)), (1, .int (nI 1)), (5, .ref (a 7)), (3, .int (nI 3)), (2, .ref (a 2)), (0, .ref (a 0))]) hx hb dX0_rowLength_41 hl (k := 2) rfl (k_inc _) (by decide) rfl (fun ls hl => ?_)
    refine lv_goto (tgt := 13) hx hb dX0_rowLength_44 (by decide) ?_
    refine lv_iload hx hb dX0_rowLength_13 (lv_at hl 0 rfl) ?_
    refine lv_iload_n hx hb dX0_rowLength_15 rfl (lv_at hl 3 rfl) ?_
    refine lv_icmp_ge (tgt := 47) hx hb dX0_rowLength_16 (by decide) (fun c => absurd c (by decide +kernel)) (fun _ => ?_)
    refine lv_aload_n hx hb dX0_rowLength_19 rfl (lv_at hl 4 rfl) ?_
    refine lv_iload hx hb dX0_rowLength_20 (lv_at hl 0 rfl) ?_
    refine k_aald X hW 2 1 rfl rfl (j := 1) (b := a 8) rfl (by decide) (by decide) rfl dX0_rowLength_22 ?_
    refine lv_astore (lv' := [(5, .ref (a 8)), (4, .int (nI 1)), (1, .int (nI 1)), (3, .int (nI 3)), (2, .ref (a 2)), (0, .ref (a 0))]) hx hb dX0_rowLength_23 hl (by decide) rfl (fun ls hl => ?_)
    refine lv_iload_n hx hb dX0_rowLength_25 rfl (lv_at hl 2 rfl) ?_
    refine lv_aload hx hb dX0_rowLength_26 (lv_at hl 0 rfl) ?_
    obtain ⟨z_22, hz_22⟩ : ∃ zq, m_X3_isCalled_r (u 7) = zq := ⟨_, rfl⟩
    have hM_23 := (c_X3_isCalled l D k (a 8) (u 7) )
    rw [hz_22] at hM_23
    refine kNi (As := []) (rest := [.int (nI 1)]) X hW hM_23 yw_X3_isCalled lkn_X0_89 ⟨Nat.le_of_ble_eq_true rfl, Nat.le_of_ble_eq_true rfl⟩ (wr := [cO a u, cSe k a u, cQs k a, cFl k a u, cCa k a u, cHo k a u, cTa k a u, qC (a 7) (u 6), qC (a 9) (u 8)]) (w_idx (n := 10) [0, 1, 2, 3, 4, 5, 6, 7, 9, 8] rfl (by decide) rfl) (w' := cardW k a u) (w_idx (n := 10) [0, 1, 2, 3, 4, 5, 6, 7, 9, 8] rfl (by decide) rfl) (k_rcv X hW (ci := 3) (q0 := 8) rfl rfl) rfl hl.1 rfl (Nat.le_of_ble_eq_true rfl) ⟨Nat.zero_le _, Nat.zero_le _⟩ dX0_rowLength_28 (fun H locs hW => ?_)
    refine lv_if_eq (tgt := 38) hx hb dX0_rowLength_31 (by decide) (fun c_24 => ?_) (fun c_24 => ?_)
    · refine lv_iconst (v := nI 0) hx hb dX0_rowLength_38 (by decide +kernel) ?_
      refine lv_iadd hx hb dX0_rowLength_39 ?_
      refine k_top (y := nI 1) (by decide +kernel) ?_
      refine lv_istore_n (lv' := [(1, .int (nI 1)), (5, .ref (a 8)), (4, .int (nI 1)), (3, .int (nI 3)), (2, .ref (a 2)), (0, .ref (a 0))]) hx hb dX0_rowLength_40 rfl hl (by decide) rfl (fun ls hl => ?_)
      refine lv_iinc (v := nI 2) (lv' := [(4, .int (nI 2)), (1, .int (nI 1)), (5, .ref (a 8)), (3, .int (nI 3)), (2, .ref (a 2)), (0, .ref (a 0))]) hx hb dX0_rowLength_41 hl (k := 2) rfl (k_inc _) (by decide) rfl (fun ls hl => ?_)
      refine lv_goto (tgt := 13) hx hb dX0_rowLength_44 (by decide) ?_
      refine lv_iload hx hb dX0_rowLength_13 (lv_at hl 0 rfl) ?_
      refine lv_iload_n hx hb dX0_rowLength_15 rfl (lv_at hl 3 rfl) ?_
      refine lv_icmp_ge (tgt := 47) hx hb dX0_rowLength_16 (by decide) (fun c => absurd c (by decide +kernel)) (fun _ => ?_)
      refine lv_aload_n hx hb dX0_rowLength_19 rfl (lv_at hl 4 rfl) ?_
      refine lv_iload hx hb dX0_rowLength_20 (lv_at hl 0 rfl) ?_
      refine k_aald X hW 2 1 rfl rfl (j := 2) (b := a 9) rfl (by decide) (by decide) rfl dX0_rowLength_22 ?_
      refine lv_astore (lv' := [(5, .ref (a 9)), (4, .int (nI 2)), (1, .int (nI 1)), (3, .int (nI 3)), (2, .ref (a 2)), (0, .ref (a 0))]) hx hb dX0_rowLength_23 hl (by decide) rfl (fun ls hl => ?_)
      refine lv_iload_n hx hb dX0_rowLength_25 rfl (lv_at hl 2 rfl) ?_
      refine lv_aload hx hb dX0_rowLength_26 (lv_at hl 0 rfl) ?_
      obtain ⟨z_26, hz_26⟩ : ∃ zq, m_X3_isCalled_r (u 8) = zq := ⟨_, rfl⟩
      have hM_27 := (c_X3_isCalled l D k (a 9) (u 8) )
      rw [hz_26] at hM_27
      refine kNi (As := []) (rest := [.int (nI 1)]) X hW hM_27 yw_X3_isCalled lkn_X0_89 ⟨Nat.le_of_ble_eq_true rfl, Nat.le_of_ble_eq_true rfl⟩ (wr := [cO a u, cSe k a u, cQs k a, cFl k a u, cCa k a u, cHo k a u, cTa k a u, qC (a 7) (u 6), qC (a 8) (u 7)]) (w_idx (n := 10) [0, 1, 2, 3, 4, 5, 6, 7, 8, 9] rfl (by decide) rfl) (w' := cardW k a u) (w_idx (n := 10) [0, 1, 2, 3, 4, 5, 6, 7, 8, 9] rfl (by decide) rfl) (k_rcv X hW (ci := 3) (q0 := 9) rfl rfl) rfl hl.1 rfl (Nat.le_of_ble_eq_true rfl) ⟨Nat.zero_le _, Nat.zero_le _⟩ dX0_rowLength_28 (fun H locs hW => ?_)
      refine lv_if_eq (tgt := 38) hx hb dX0_rowLength_31 (by decide) (fun c_28 => ?_) (fun c_28 => ?_)
      · refine lv_iconst (v := nI 0) hx hb dX0_rowLength_38 (by decide +kernel) ?_
        refine lv_iadd hx hb dX0_rowLength_39 ?_
        refine k_top (y := nI 1) (by decide +kernel) ?_
        refine lv_istore_n (lv' := [(1, .int (nI 1)), (5, .ref (a 9)), (4, .int (nI 2)), (3, .int (nI 3)), (2, .ref (a 2)), (0, .ref (a 0))]) hx hb dX0_rowLength_40 rfl hl (by decide) rfl (fun ls hl => ?_)
        refine lv_iinc (v := nI 3) (lv' := [(4, .int (nI 3)), (1, .int (nI 1)), (5, .ref (a 9)), (3, .int (nI 3)), (2, .ref (a 2)), (0, .ref (a 0))]) hx hb dX0_rowLength_41 hl (k := 2) rfl (k_inc _) (by decide) rfl (fun ls hl => ?_)
        refine lv_goto (tgt := 13) hx hb dX0_rowLength_44 (by decide) ?_
        refine lv_iload hx hb dX0_rowLength_13 (lv_at hl 0 rfl) ?_
        refine lv_iload_n hx hb dX0_rowLength_15 rfl (lv_at hl 3 rfl) ?_
        refine lv_icmp_ge (tgt := 47) hx hb dX0_rowLength_16 (by decide) (fun _ => ?_) (fun c => absurd (by decide +kernel) c)
        refine lv_iload_n hx hb dX0_rowLength_47 rfl (lv_at hl 1 rfl) ?_
        exact hQ _ _ _ _ _ _ hW dX0_rowLength_48 (by subst hz_26; subst hz_22; subst hz_2; rw [m_X0_rowLength_r, if_neg c_4, if_pos c_24, if_pos c_28]) rfl
      · refine lv_iconst (v := nI 1) hx hb dX0_rowLength_34 (by decide +kernel) ?_
        refine lv_goto (tgt := 39) hx hb dX0_rowLength_35 (by decide) ?_
        refine lv_iadd hx hb dX0_rowLength_39 ?_
        refine k_top (y := nI 2) (by decide +kernel) ?_
        refine lv_istore_n (lv' := [(1, .int (nI 2)), (5, .ref (a 9)), (4, .int (nI 2)), (3, .int (nI 3)), (2, .ref (a 2)), (0, .ref (a 0))]) hx hb dX0_rowLength_40 rfl hl (by decide) rfl (fun ls hl => ?_)
        refine lv_iinc (v := nI 3) (lv' := [(4, .int (nI 3)), (1, .int (nI 2)), (5, .ref (a 9)), (3, .int (nI 3)), (2, .ref (a 2)), (0, .ref (a 0))]) hx hb dX0_rowLength_41 hl (k := 2) rfl (k_inc _) (by decide) rfl (fun ls hl => ?_)
        refine lv_goto (tgt := 13) hx hb dX0_rowLength_44 (by decide) ?_
        refine lv_iload hx hb dX0_rowLength_13 (lv_at hl 0 rfl) ?_
        refine lv_iload_n hx hb dX0_rowLength_15 rfl (lv_at hl 3 rfl) ?_
        refine lv_icmp_ge (tgt := 47) hx hb dX0_rowLength_16 (by decide) (fun _ => ?_) (fun c => absurd (by decide +kernel) c)
        refine lv_iload_n hx hb dX0_rowLength_47 rfl (lv_at hl 1 rfl) ?_
        exact hQ _ _ _ _ _ _ hW dX0_rowLength_48 (by subst hz_26; subst hz_22; subst hz_2; rw [m_X0_rowLength_r, if_neg c_4, if_pos c_24, if_neg c_28]) rfl
    · refine lv_iconst (v := nI 1) hx hb dX0_rowLength_34 (by decide +kernel) ?_
      refine lv_goto (tgt := 39) hx hb dX0_rowLength_35 (by decide) ?_
      refine lv_iadd hx hb dX0_rowLength_39 ?_
      refine k_top (y := nI 2) (by decide +kernel) ?_
      refine lv_istore_n (lv' := [(1, .int (nI 2)), (5, .ref (a 8)), (4, .int (nI 1)), (3, .int (nI 3)), (2, .ref (a 2)), (0, .ref (a 0))]) hx hb dX0_rowLength_40 rfl hl (by decide) rfl (fun ls hl => ?_)
      refine lv_iinc (v := nI 2) (lv' := [(4, .int (nI 2)), (1, .int (nI 2)), (5, .ref (a 8)), (3, .int (nI 3)), (2, .ref (a 2)), (0, .ref (a 0))]) hx hb dX0_rowLength_41 hl (k := 2) rfl (k_inc _) (by decide) rfl (fun ls hl => ?_)
      refine lv_goto (tgt := 13) hx hb dX0_rowLength_44 (by decide) ?_
      refine lv_iload hx hb dX0_rowLength_13 (lv_at hl 0 rfl) ?_
      refine lv_iload_n hx hb dX0_rowLength_15 rfl (lv_at hl 3 rfl) ?_
      refine lv_icmp_ge (tgt := 47) hx hb dX0_rowLength_16 (by decide) (fun c => absurd c (by decide +kernel)) (fun _ => ?_)
      refine lv_aload_n hx hb dX0_rowLength_19 rfl (lv_at hl 4 rfl) ?_
      refine lv_iload hx hb dX0_rowLength_20 (lv_at hl 0 rfl) ?_
      refine k_aald X hW 2 1 rfl rfl (j := 2) (b := a 9) rfl (by decide) (by decide) rfl dX0_rowLength_22 ?_
      refine lv_astore (lv' := [(5, .ref (a 9)), (4, .int (nI 2)), (1, .int (nI 2)), (3, .int (nI 3)), (2, .ref (a 2)), (0, .ref (a 0))]) hx hb dX0_rowLength_23 hl (by decide) rfl (fun ls hl => ?_)
      refine lv_iload_n hx hb dX0_rowLength_25 rfl (lv_at hl 2 rfl) ?_
      refine lv_aload hx hb dX0_rowLength_26 (lv_at hl 0 rfl) ?_
      obtain ⟨z_32, hz_32⟩ : ∃ zq, m_X3_isCalled_r (u 8) = zq := ⟨_, rfl⟩
      have hM_33 := (c_X3_isCalled l D k (a 9) (u 8) )
      rw [hz_32] at hM_33
      refine kNi (As := []) (rest := [.int (nI 2)]) X hW hM_33 yw_X3_isCalled lkn_X0_89 ⟨Nat.le_of_ble_eq_true rfl, Nat.le_of_ble_eq_true rfl⟩ (wr := [cO a u, cSe k a u, cQs k a, cFl k a u, cCa k a u, cHo k a u, cTa k a u, qC (a 7) (u 6), qC (a 8) (u 7)]) (w_idx (n := 10) [0, 1, 2, 3, 4, 5, 6, 7, 8, 9] rfl (by decide) rfl) (w' := cardW k a u) (w_idx (n := 10) [0, 1, 2, 3, 4, 5, 6, 7, 8, 9] rfl (by decide) rfl) (k_rcv X hW (ci := 3) (q0 := 9) rfl rfl) rfl hl.1 rfl (Nat.le_of_ble_eq_true rfl) ⟨Nat.zero_le _, Nat.zero_le _⟩ dX0_rowLength_28 (fun H locs hW => ?_)
      refine lv_if_eq (tgt := 38) hx hb dX0_rowLength_31 (by decide) (fun c_34 => ?_) (fun c_34 => ?_)
      · refine lv_iconst (v := nI 0) hx hb dX0_rowLength_38 (by decide +kernel) ?_
        refine lv_iadd hx hb dX0_rowLength_39 ?_
        refine k_top (y := nI 2) (by decide +kernel) ?_
        refine lv_istore_n (lv' := [(1, .int (nI 2)), (5, .ref (a 9)), (4, .int (nI 2)), (3, .int (nI 3)), (2, .ref (a 2)), (0, .ref (a 0))]) hx hb dX0_rowLength_40 rfl hl (by decide) rfl (fun ls hl => ?_)
        refine lv_iinc (v := nI 3) (lv' := [(4, .int (nI 3)), (1, .int (nI 2)), (5, .ref (a 9)), (3, .int (nI 3)), (2, .ref (a 2)), (0, .ref (a 0))]) hx hb dX0_rowLength_41 hl (k := 2) rfl (k_inc _) (by decide) rfl (fun ls hl => ?_)
        refine lv_goto (tgt := 13) hx hb dX0_rowLength_44 (by decide) ?_
        refine lv_iload hx hb dX0_rowLength_13 (lv_at hl 0 rfl) ?_
        refine lv_iload_n hx hb dX0_rowLength_15 rfl (lv_at hl 3 rfl) ?_
        refine lv_icmp_ge (tgt := 47) hx hb dX0_rowLength_16 (by decide) (fun _ => ?_) (fun c => absurd (by decide +kernel) c)
        refine lv_iload_n hx hb dX0_rowLength_47 rfl (lv_at hl 1 rfl) ?_
        exact hQ _ _ _ _ _ _ hW dX0_rowLength_48 (by subst hz_32; subst hz_22; subst hz_2; rw [m_X0_rowLength_r, if_neg c_4, if_neg c_24, if_pos c_34]) rfl
      · refine lv_iconst (v := nI 1) hx hb dX0_rowLength_34 (by decide +kernel) ?_
        refine lv_goto (tgt := 39) hx hb dX0_rowLength_35 (by decide) ?_
        refine lv_iadd hx hb dX0_rowLength_39 ?_
        refine k_top (y := nI 3) (by decide +kernel) ?_
        refine lv_istore_n (lv' := [(1, .int (nI 3)), (5, .ref (a 9)), (4, .int (nI 2)), (3, .int (nI 3)), (2, .ref (a 2)), (0, .ref (a 0))]) hx hb dX0_rowLength_40 rfl hl (by decide) rfl (fun ls hl => ?_)
        refine lv_iinc (v := nI 3) (lv' := [(4, .int (nI 3)), (1, .int (nI 3)), (5, .ref (a 9)), (3, .int (nI 3)), (2, .ref (a 2)), (0, .ref (a 0))]) hx hb dX0_rowLength_41 hl (k := 2) rfl (k_inc _) (by decide) rfl (fun ls hl => ?_)
        refine lv_goto (tgt := 13) hx hb dX0_rowLength_44 (by decide) ?_
        refine lv_iload hx hb dX0_rowLength_13 (lv_at hl 0 rfl) ?_
        refine lv_iload_n hx hb dX0_rowLength_15 rfl (lv_at hl 3 rfl) ?_
        refine lv_icmp_ge (tgt := 47) hx hb dX0_rowLength_16 (by decide) (fun _ => ?_) (fun c => absurd (by decide +kernel) c)
        refine lv_iload_n hx hb dX0_rowLength_47 rfl (lv_at hl 1 rfl) ?_
        exact hQ _ _ _ _ _ _ hW dX0_rowLength_48 (by subst hz_32; subst hz_22; subst hz_2; rw [m_X0_rowLength_r, if_neg c_4, if_neg c_24, if_neg c_34]) rfl
def m_X0_enterRow_0_u (u : CS) : CS := st2 u 6 (upd (upd (upd (u 6) 3 (m_X0_rowLength_r u)) 7 ((u 6 7) + (nI 1))) 12 (nI 0))
set_option maxHeartbeats 4000000 in
set_option maxRecDepth 100000 in
theorem c_X0_enterRow_0 (l : Launch) (D : va_G) (k : Nat → ClassId) (a : Nat → Nat) (u : CS)   : mV l yX0_enterRow (wsY yX0_enterRow cX0_enterRow 2 none) 2 D k [.ref (a 0), .ref (a 7)] (cardW k a u) (cardW k a (m_X0_enterRow_0_u u)) := by
  refine mV_intro rfl (Nat.le_of_ble_eq_true rfl) ?_
  intro p e s m args below meth c A Q ls X hW hl hQ
  have hx := X.hx
  have hb := X.hb
  have hl : lv_has ls 2 [(0, .ref (a 0)), (1, .ref (a 7))] := hl
  refine lv_aload_n hx hb dX0_enterRow_0 rfl (lv_at hl 1 rfl) ?_
  refine lv_aload_n hx hb dX0_enterRow_1 rfl (lv_at hl 0 rfl) ?_
  obtain ⟨z_1, hz_1⟩ : ∃ zq, m_X0_rowLength_r u = zq := ⟨_, rfl⟩
  have hM_2 := (c_X0_rowLength l D k a u )
  rw [hz_1] at hM_2
  refine kVi (As := []) (rest := [.ref (a 7)]) X hW hM_2 yw_X0_rowLength lk_X0_131 ⟨Nat.le_of_ble_eq_true rfl, Nat.le_of_ble_eq_true rfl⟩ (wr := []) (List.Perm.refl _) (w' := cardW k a u) (List.Perm.refl _) (k_rcv X hW (ci := 0) (q0 := 0) rfl rfl) rfl hl.1 rfl (Nat.le_of_ble_eq_true rfl) ⟨Nat.zero_le _, Nat.zero_le _⟩ dX0_enterRow_2 (fun H locs hW => ?_)
  refine k_putN X hW inG3 rfl tyX3_ok nmX3 3 (by decide) fln_X0_96 rfl rfl 7 rfl rfl rfl (Nat.le_of_ble_eq_true rfl) dX0_enterRow_5 (w' := cardW k a (st2 u 6 (upd (u 6) 3 z_1))) rfl (fun H locs hW => ?_)
  refine lv_aload_n hx hb dX0_enterRow_8 rfl (lv_at hl 1 rfl) ?_
  refine lv_dup hx hb dX0_enterRow_9 rfl ?_
  refine k_getN X hW inG3 rfl 7 (by decide) fln_X0_138 rfl 7 rfl (v := .int (u 6 7)) rfl dX0_enterRow_10 ?_
  refine lv_iconst (v := nI 1) hx hb dX0_enterRow_13 (by decide +kernel) ?_
  refine lv_iadd hx hb dX0_enterRow_14 ?_
  refine k_putN X hW inG3 rfl tyX3_ok nmX3 7 (by decide) fln_X0_138 rfl rfl 7 rfl rfl rfl (Nat.le_of_ble_eq_true rfl) dX0_enterRow_15 (w' := cardW k a (st2 u 6 (upd (upd (u 6) 3 z_1) 7 ((u 6 7) + (nI 1))))) rfl (fun H locs hW => ?_)
  refine lv_aload_n hx hb dX0_enterRow_18 rfl (lv_at hl 1 rfl) ?_
  refine lv_iconst (v := nI 0) hx hb dX0_enterRow_19 (by decide +kernel) ?_
  refine k_putN X hW inG3 rfl tyX3_ok nmX3 12 (by decide) fln_X0_141 rfl rfl 7 rfl rfl rfl (Nat.le_of_ble_eq_true rfl) dX0_enterRow_20 (w' := cardW k a (st2 u 6 (upd (upd (upd (u 6) 3 z_1) 7 ((u 6 7) + (nI 1))) 12 (nI 0)))) rfl (fun H locs hW => ?_)
  exact hQ _ _ _ _ _ hW dX0_enterRow_23 (by subst hz_1; rw [m_X0_enterRow_0_u])
set_option maxHeartbeats 4000000 in
theorem CM_X0_enterRow_0 {u : CS}  (h : CM u) : CM (m_X0_enterRow_0_u u) := by
  rw [m_X0_enterRow_0_u]
  exact (CM_stc h (by decide) (by decide))
def m_X0_enterRow_1_u (u : CS) : CS := st2 u 7 (upd (upd (upd (u 7) 3 (m_X0_rowLength_r u)) 7 ((u 7 7) + (nI 1))) 12 (nI 0))
set_option maxHeartbeats 4000000 in
set_option maxRecDepth 100000 in
theorem c_X0_enterRow_1 (l : Launch) (D : va_G) (k : Nat → ClassId) (a : Nat → Nat) (u : CS)   : mV l yX0_enterRow (wsY yX0_enterRow cX0_enterRow 2 none) 2 D k [.ref (a 0), .ref (a 8)] (cardW k a u) (cardW k a (m_X0_enterRow_1_u u)) := by
  refine mV_intro rfl (Nat.le_of_ble_eq_true rfl) ?_
  intro p e s m args below meth c A Q ls X hW hl hQ
  have hx := X.hx
  have hb := X.hb
  have hl : lv_has ls 2 [(0, .ref (a 0)), (1, .ref (a 8))] := hl
  refine lv_aload_n hx hb dX0_enterRow_0 rfl (lv_at hl 1 rfl) ?_
  refine lv_aload_n hx hb dX0_enterRow_1 rfl (lv_at hl 0 rfl) ?_
  obtain ⟨z_1, hz_1⟩ : ∃ zq, m_X0_rowLength_r u = zq := ⟨_, rfl⟩
  have hM_2 := (c_X0_rowLength l D k a u )
  rw [hz_1] at hM_2
  refine kVi (As := []) (rest := [.ref (a 8)]) X hW hM_2 yw_X0_rowLength lk_X0_131 ⟨Nat.le_of_ble_eq_true rfl, Nat.le_of_ble_eq_true rfl⟩ (wr := []) (List.Perm.refl _) (w' := cardW k a u) (List.Perm.refl _) (k_rcv X hW (ci := 0) (q0 := 0) rfl rfl) rfl hl.1 rfl (Nat.le_of_ble_eq_true rfl) ⟨Nat.zero_le _, Nat.zero_le _⟩ dX0_enterRow_2 (fun H locs hW => ?_)
  refine k_putN X hW inG3 rfl tyX3_ok nmX3 3 (by decide) fln_X0_96 rfl rfl 8 rfl rfl rfl (Nat.le_of_ble_eq_true rfl) dX0_enterRow_5 (w' := cardW k a (st2 u 7 (upd (u 7) 3 z_1))) rfl (fun H locs hW => ?_)
  refine lv_aload_n hx hb dX0_enterRow_8 rfl (lv_at hl 1 rfl) ?_
  refine lv_dup hx hb dX0_enterRow_9 rfl ?_
  refine k_getN X hW inG3 rfl 7 (by decide) fln_X0_138 rfl 8 rfl (v := .int (u 7 7)) rfl dX0_enterRow_10 ?_
  refine lv_iconst (v := nI 1) hx hb dX0_enterRow_13 (by decide +kernel) ?_
  refine lv_iadd hx hb dX0_enterRow_14 ?_
  refine k_putN X hW inG3 rfl tyX3_ok nmX3 7 (by decide) fln_X0_138 rfl rfl 8 rfl rfl rfl (Nat.le_of_ble_eq_true rfl) dX0_enterRow_15 (w' := cardW k a (st2 u 7 (upd (upd (u 7) 3 z_1) 7 ((u 7 7) + (nI 1))))) rfl (fun H locs hW => ?_)
  refine lv_aload_n hx hb dX0_enterRow_18 rfl (lv_at hl 1 rfl) ?_
  refine lv_iconst (v := nI 0) hx hb dX0_enterRow_19 (by decide +kernel) ?_
  refine k_putN X hW inG3 rfl tyX3_ok nmX3 12 (by decide) fln_X0_141 rfl rfl 8 rfl rfl rfl (Nat.le_of_ble_eq_true rfl) dX0_enterRow_20 (w' := cardW k a (st2 u 7 (upd (upd (upd (u 7) 3 z_1) 7 ((u 7 7) + (nI 1))) 12 (nI 0)))) rfl (fun H locs hW => ?_)
  exact hQ _ _ _ _ _ hW dX0_enterRow_23 (by subst hz_1; rw [m_X0_enterRow_1_u])
set_option maxHeartbeats 4000000 in
theorem CM_X0_enterRow_1 {u : CS}  (h : CM u) : CM (m_X0_enterRow_1_u u) := by
  rw [m_X0_enterRow_1_u]
  exact (CM_stc h (by decide) (by decide))
def m_X0_enterRow_2_u (u : CS) : CS := st2 u 8 (upd (upd (upd (u 8) 3 (m_X0_rowLength_r u)) 7 ((u 8 7) + (nI 1))) 12 (nI 0))
set_option maxHeartbeats 4000000 in
set_option maxRecDepth 100000 in
theorem c_X0_enterRow_2 (l : Launch) (D : va_G) (k : Nat → ClassId) (a : Nat → Nat) (u : CS)   : mV l yX0_enterRow (wsY yX0_enterRow cX0_enterRow 2 none) 2 D k [.ref (a 0), .ref (a 9)] (cardW k a u) (cardW k a (m_X0_enterRow_2_u u)) := by
  refine mV_intro rfl (Nat.le_of_ble_eq_true rfl) ?_
  intro p e s m args below meth c A Q ls X hW hl hQ
  have hx := X.hx
  have hb := X.hb
  have hl : lv_has ls 2 [(0, .ref (a 0)), (1, .ref (a 9))] := hl
  refine lv_aload_n hx hb dX0_enterRow_0 rfl (lv_at hl 1 rfl) ?_
  refine lv_aload_n hx hb dX0_enterRow_1 rfl (lv_at hl 0 rfl) ?_
  obtain ⟨z_1, hz_1⟩ : ∃ zq, m_X0_rowLength_r u = zq := ⟨_, rfl⟩
  have hM_2 := (c_X0_rowLength l D k a u )
  rw [hz_1] at hM_2
  refine kVi (As := []) (rest := [.ref (a 9)]) X hW hM_2 yw_X0_rowLength lk_X0_131 ⟨Nat.le_of_ble_eq_true rfl, Nat.le_of_ble_eq_true rfl⟩ (wr := []) (List.Perm.refl _) (w' := cardW k a u) (List.Perm.refl _) (k_rcv X hW (ci := 0) (q0 := 0) rfl rfl) rfl hl.1 rfl (Nat.le_of_ble_eq_true rfl) ⟨Nat.zero_le _, Nat.zero_le _⟩ dX0_enterRow_2 (fun H locs hW => ?_)
  refine k_putN X hW inG3 rfl tyX3_ok nmX3 3 (by decide) fln_X0_96 rfl rfl 9 rfl rfl rfl (Nat.le_of_ble_eq_true rfl) dX0_enterRow_5 (w' := cardW k a (st2 u 8 (upd (u 8) 3 z_1))) rfl (fun H locs hW => ?_)
  refine lv_aload_n hx hb dX0_enterRow_8 rfl (lv_at hl 1 rfl) ?_
  refine lv_dup hx hb dX0_enterRow_9 rfl ?_
  refine k_getN X hW inG3 rfl 7 (by decide) fln_X0_138 rfl 9 rfl (v := .int (u 8 7)) rfl dX0_enterRow_10 ?_
  refine lv_iconst (v := nI 1) hx hb dX0_enterRow_13 (by decide +kernel) ?_
  refine lv_iadd hx hb dX0_enterRow_14 ?_
  refine k_putN X hW inG3 rfl tyX3_ok nmX3 7 (by decide) fln_X0_138 rfl rfl 9 rfl rfl rfl (Nat.le_of_ble_eq_true rfl) dX0_enterRow_15 (w' := cardW k a (st2 u 8 (upd (upd (u 8) 3 z_1) 7 ((u 8 7) + (nI 1))))) rfl (fun H locs hW => ?_)
  refine lv_aload_n hx hb dX0_enterRow_18 rfl (lv_at hl 1 rfl) ?_
  refine lv_iconst (v := nI 0) hx hb dX0_enterRow_19 (by decide +kernel) ?_
  refine k_putN X hW inG3 rfl tyX3_ok nmX3 12 (by decide) fln_X0_141 rfl rfl 9 rfl rfl rfl (Nat.le_of_ble_eq_true rfl) dX0_enterRow_20 (w' := cardW k a (st2 u 8 (upd (upd (upd (u 8) 3 z_1) 7 ((u 8 7) + (nI 1))) 12 (nI 0)))) rfl (fun H locs hW => ?_)
  exact hQ _ _ _ _ _ hW dX0_enterRow_23 (by subst hz_1; rw [m_X0_enterRow_2_u])
set_option maxHeartbeats 4000000 in
theorem CM_X0_enterRow_2 {u : CS}  (h : CM u) : CM (m_X0_enterRow_2_u u) := by
  rw [m_X0_enterRow_2_u]
  exact (CM_stc h (by decide) (by decide))
def m_X0_leaveRow_0_u (u : CS) : CS := if u 6 3 ≤ u 6 3 then (if u 7 3 ≤ u 6 3 then (if u 8 3 ≤ u 6 3 then st2 u 6 (upd (u 6) 3 (-1)) else st2 (st2 u 6 (upd (u 6) 3 (-1))) 8 (upd (u 8) 3 ((u 8 3) - (nI 1)))) else if u 8 3 ≤ u 6 3 then st2 (st2 u 6 (upd (u 6) 3 (-1))) 7 (upd (u 7) 3 ((u 7 3) - (nI 1))) else st2 (st2 (st2 u 6 (upd (u 6) 3 (-1))) 7 (upd (u 7) 3 ((u 7 3) - (nI 1)))) 8 (upd (u 8) 3 ((u 8 3) - (nI 1)))) else if u 7 3 ≤ (u 6 3) - (nI 1) then (if u 8 3 ≤ (u 6 3) - (nI 1) then st2 u 6 (upd (u 6) 3 (-1)) else st2 (st2 u 6 (upd (u 6) 3 (-1))) 8 (upd (u 8) 3 ((u 8 3) - (nI 1)))) else if u 8 3 ≤ (u 6 3) - (nI 1) then st2 (st2 u 6 (upd (u 6) 3 (-1))) 7 (upd (u 7) 3 ((u 7 3) - (nI 1))) else st2 (st2 (st2 u 6 (upd (u 6) 3 (-1))) 7 (upd (u 7) 3 ((u 7 3) - (nI 1)))) 8 (upd (u 8) 3 ((u 8 3) - (nI 1)))
set_option maxHeartbeats 4000000 in
set_option maxRecDepth 100000 in
theorem c_X0_leaveRow_0 (l : Launch) (D : va_G) (k : Nat → ClassId) (a : Nat → Nat) (u : CS)   : mV l yX0_leaveRow (wsY yX0_leaveRow cX0_leaveRow 6 none) 0 D k [.ref (a 0), .ref (a 7)] (cardW k a u) (cardW k a (m_X0_leaveRow_0_u u)) := by
  refine mV_intro rfl (Nat.le_of_ble_eq_true rfl) ?_
  intro p e s m args below meth c A Q ls X hW hl hQ
  have hx := X.hx
  have hb := X.hb
  have hl : lv_has ls 6 [(0, .ref (a 0)), (1, .ref (a 7))] := hl
  refine lv_aload_n hx hb dX0_leaveRow_0 rfl (lv_at hl 0 rfl) ?_
  refine k_get X hW inG0 rfl 1 (by decide) fl_X0_20 rfl 0 rfl (v := .ref (a 2)) rfl dX0_leaveRow_1 ?_
  refine lv_astore_n (lv' := [(2, .ref (a 2)), (0, .ref (a 0)), (1, .ref (a 7))]) hx hb dX0_leaveRow_4 rfl hl (by decide) rfl (fun ls hl => ?_)
  refine lv_aload_n hx hb dX0_leaveRow_5 rfl (lv_at hl 0 rfl) ?_
  refine k_alen X hW 2 1 rfl rfl (v := nI 3) rfl dX0_leaveRow_6 ?_
  refine lv_istore_n (lv' := [(3, .int (nI 3)), (2, .ref (a 2)), (0, .ref (a 0)), (1, .ref (a 7))]) hx hb dX0_leaveRow_7 rfl hl (by decide) rfl (fun ls hl => ?_)
  refine lv_iconst (v := nI 0) hx hb dX0_leaveRow_8 (by decide +kernel) ?_
  refine lv_istore (lv' := [(4, .int (nI 0)), (3, .int (nI 3)), (2, .ref (a 2)), (0, .ref (a 0)), (1, .ref (a 7))]) hx hb dX0_leaveRow_9 hl (by decide) rfl (fun ls hl => ?_)
  refine lv_iload hx hb dX0_leaveRow_11 (lv_at hl 0 rfl) ?_
  refine lv_iload_n hx hb dX0_leaveRow_13 rfl (lv_at hl 1 rfl) ?_
  refine lv_icmp_ge (tgt := 52) hx hb dX0_leaveRow_14 (by decide) (fun c => absurd c (by decide +kernel)) (fun _ => ?_)
  refine lv_aload_n hx hb dX0_leaveRow_17 rfl (lv_at hl 2 rfl) ?_
  refine lv_iload hx hb dX0_leaveRow_18 (lv_at hl 0 rfl) ?_
  refine k_aald X hW 2 1 rfl rfl (j := 0) (b := a 7) rfl (by decide) (by decide) rfl dX0_leaveRow_20 ?_
  refine lv_astore (lv' := [(5, .ref (a 7)), (4, .int (nI 0)), (3, .int (nI 3)), (2, .ref (a 2)), (0, .ref (a 0)), (1, .ref (a 7))]) hx hb dX0_leaveRow_21 hl (by decide) rfl (fun ls hl => ?_)
  refine lv_aload hx hb dX0_leaveRow_23 (lv_at hl 0 rfl) ?_
  refine k_getN X hW inG3 rfl 3 (by decide) fln_X0_96 rfl 7 rfl (v := .int (u 6 3)) rfl dX0_leaveRow_25 ?_
  refine lv_aload_n hx hb dX0_leaveRow_28 rfl (lv_at hl 5 rfl) ?_
  refine k_getN X hW inG3 rfl 3 (by decide) fln_X0_96 rfl 7 rfl (v := .int (u 6 3)) rfl dX0_leaveRow_29 ?_
  refine lv_icmp_le (tgt := 46) hx hb dX0_leaveRow_32 (by decide) (fun c_2 => ?_) (fun c_2 => ?_)
  · refine lv_iinc (v := nI 1) (lv' := [(4, .int (nI 1)), (5, .ref (a 7)), (3, .int (nI 3)), (2, .ref (a 2)), (0, .ref (a 0)), (1, .ref (a 7))]) hx hb dX0_leaveRow_46 hl (k := 1) rfl (k_inc _) (by decide) rfl (fun ls hl => ?_)
    refine lv_goto (tgt := 11) hx hb dX0_leaveRow_49 (by decide) ?_
    refine lv_iload hx hb dX0_leaveRow_11 (lv_at hl 0 rfl) ?_
    refine lv_iload_n hx hb dX0_leaveRow_13 rfl (lv_at hl 2 rfl) ?_
    refine lv_icmp_ge (tgt := 52) hx hb dX0_leaveRow_14 (by decide) (fun c => absurd c (by decide +kernel)) (fun _ => ?_)
    refine lv_aload_n hx hb dX0_leaveRow_17 rfl (lv_at hl 3 rfl) ?_
    refine lv_iload hx hb dX0_leaveRow_18 (lv_at hl 0 rfl) ?_
    refine k_aald X hW 2 1 rfl rfl (j := 1) (b := a 8) rfl (by decide) (by decide) rfl dX0_leaveRow_20 ?_
    refine lv_astore (lv' := [(5, .ref (a 8)), (4, .int (nI 1)), (3, .int (nI 3)), (2, .ref (a 2)), (0, .ref (a 0)), (1, .ref (a 7))]) hx hb dX0_leaveRow_21 hl (by decide) rfl (fun ls hl => ?_)
    refine lv_aload hx hb dX0_leaveRow_23 (lv_at hl 0 rfl) ?_
    refine k_getN X hW inG3 rfl 3 (by decide) fln_X0_96 rfl 8 rfl (v := .int (u 7 3)) rfl dX0_leaveRow_25 ?_
    refine lv_aload_n hx hb dX0_leaveRow_28 rfl (lv_at hl 5 rfl) ?_
    refine k_getN X hW inG3 rfl 3 (by decide) fln_X0_96 rfl 7 rfl (v := .int (u 6 3)) rfl dX0_leaveRow_29 ?_
    refine lv_icmp_le (tgt := 46) hx hb dX0_leaveRow_32 (by decide) (fun c_4 => ?_) (fun c_4 => ?_)
    · refine lv_iinc (v := nI 2) (lv' := [(4, .int (nI 2)), (5, .ref (a 8)), (3, .int (nI 3)), (2, .ref (a 2)), (0, .ref (a 0)), (1, .ref (a 7))]) hx hb dX0_leaveRow_46 hl (k := 1) rfl (k_inc _) (by decide) rfl (fun ls hl => ?_)
      refine lv_goto (tgt := 11) hx hb dX0_leaveRow_49 (by decide) ?_
      refine lv_iload hx hb dX0_leaveRow_11 (lv_at hl 0 rfl) ?_
      refine lv_iload_n hx hb dX0_leaveRow_13 rfl (lv_at hl 2 rfl) ?_
      refine lv_icmp_ge (tgt := 52) hx hb dX0_leaveRow_14 (by decide) (fun c => absurd c (by decide +kernel)) (fun _ => ?_)
      refine lv_aload_n hx hb dX0_leaveRow_17 rfl (lv_at hl 3 rfl) ?_
      refine lv_iload hx hb dX0_leaveRow_18 (lv_at hl 0 rfl) ?_
      refine k_aald X hW 2 1 rfl rfl (j := 2) (b := a 9) rfl (by decide) (by decide) rfl dX0_leaveRow_20 ?_
      refine lv_astore (lv' := [(5, .ref (a 9)), (4, .int (nI 2)), (3, .int (nI 3)), (2, .ref (a 2)), (0, .ref (a 0)), (1, .ref (a 7))]) hx hb dX0_leaveRow_21 hl (by decide) rfl (fun ls hl => ?_)
      refine lv_aload hx hb dX0_leaveRow_23 (lv_at hl 0 rfl) ?_
      refine k_getN X hW inG3 rfl 3 (by decide) fln_X0_96 rfl 9 rfl (v := .int (u 8 3)) rfl dX0_leaveRow_25 ?_
      refine lv_aload_n hx hb dX0_leaveRow_28 rfl (lv_at hl 5 rfl) ?_
      refine k_getN X hW inG3 rfl 3 (by decide) fln_X0_96 rfl 7 rfl (v := .int (u 6 3)) rfl dX0_leaveRow_29 ?_
      refine lv_icmp_le (tgt := 46) hx hb dX0_leaveRow_32 (by decide) (fun c_6 => ?_) (fun c_6 => ?_)
      · refine lv_iinc (v := nI 3) (lv' := [(4, .int (nI 3)), (5, .ref (a 9)), (3, .int (nI 3)), (2, .ref (a 2)), (0, .ref (a 0)), (1, .ref (a 7))]) hx hb dX0_leaveRow_46 hl (k := 1) rfl (k_inc _) (by decide) rfl (fun ls hl => ?_)
        refine lv_goto (tgt := 11) hx hb dX0_leaveRow_49 (by decide) ?_
        refine lv_iload hx hb dX0_leaveRow_11 (lv_at hl 0 rfl) ?_
        refine lv_iload_n hx hb dX0_leaveRow_13 rfl (lv_at hl 2 rfl) ?_
        refine lv_icmp_ge (tgt := 52) hx hb dX0_leaveRow_14 (by decide) (fun _ => ?_) (fun c => absurd (by decide +kernel) c)
        refine lv_aload_n hx hb dX0_leaveRow_52 rfl (lv_at hl 5 rfl) ?_
        refine lv_iconst (v := (-1)) hx hb dX0_leaveRow_53 (by decide +kernel) ?_
        refine k_putN X hW inG3 rfl tyX3_ok nmX3 3 (by decide) fln_X0_96 rfl rfl 7 rfl rfl rfl (Nat.le_of_ble_eq_true rfl) dX0_leaveRow_54 (w' := cardW k a (st2 u 6 (upd (u 6) 3 (-1)))) rfl (fun H locs hW => ?_)
        exact hQ _ _ _ _ _ hW dX0_leaveRow_57 (by rw [m_X0_leaveRow_0_u, if_pos c_2, if_pos c_4, if_pos c_6])
      · refine lv_aload hx hb dX0_leaveRow_35 (lv_at hl 0 rfl) ?_
        refine lv_dup hx hb dX0_leaveRow_37 rfl ?_
        refine k_getN X hW inG3 rfl 3 (by decide) fln_X0_96 rfl 9 rfl (v := .int (u 8 3)) rfl dX0_leaveRow_38 ?_
        refine lv_iconst (v := nI 1) hx hb dX0_leaveRow_41 (by decide +kernel) ?_
        refine lv_isub hx hb dX0_leaveRow_42 ?_
        refine k_putN X hW inG3 rfl tyX3_ok nmX3 3 (by decide) fln_X0_96 rfl rfl 9 rfl rfl rfl (Nat.le_of_ble_eq_true rfl) dX0_leaveRow_43 (w' := cardW k a (st2 u 8 (upd (u 8) 3 ((u 8 3) - (nI 1))))) rfl (fun H locs hW => ?_)
        refine lv_iinc (v := nI 3) (lv' := [(4, .int (nI 3)), (5, .ref (a 9)), (3, .int (nI 3)), (2, .ref (a 2)), (0, .ref (a 0)), (1, .ref (a 7))]) hx hb dX0_leaveRow_46 hl (k := 1) rfl (k_inc _) (by decide) rfl (fun ls hl => ?_)
        refine lv_goto (tgt := 11) hx hb dX0_leaveRow_49 (by decide) ?_
        refine lv_iload hx hb dX0_leaveRow_11 (lv_at hl 0 rfl) ?_
        refine lv_iload_n hx hb dX0_leaveRow_13 rfl (lv_at hl 2 rfl) ?_
        refine lv_icmp_ge (tgt := 52) hx hb dX0_leaveRow_14 (by decide) (fun _ => ?_) (fun c => absurd (by decide +kernel) c)
        refine lv_aload_n hx hb dX0_leaveRow_52 rfl (lv_at hl 5 rfl) ?_
        refine lv_iconst (v := (-1)) hx hb dX0_leaveRow_53 (by decide +kernel) ?_
        refine k_putN X hW inG3 rfl tyX3_ok nmX3 3 (by decide) fln_X0_96 rfl rfl 7 rfl rfl rfl (Nat.le_of_ble_eq_true rfl) dX0_leaveRow_54 (w' := cardW k a (st2 (st2 u 6 (upd (u 6) 3 (-1))) 8 (upd (u 8) 3 ((u 8 3) - (nI 1))))) rfl (fun H locs hW => ?_)
        exact hQ _ _ _ _ _ hW dX0_leaveRow_57 (by rw [m_X0_leaveRow_0_u, if_pos c_2, if_pos c_4, if_neg c_6])
    · refine lv_aload hx hb dX0_leaveRow_35 (lv_at hl 0 rfl) ?_
      refine lv_dup hx hb dX0_leaveRow_37 rfl ?_
      refine k_getN X hW inG3 rfl 3 (by decide) fln_X0_96 rfl 8 rfl (v := .int (u 7 3)) rfl dX0_leaveRow_38 ?_
      refine lv_iconst (v := nI 1) hx hb dX0_leaveRow_41 (by decide +kernel) ?_
      refine lv_isub hx hb dX0_leaveRow_42 ?_
      refine k_putN X hW inG3 rfl tyX3_ok nmX3 3 (by decide) fln_X0_96 rfl rfl 8 rfl rfl rfl (Nat.le_of_ble_eq_true rfl) dX0_leaveRow_43 (w' := cardW k a (st2 u 7 (upd (u 7) 3 ((u 7 3) - (nI 1))))) rfl (fun H locs hW => ?_)
      refine lv_iinc (v := nI 2) (lv' := [(4, .int (nI 2)), (5, .ref (a 8)), (3, .int (nI 3)), (2, .ref (a 2)), (0, .ref (a 0)), (1, .ref (a 7))]) hx hb dX0_leaveRow_46 hl (k := 1) rfl (k_inc _) (by decide) rfl (fun ls hl => ?_)
      refine lv_goto (tgt := 11) hx hb dX0_leaveRow_49 (by decide) ?_
      refine lv_iload hx hb dX0_leaveRow_11 (lv_at hl 0 rfl) ?_
      refine lv_iload_n hx hb dX0_leaveRow_13 rfl (lv_at hl 2 rfl) ?_
      refine lv_icmp_ge (tgt := 52) hx hb dX0_leaveRow_14 (by decide) (fun c => absurd c (by decide +kernel)) (fun _ => ?_)
      refine lv_aload_n hx hb dX0_leaveRow_17 rfl (lv_at hl 3 rfl) ?_
      refine lv_iload hx hb dX0_leaveRow_18 (lv_at hl 0 rfl) ?_
      refine k_aald X hW 2 1 rfl rfl (j := 2) (b := a 9) rfl (by decide) (by decide) rfl dX0_leaveRow_20 ?_
      refine lv_astore (lv' := [(5, .ref (a 9)), (4, .int (nI 2)), (3, .int (nI 3)), (2, .ref (a 2)), (0, .ref (a 0)), (1, .ref (a 7))]) hx hb dX0_leaveRow_21 hl (by decide) rfl (fun ls hl => ?_)
      refine lv_aload hx hb dX0_leaveRow_23 (lv_at hl 0 rfl) ?_
      refine k_getN X hW inG3 rfl 3 (by decide) fln_X0_96 rfl 9 rfl (v := .int (u 8 3)) rfl dX0_leaveRow_25 ?_
      refine lv_aload_n hx hb dX0_leaveRow_28 rfl (lv_at hl 5 rfl) ?_
      refine k_getN X hW inG3 rfl 3 (by decide) fln_X0_96 rfl 7 rfl (v := .int (u 6 3)) rfl dX0_leaveRow_29 ?_
      refine lv_icmp_le (tgt := 46) hx hb dX0_leaveRow_32 (by decide) (fun c_10 => ?_) (fun c_10 => ?_)
      · refine lv_iinc (v := nI 3) (lv' := [(4, .int (nI 3)), (5, .ref (a 9)), (3, .int (nI 3)), (2, .ref (a 2)), (0, .ref (a 0)), (1, .ref (a 7))]) hx hb dX0_leaveRow_46 hl (k := 1) rfl (k_inc _) (by decide) rfl (fun ls hl => ?_)
        refine lv_goto (tgt := 11) hx hb dX0_leaveRow_49 (by decide) ?_
        refine lv_iload hx hb dX0_leaveRow_11 (lv_at hl 0 rfl) ?_
        refine lv_iload_n hx hb dX0_leaveRow_13 rfl (lv_at hl 2 rfl) ?_
        refine lv_icmp_ge (tgt := 52) hx hb dX0_leaveRow_14 (by decide) (fun _ => ?_) (fun c => absurd (by decide +kernel) c)
        refine lv_aload_n hx hb dX0_leaveRow_52 rfl (lv_at hl 5 rfl) ?_
        refine lv_iconst (v := (-1)) hx hb dX0_leaveRow_53 (by decide +kernel) ?_
        refine k_putN X hW inG3 rfl tyX3_ok nmX3 3 (by decide) fln_X0_96 rfl rfl 7 rfl rfl rfl (Nat.le_of_ble_eq_true rfl) dX0_leaveRow_54 (w' := cardW k a (st2 (st2 u 6 (upd (u 6) 3 (-1))) 7 (upd (u 7) 3 ((u 7 3) - (nI 1))))) rfl (fun H locs hW => ?_)
        exact hQ _ _ _ _ _ hW dX0_leaveRow_57 (by rw [m_X0_leaveRow_0_u, if_pos c_2, if_neg c_4, if_pos c_10])
      · refine lv_aload hx hb dX0_leaveRow_35 (lv_at hl 0 rfl) ?_
        refine lv_dup hx hb dX0_leaveRow_37 rfl ?_
        refine k_getN X hW inG3 rfl 3 (by decide) fln_X0_96 rfl 9 rfl (v := .int (u 8 3)) rfl dX0_leaveRow_38 ?_
        refine lv_iconst (v := nI 1) hx hb dX0_leaveRow_41 (by decide +kernel) ?_
        refine lv_isub hx hb dX0_leaveRow_42 ?_
        refine k_putN X hW inG3 rfl tyX3_ok nmX3 3 (by decide) fln_X0_96 rfl rfl 9 rfl rfl rfl (Nat.le_of_ble_eq_true rfl) dX0_leaveRow_43 (w' := cardW k a (st2 (st2 u 7 (upd (u 7) 3 ((u 7 3) - (nI 1)))) 8 (upd (u 8) 3 ((u 8 3) - (nI 1))))) rfl (fun H locs hW => ?_)
        refine lv_iinc (v := nI 3) (lv' := [(4, .int (nI 3)), (5, .ref (a 9)), (3, .int (nI 3)), (2, .ref (a 2)), (0, .ref (a 0)), (1, .ref (a 7))]) hx hb dX0_leaveRow_46 hl (k := 1) rfl (k_inc _) (by decide) rfl (fun ls hl => ?_)
        refine lv_goto (tgt := 11) hx hb dX0_leaveRow_49 (by decide) ?_
        refine lv_iload hx hb dX0_leaveRow_11 (lv_at hl 0 rfl) ?_
        refine lv_iload_n hx hb dX0_leaveRow_13 rfl (lv_at hl 2 rfl) ?_
        refine lv_icmp_ge (tgt := 52) hx hb dX0_leaveRow_14 (by decide) (fun _ => ?_) (fun c => absurd (by decide +kernel) c)
        refine lv_aload_n hx hb dX0_leaveRow_52 rfl (lv_at hl 5 rfl) ?_
        refine lv_iconst (v := (-1)) hx hb dX0_leaveRow_53 (by decide +kernel) ?_
        refine k_putN X hW inG3 rfl tyX3_ok nmX3 3 (by decide) fln_X0_96 rfl rfl 7 rfl rfl rfl (Nat.le_of_ble_eq_true rfl) dX0_leaveRow_54 (w' := cardW k a (st2 (st2 (st2 u 6 (upd (u 6) 3 (-1))) 7 (upd (u 7) 3 ((u 7 3) - (nI 1)))) 8 (upd (u 8) 3 ((u 8 3) - (nI 1))))) rfl (fun H locs hW => ?_)
        exact hQ _ _ _ _ _ hW dX0_leaveRow_57 (by rw [m_X0_leaveRow_0_u, if_pos c_2, if_neg c_4, if_neg c_10])
  · refine lv_aload hx hb dX0_leaveRow_35 (lv_at hl 0 rfl) ?_
    refine lv_dup hx hb dX0_leaveRow_37 rfl ?_
    refine k_getN X hW inG3 rfl 3 (by decide) fln_X0_96 rfl 7 rfl (v := .int (u 6 3)) rfl dX0_leaveRow_38 ?_
    refine lv_iconst (v := nI 1) hx hb dX0_leaveRow_41 (by decide +kernel) ?_
    refine lv_isub hx hb dX0_leaveRow_42 ?_
    refine k_putN X hW inG3 rfl tyX3_ok nmX3 3 (by decide) fln_X0_96 rfl rfl 7 rfl rfl rfl (Nat.le_of_ble_eq_true rfl) dX0_leaveRow_43 (w' := cardW k a (st2 u 6 (upd (u 6) 3 ((u 6 3) - (nI 1))))) rfl (fun H locs hW => ?_)
    refine lv_iinc (v := nI 1) (lv' := [(4, .int (nI 1)), (5, .ref (a 7)), (3, .int (nI 3)), (2, .ref (a 2)), (0, .ref (a 0)), (1, .ref (a 7))]) hx hb dX0_leaveRow_46 hl (k := 1) rfl (k_inc _) (by decide) rfl (fun ls hl => ?_)
    refine lv_goto (tgt := 11) hx hb dX0_leaveRow_49 (by decide) ?_
    refine lv_iload hx hb dX0_leaveRow_11 (lv_at hl 0 rfl) ?_
    refine lv_iload_n hx hb dX0_leaveRow_13 rfl (lv_at hl 2 rfl) ?_
    refine lv_icmp_ge (tgt := 52) hx hb dX0_leaveRow_14 (by decide) (fun c => absurd c (by decide +kernel)) (fun _ => ?_)
    refine lv_aload_n hx hb dX0_leaveRow_17 rfl (lv_at hl 3 rfl) ?_
    refine lv_iload hx hb dX0_leaveRow_18 (lv_at hl 0 rfl) ?_
    refine k_aald X hW 2 1 rfl rfl (j := 1) (b := a 8) rfl (by decide) (by decide) rfl dX0_leaveRow_20 ?_
    refine lv_astore (lv' := [(5, .ref (a 8)), (4, .int (nI 1)), (3, .int (nI 3)), (2, .ref (a 2)), (0, .ref (a 0)), (1, .ref (a 7))]) hx hb dX0_leaveRow_21 hl (by decide) rfl (fun ls hl => ?_)
    refine lv_aload hx hb dX0_leaveRow_23 (lv_at hl 0 rfl) ?_
    refine k_getN X hW inG3 rfl 3 (by decide) fln_X0_96 rfl 8 rfl (v := .int (u 7 3)) rfl dX0_leaveRow_25 ?_
    refine lv_aload_n hx hb dX0_leaveRow_28 rfl (lv_at hl 5 rfl) ?_
    refine k_getN X hW inG3 rfl 3 (by decide) fln_X0_96 rfl 7 rfl (v := .int ((u 6 3) - (nI 1))) rfl dX0_leaveRow_29 ?_
    refine lv_icmp_le (tgt := 46) hx hb dX0_leaveRow_32 (by decide) (fun c_14 => ?_) (fun c_14 => ?_)
    · refine lv_iinc (v := nI 2) (lv' := [(4, .int (nI 2)), (5, .ref (a 8)), (3, .int (nI 3)), (2, .ref (a 2)), (0, .ref (a 0)), (1, .ref (a 7))]) hx hb dX0_leaveRow_46 hl (k := 1) rfl (k_inc _) (by decide) rfl (fun ls hl => ?_)
      refine lv_goto (tgt := 11) hx hb dX0_leaveRow_49 (by decide) ?_
      refine lv_iload hx hb dX0_leaveRow_11 (lv_at hl 0 rfl) ?_
      refine lv_iload_n hx hb dX0_leaveRow_13 rfl (lv_at hl 2 rfl) ?_
      refine lv_icmp_ge (tgt := 52) hx hb dX0_leaveRow_14 (by decide) (fun c => absurd c (by decide +kernel)) (fun _ => ?_)
      refine lv_aload_n hx hb dX0_leaveRow_17 rfl (lv_at hl 3 rfl) ?_
      refine lv_iload hx hb dX0_leaveRow_18 (lv_at hl 0 rfl) ?_
      refine k_aald X hW 2 1 rfl rfl (j := 2) (b := a 9) rfl (by decide) (by decide) rfl dX0_leaveRow_20 ?_
      refine lv_astore (lv' := [(5, .ref (a 9)), (4, .int (nI 2)), (3, .int (nI 3)), (2, .ref (a 2)), (0, .ref (a 0)), (1, .ref (a 7))]) hx hb dX0_leaveRow_21 hl (by decide) rfl (fun ls hl => ?_)
      refine lv_aload hx hb dX0_leaveRow_23 (lv_at hl 0 rfl) ?_
      refine k_getN X hW inG3 rfl 3 (by decide) fln_X0_96 rfl 9 rfl (v := .int (u 8 3)) rfl dX0_leaveRow_25 ?_
      refine lv_aload_n hx hb dX0_leaveRow_28 rfl (lv_at hl 5 rfl) ?_
      refine k_getN X hW inG3 rfl 3 (by decide) fln_X0_96 rfl 7 rfl (v := .int ((u 6 3) - (nI 1))) rfl dX0_leaveRow_29 ?_
      refine lv_icmp_le (tgt := 46) hx hb dX0_leaveRow_32 (by decide) (fun c_16 => ?_) (fun c_16 => ?_)
      · refine lv_iinc (v := nI 3) (lv' := [(4, .int (nI 3)), (5, .ref (a 9)), (3, .int (nI 3)), (2, .ref (a 2)), (0, .ref (a 0)), (1, .ref (a 7))]) hx hb dX0_leaveRow_46 hl (k := 1) rfl (k_inc _) (by decide) rfl (fun ls hl => ?_)
        refine lv_goto (tgt := 11) hx hb dX0_leaveRow_49 (by decide) ?_
        refine lv_iload hx hb dX0_leaveRow_11 (lv_at hl 0 rfl) ?_
        refine lv_iload_n hx hb dX0_leaveRow_13 rfl (lv_at hl 2 rfl) ?_
        refine lv_icmp_ge (tgt := 52) hx hb dX0_leaveRow_14 (by decide) (fun _ => ?_) (fun c => absurd (by decide +kernel) c)
        refine lv_aload_n hx hb dX0_leaveRow_52 rfl (lv_at hl 5 rfl) ?_
        refine lv_iconst (v := (-1)) hx hb dX0_leaveRow_53 (by decide +kernel) ?_
        refine k_putN X hW inG3 rfl tyX3_ok nmX3 3 (by decide) fln_X0_96 rfl rfl 7 rfl rfl rfl (Nat.le_of_ble_eq_true rfl) dX0_leaveRow_54 (w' := cardW k a (st2 u 6 (upd (u 6) 3 (-1)))) rfl (fun H locs hW => ?_)
        exact hQ _ _ _ _ _ hW dX0_leaveRow_57 (by rw [m_X0_leaveRow_0_u, if_neg c_2, if_pos c_14, if_pos c_16])
      · refine lv_aload hx hb dX0_leaveRow_35 (lv_at hl 0 rfl) ?_
        refine lv_dup hx hb dX0_leaveRow_37 rfl ?_
        refine k_getN X hW inG3 rfl 3 (by decide) fln_X0_96 rfl 9 rfl (v := .int (u 8 3)) rfl dX0_leaveRow_38 ?_
        refine lv_iconst (v := nI 1) hx hb dX0_leaveRow_41 (by decide +kernel) ?_
        refine lv_isub hx hb dX0_leaveRow_42 ?_
        refine k_putN X hW inG3 rfl tyX3_ok nmX3 3 (by decide) fln_X0_96 rfl rfl 9 rfl rfl rfl (Nat.le_of_ble_eq_true rfl) dX0_leaveRow_43 (w' := cardW k a (st2 (st2 u 6 (upd (u 6) 3 ((u 6 3) - (nI 1)))) 8 (upd (u 8) 3 ((u 8 3) - (nI 1))))) rfl (fun H locs hW => ?_)
        refine lv_iinc (v := nI 3) (lv' := [(4, .int (nI 3)), (5, .ref (a 9)), (3, .int (nI 3)), (2, .ref (a 2)), (0, .ref (a 0)), (1, .ref (a 7))]) hx hb dX0_leaveRow_46 hl (k := 1) rfl (k_inc _) (by decide) rfl (fun ls hl => ?_)
        refine lv_goto (tgt := 11) hx hb dX0_leaveRow_49 (by decide) ?_
        refine lv_iload hx hb dX0_leaveRow_11 (lv_at hl 0 rfl) ?_
        refine lv_iload_n hx hb dX0_leaveRow_13 rfl (lv_at hl 2 rfl) ?_
        refine lv_icmp_ge (tgt := 52) hx hb dX0_leaveRow_14 (by decide) (fun _ => ?_) (fun c => absurd (by decide +kernel) c)
        refine lv_aload_n hx hb dX0_leaveRow_52 rfl (lv_at hl 5 rfl) ?_
        refine lv_iconst (v := (-1)) hx hb dX0_leaveRow_53 (by decide +kernel) ?_
        refine k_putN X hW inG3 rfl tyX3_ok nmX3 3 (by decide) fln_X0_96 rfl rfl 7 rfl rfl rfl (Nat.le_of_ble_eq_true rfl) dX0_leaveRow_54 (w' := cardW k a (st2 (st2 u 6 (upd (u 6) 3 (-1))) 8 (upd (u 8) 3 ((u 8 3) - (nI 1))))) rfl (fun H locs hW => ?_)
        exact hQ _ _ _ _ _ hW dX0_leaveRow_57 (by rw [m_X0_leaveRow_0_u, if_neg c_2, if_pos c_14, if_neg c_16])
    · refine lv_aload hx hb dX0_leaveRow_35 (lv_at hl 0 rfl) ?_
      refine lv_dup hx hb dX0_leaveRow_37 rfl ?_
      refine k_getN X hW inG3 rfl 3 (by decide) fln_X0_96 rfl 8 rfl (v := .int (u 7 3)) rfl dX0_leaveRow_38 ?_
      refine lv_iconst (v := nI 1) hx hb dX0_leaveRow_41 (by decide +kernel) ?_
      refine lv_isub hx hb dX0_leaveRow_42 ?_
      refine k_putN X hW inG3 rfl tyX3_ok nmX3 3 (by decide) fln_X0_96 rfl rfl 8 rfl rfl rfl (Nat.le_of_ble_eq_true rfl) dX0_leaveRow_43 (w' := cardW k a (st2 (st2 u 6 (upd (u 6) 3 ((u 6 3) - (nI 1)))) 7 (upd (u 7) 3 ((u 7 3) - (nI 1))))) rfl (fun H locs hW => ?_)
      refine lv_iinc (v := nI 2) (lv' := [(4, .int (nI 2)), (5, .ref (a 8)), (3, .int (nI 3)), (2, .ref (a 2)), (0, .ref (a 0)), (1, .ref (a 7))]) hx hb dX0_leaveRow_46 hl (k := 1) rfl (k_inc _) (by decide) rfl (fun ls hl => ?_)
      refine lv_goto (tgt := 11) hx hb dX0_leaveRow_49 (by decide) ?_
      refine lv_iload hx hb dX0_leaveRow_11 (lv_at hl 0 rfl) ?_
      refine lv_iload_n hx hb dX0_leaveRow_13 rfl (lv_at hl 2 rfl) ?_
      refine lv_icmp_ge (tgt := 52) hx hb dX0_leaveRow_14 (by decide) (fun c => absurd c (by decide +kernel)) (fun _ => ?_)
      refine lv_aload_n hx hb dX0_leaveRow_17 rfl (lv_at hl 3 rfl) ?_
      refine lv_iload hx hb dX0_leaveRow_18 (lv_at hl 0 rfl) ?_
      refine k_aald X hW 2 1 rfl rfl (j := 2) (b := a 9) rfl (by decide) (by decide) rfl dX0_leaveRow_20 ?_
      refine lv_astore (lv' := [(5, .ref (a 9)), (4, .int (nI 2)), (3, .int (nI 3)), (2, .ref (a 2)), (0, .ref (a 0)), (1, .ref (a 7))]) hx hb dX0_leaveRow_21 hl (by decide) rfl (fun ls hl => ?_)
      refine lv_aload hx hb dX0_leaveRow_23 (lv_at hl 0 rfl) ?_
      refine k_getN X hW inG3 rfl 3 (by decide) fln_X0_96 rfl 9 rfl (v := .int (u 8 3)) rfl dX0_leaveRow_25 ?_
      refine lv_aload_n hx hb dX0_leaveRow_28 rfl (lv_at hl 5 rfl) ?_
      refine k_getN X hW inG3 rfl 3 (by decide) fln_X0_96 rfl 7 rfl (v := .int ((u 6 3) - (nI 1))) rfl dX0_leaveRow_29 ?_
      refine lv_icmp_le (tgt := 46) hx hb dX0_leaveRow_32 (by decide) (fun c_20 => ?_) (fun c_20 => ?_)
      · refine lv_iinc (v := nI 3) (lv' := [(4, .int (nI 3)), (5, .ref (a 9)), (3, .int (nI 3)), (2, .ref (a 2)), (0, .ref (a 0)), (1, .ref (a 7))]) hx hb dX0_leaveRow_46 hl (k := 1) rfl (k_inc _) (by decide) rfl (fun ls hl => ?_)
        refine lv_goto (tgt := 11) hx hb dX0_leaveRow_49 (by decide) ?_
        refine lv_iload hx hb dX0_leaveRow_11 (lv_at hl 0 rfl) ?_
        refine lv_iload_n hx hb dX0_leaveRow_13 rfl (lv_at hl 2 rfl) ?_
        refine lv_icmp_ge (tgt := 52) hx hb dX0_leaveRow_14 (by decide) (fun _ => ?_) (fun c => absurd (by decide +kernel) c)
        refine lv_aload_n hx hb dX0_leaveRow_52 rfl (lv_at hl 5 rfl) ?_
        refine lv_iconst (v := (-1)) hx hb dX0_leaveRow_53 (by decide +kernel) ?_
        refine k_putN X hW inG3 rfl tyX3_ok nmX3 3 (by decide) fln_X0_96 rfl rfl 7 rfl rfl rfl (Nat.le_of_ble_eq_true rfl) dX0_leaveRow_54 (w' := cardW k a (st2 (st2 u 6 (upd (u 6) 3 (-1))) 7 (upd (u 7) 3 ((u 7 3) - (nI 1))))) rfl (fun H locs hW => ?_)
        exact hQ _ _ _ _ _ hW dX0_leaveRow_57 (by rw [m_X0_leaveRow_0_u, if_neg c_2, if_neg c_14, if_pos c_20])
      · refine lv_aload hx hb dX0_leaveRow_35 (lv_at hl 0 rfl) ?_
        refine lv_dup hx hb dX0_leaveRow_37 rfl ?_
        refine k_getN X hW inG3 rfl 3 (by decide) fln_X0_96 rfl 9 rfl (v := .int (u 8 3)) rfl dX0_leaveRow_38 ?_
        refine lv_iconst (v := nI 1) hx hb dX0_leaveRow_41 (by decide +kernel) ?_
        refine lv_isub hx hb dX0_leaveRow_42 ?_
        refine k_putN X hW inG3 rfl tyX3_ok nmX3 3 (by decide) fln_X0_96 rfl rfl 9 rfl rfl rfl (Nat.le_of_ble_eq_true rfl) dX0_leaveRow_43 (w' := cardW k a (st2 (st2 (st2 u 6 (upd (u 6) 3 ((u 6 3) - (nI 1)))) 7 (upd (u 7) 3 ((u 7 3) - (nI 1)))) 8 (upd (u 8) 3 ((u 8 3) - (nI 1))))) rfl (fun H locs hW => ?_)
        refine lv_iinc (v := nI 3) (lv' := [(4, .int (nI 3)), (5, .ref (a 9)), (3, .int (nI 3)), (2, .ref (a 2)), (0, .ref (a 0)), (1, .ref (a 7))]) hx hb dX0_leaveRow_46 hl (k := 1) rfl (k_inc _) (by decide) rfl (fun ls hl => ?_)
        refine lv_goto (tgt := 11) hx hb dX0_leaveRow_49 (by decide) ?_
        refine lv_iload hx hb dX0_leaveRow_11 (lv_at hl 0 rfl) ?_
        refine lv_iload_n hx hb dX0_leaveRow_13 rfl (lv_at hl 2 rfl) ?_
        refine lv_icmp_ge (tgt := 52) hx hb dX0_leaveRow_14 (by decide) (fun _ => ?_) (fun c => absurd (by decide +kernel) c)
        refine lv_aload_n hx hb dX0_leaveRow_52 rfl (lv_at hl 5 rfl) ?_
        refine lv_iconst (v := (-1)) hx hb dX0_leaveRow_53 (by decide +kernel) ?_
        refine k_putN X hW inG3 rfl tyX3_ok nmX3 3 (by decide) fln_X0_96 rfl rfl 7 rfl rfl rfl (Nat.le_of_ble_eq_true rfl) dX0_leaveRow_54 (w' := cardW k a (st2 (st2 (st2 u 6 (upd (u 6) 3 (-1))) 7 (upd (u 7) 3 ((u 7 3) - (nI 1)))) 8 (upd (u 8) 3 ((u 8 3) - (nI 1))))) rfl (fun H locs hW => ?_)
        exact hQ _ _ _ _ _ hW dX0_leaveRow_57 (by rw [m_X0_leaveRow_0_u, if_neg c_2, if_neg c_14, if_neg c_20])
set_option maxHeartbeats 4000000 in
theorem CM_X0_leaveRow_0 {u : CS}  (h : CM u) : CM (m_X0_leaveRow_0_u u) := by
  rw [m_X0_leaveRow_0_u]
  split
  · split
    · split
      · exact (CM_stc h (by decide) (by decide))
      · exact (CM_stc (CM_stc h (by decide) (by decide)) (by decide) (by decide))
    · split
      · exact (CM_stc (CM_stc h (by decide) (by decide)) (by decide) (by decide))
      · exact (CM_stc (CM_stc (CM_stc h (by decide) (by decide)) (by decide) (by decide)) (by decide) (by decide))
  · split
    · split
      · exact (CM_stc h (by decide) (by decide))
      · exact (CM_stc (CM_stc h (by decide) (by decide)) (by decide) (by decide))
    · split
      · exact (CM_stc (CM_stc h (by decide) (by decide)) (by decide) (by decide))
      · exact (CM_stc (CM_stc (CM_stc h (by decide) (by decide)) (by decide) (by decide)) (by decide) (by decide))
def m_X0_leaveRow_1_u (u : CS) : CS := if u 6 3 ≤ u 7 3 then (if u 7 3 ≤ u 7 3 then (if u 8 3 ≤ u 7 3 then st2 u 7 (upd (u 7) 3 (-1)) else st2 (st2 u 7 (upd (u 7) 3 (-1))) 8 (upd (u 8) 3 ((u 8 3) - (nI 1)))) else if u 8 3 ≤ (u 7 3) - (nI 1) then st2 u 7 (upd (u 7) 3 (-1)) else st2 (st2 u 7 (upd (u 7) 3 (-1))) 8 (upd (u 8) 3 ((u 8 3) - (nI 1)))) else if u 7 3 ≤ u 7 3 then (if u 8 3 ≤ u 7 3 then st2 (st2 u 6 (upd (u 6) 3 ((u 6 3) - (nI 1)))) 7 (upd (u 7) 3 (-1)) else st2 (st2 (st2 u 6 (upd (u 6) 3 ((u 6 3) - (nI 1)))) 7 (upd (u 7) 3 (-1))) 8 (upd (u 8) 3 ((u 8 3) - (nI 1)))) else if u 8 3 ≤ (u 7 3) - (nI 1) then st2 (st2 u 6 (upd (u 6) 3 ((u 6 3) - (nI 1)))) 7 (upd (u 7) 3 (-1)) else st2 (st2 (st2 u 6 (upd (u 6) 3 ((u 6 3) - (nI 1)))) 7 (upd (u 7) 3 (-1))) 8 (upd (u 8) 3 ((u 8 3) - (nI 1)))
set_option maxHeartbeats 4000000 in
set_option maxRecDepth 100000 in
theorem c_X0_leaveRow_1 (l : Launch) (D : va_G) (k : Nat → ClassId) (a : Nat → Nat) (u : CS)   : mV l yX0_leaveRow (wsY yX0_leaveRow cX0_leaveRow 6 none) 0 D k [.ref (a 0), .ref (a 8)] (cardW k a u) (cardW k a (m_X0_leaveRow_1_u u)) := by
  refine mV_intro rfl (Nat.le_of_ble_eq_true rfl) ?_
  intro p e s m args below meth c A Q ls X hW hl hQ
  have hx := X.hx
  have hb := X.hb
  have hl : lv_has ls 6 [(0, .ref (a 0)), (1, .ref (a 8))] := hl
  refine lv_aload_n hx hb dX0_leaveRow_0 rfl (lv_at hl 0 rfl) ?_
  refine k_get X hW inG0 rfl 1 (by decide) fl_X0_20 rfl 0 rfl (v := .ref (a 2)) rfl dX0_leaveRow_1 ?_
  refine lv_astore_n (lv' := [(2, .ref (a 2)), (0, .ref (a 0)), (1, .ref (a 8))]) hx hb dX0_leaveRow_4 rfl hl (by decide) rfl (fun ls hl => ?_)
  refine lv_aload_n hx hb dX0_leaveRow_5 rfl (lv_at hl 0 rfl) ?_
  refine k_alen X hW 2 1 rfl rfl (v := nI 3) rfl dX0_leaveRow_6 ?_
  refine lv_istore_n (lv' := [(3, .int (nI 3)), (2, .ref (a 2)), (0, .ref (a 0)), (1, .ref (a 8))]) hx hb dX0_leaveRow_7 rfl hl (by decide) rfl (fun ls hl => ?_)
  refine lv_iconst (v := nI 0) hx hb dX0_leaveRow_8 (by decide +kernel) ?_
  refine lv_istore (lv' := [(4, .int (nI 0)), (3, .int (nI 3)), (2, .ref (a 2)), (0, .ref (a 0)), (1, .ref (a 8))]) hx hb dX0_leaveRow_9 hl (by decide) rfl (fun ls hl => ?_)
  refine lv_iload hx hb dX0_leaveRow_11 (lv_at hl 0 rfl) ?_
  refine lv_iload_n hx hb dX0_leaveRow_13 rfl (lv_at hl 1 rfl) ?_
  refine lv_icmp_ge (tgt := 52) hx hb dX0_leaveRow_14 (by decide) (fun c => absurd c (by decide +kernel)) (fun _ => ?_)
  refine lv_aload_n hx hb dX0_leaveRow_17 rfl (lv_at hl 2 rfl) ?_
  refine lv_iload hx hb dX0_leaveRow_18 (lv_at hl 0 rfl) ?_
  refine k_aald X hW 2 1 rfl rfl (j := 0) (b := a 7) rfl (by decide) (by decide) rfl dX0_leaveRow_20 ?_
  refine lv_astore (lv' := [(5, .ref (a 7)), (4, .int (nI 0)), (3, .int (nI 3)), (2, .ref (a 2)), (0, .ref (a 0)), (1, .ref (a 8))]) hx hb dX0_leaveRow_21 hl (by decide) rfl (fun ls hl => ?_)
  refine lv_aload hx hb dX0_leaveRow_23 (lv_at hl 0 rfl) ?_
  refine k_getN X hW inG3 rfl 3 (by decide) fln_X0_96 rfl 7 rfl (v := .int (u 6 3)) rfl dX0_leaveRow_25 ?_
  refine lv_aload_n hx hb dX0_leaveRow_28 rfl (lv_at hl 5 rfl) ?_
  refine k_getN X hW inG3 rfl 3 (by decide) fln_X0_96 rfl 8 rfl (v := .int (u 7 3)) rfl dX0_leaveRow_29 ?_
  refine lv_icmp_le (tgt := 46) hx hb dX0_leaveRow_32 (by decide) (fun c_2 => ?_) (fun c_2 => ?_)
  · refine lv_iinc (v := nI 1) (lv' := [(4, .int (nI 1)), (5, .ref (a 7)), (3, .int (nI 3)), (2, .ref (a 2)), (0, .ref (a 0)), (1, .ref (a 8))]) hx hb dX0_leaveRow_46 hl (k := 1) rfl (k_inc _) (by decide) rfl (fun ls hl => ?_)
    refine lv_goto (tgt := 11) hx hb dX0_leaveRow_49 (by decide) ?_
    refine lv_iload hx hb dX0_leaveRow_11 (lv_at hl 0 rfl) ?_
    refine lv_iload_n hx hb dX0_leaveRow_13 rfl (lv_at hl 2 rfl) ?_
    refine lv_icmp_ge (tgt := 52) hx hb dX0_leaveRow_14 (by decide) (fun c => absurd c (by decide +kernel)) (fun _ => ?_)
    refine lv_aload_n hx hb dX0_leaveRow_17 rfl (lv_at hl 3 rfl) ?_
    refine lv_iload hx hb dX0_leaveRow_18 (lv_at hl 0 rfl) ?_
    refine k_aald X hW 2 1 rfl rfl (j := 1) (b := a 8) rfl (by decide) (by decide) rfl dX0_leaveRow_20 ?_
    refine lv_astore (lv' := [(5, .ref (a 8)), (4, .int (nI 1)), (3, .int (nI 3)), (2, .ref (a 2)), (0, .ref (a 0)), (1, .ref (a 8))]) hx hb dX0_leaveRow_21 hl (by decide) rfl (fun ls hl => ?_)
    refine lv_aload hx hb dX0_leaveRow_23 (lv_at hl 0 rfl) ?_
    refine k_getN X hW inG3 rfl 3 (by decide) fln_X0_96 rfl 8 rfl (v := .int (u 7 3)) rfl dX0_leaveRow_25 ?_
    refine lv_aload_n hx hb dX0_leaveRow_28 rfl (lv_at hl 5 rfl) ?_
    refine k_getN X hW inG3 rfl 3 (by decide) fln_X0_96 rfl 8 rfl (v := .int (u 7 3)) rfl dX0_leaveRow_29 ?_
    refine lv_icmp_le (tgt := 46) hx hb dX0_leaveRow_32 (by decide) (fun c_4 => ?_) (fun c_4 => ?_)
    · refine lv_iinc (v := nI 2) (lv' := [(4, .int (nI 2)), (5, .ref (a 8)), (3, .int (nI 3)), (2, .ref (a 2)), (0, .ref (a 0)), (1, .ref (a 8))]) hx hb dX0_leaveRow_46 hl (k := 1) rfl (k_inc _) (by decide) rfl (fun ls hl => ?_)
      refine lv_goto (tgt := 11) hx hb dX0_leaveRow_49 (by decide) ?_
      refine lv_iload hx hb dX0_leaveRow_11 (lv_at hl 0 rfl) ?_
      refine lv_iload_n hx hb dX0_leaveRow_13 rfl (lv_at hl 2 rfl) ?_
      refine lv_icmp_ge (tgt := 52) hx hb dX0_leaveRow_14 (by decide) (fun c => absurd c (by decide +kernel)) (fun _ => ?_)
      refine lv_aload_n hx hb dX0_leaveRow_17 rfl (lv_at hl 3 rfl) ?_
      refine lv_iload hx hb dX0_leaveRow_18 (lv_at hl 0 rfl) ?_
      refine k_aald X hW 2 1 rfl rfl (j := 2) (b := a 9) rfl (by decide) (by decide) rfl dX0_leaveRow_20 ?_
      refine lv_astore (lv' := [(5, .ref (a 9)), (4, .int (nI 2)), (3, .int (nI 3)), (2, .ref (a 2)), (0, .ref (a 0)), (1, .ref (a 8))]) hx hb dX0_leaveRow_21 hl (by decide) rfl (fun ls hl => ?_)
      refine lv_aload hx hb dX0_leaveRow_23 (lv_at hl 0 rfl) ?_
      refine k_getN X hW inG3 rfl 3 (by decide) fln_X0_96 rfl 9 rfl (v := .int (u 8 3)) rfl dX0_leaveRow_25 ?_
      refine lv_aload_n hx hb dX0_leaveRow_28 rfl (lv_at hl 5 rfl) ?_
      refine k_getN X hW inG3 rfl 3 (by decide) fln_X0_96 rfl 8 rfl (v := .int (u 7 3)) rfl dX0_leaveRow_29 ?_
      refine lv_icmp_le (tgt := 46) hx hb dX0_leaveRow_32 (by decide) (fun c_6 => ?_) (fun c_6 => ?_)
      · refine lv_iinc (v := nI 3) (lv' := [(4, .int (nI 3)), (5, .ref (a 9)), (3, .int (nI 3)), (2, .ref (a 2)), (0, .ref (a 0)), (1, .ref (a 8))]) hx hb dX0_leaveRow_46 hl (k := 1) rfl (k_inc _) (by decide) rfl (fun ls hl => ?_)
        refine lv_goto (tgt := 11) hx hb dX0_leaveRow_49 (by decide) ?_
        refine lv_iload hx hb dX0_leaveRow_11 (lv_at hl 0 rfl) ?_
        refine lv_iload_n hx hb dX0_leaveRow_13 rfl (lv_at hl 2 rfl) ?_
        refine lv_icmp_ge (tgt := 52) hx hb dX0_leaveRow_14 (by decide) (fun _ => ?_) (fun c => absurd (by decide +kernel) c)
        refine lv_aload_n hx hb dX0_leaveRow_52 rfl (lv_at hl 5 rfl) ?_
        refine lv_iconst (v := (-1)) hx hb dX0_leaveRow_53 (by decide +kernel) ?_
        refine k_putN X hW inG3 rfl tyX3_ok nmX3 3 (by decide) fln_X0_96 rfl rfl 8 rfl rfl rfl (Nat.le_of_ble_eq_true rfl) dX0_leaveRow_54 (w' := cardW k a (st2 u 7 (upd (u 7) 3 (-1)))) rfl (fun H locs hW => ?_)
        exact hQ _ _ _ _ _ hW dX0_leaveRow_57 (by rw [m_X0_leaveRow_1_u, if_pos c_2, if_pos c_4, if_pos c_6])
      · refine lv_aload hx hb dX0_leaveRow_35 (lv_at hl 0 rfl) ?_
        refine lv_dup hx hb dX0_leaveRow_37 rfl ?_
        refine k_getN X hW inG3 rfl 3 (by decide) fln_X0_96 rfl 9 rfl (v := .int (u 8 3)) rfl dX0_leaveRow_38 ?_
        refine lv_iconst (v := nI 1) hx hb dX0_leaveRow_41 (by decide +kernel) ?_
        refine lv_isub hx hb dX0_leaveRow_42 ?_
        refine k_putN X hW inG3 rfl tyX3_ok nmX3 3 (by decide) fln_X0_96 rfl rfl 9 rfl rfl rfl (Nat.le_of_ble_eq_true rfl) dX0_leaveRow_43 (w' := cardW k a (st2 u 8 (upd (u 8) 3 ((u 8 3) - (nI 1))))) rfl (fun H locs hW => ?_)
        refine lv_iinc (v := nI 3) (lv' := [(4, .int (nI 3)), (5, .ref (a 9)), (3, .int (nI 3)), (2, .ref (a 2)), (0, .ref (a 0)), (1, .ref (a 8))]) hx hb dX0_leaveRow_46 hl (k := 1) rfl (k_inc _) (by decide) rfl (fun ls hl => ?_)
        refine lv_goto (tgt := 11) hx hb dX0_leaveRow_49 (by decide) ?_
        refine lv_iload hx hb dX0_leaveRow_11 (lv_at hl 0 rfl) ?_
        refine lv_iload_n hx hb dX0_leaveRow_13 rfl (lv_at hl 2 rfl) ?_
        refine lv_icmp_ge (tgt := 52) hx hb dX0_leaveRow_14 (by decide) (fun _ => ?_) (fun c => absurd (by decide +kernel) c)
        refine lv_aload_n hx hb dX0_leaveRow_52 rfl (lv_at hl 5 rfl) ?_
        refine lv_iconst (v := (-1)) hx hb dX0_leaveRow_53 (by decide +kernel) ?_
        refine k_putN X hW inG3 rfl tyX3_ok nmX3 3 (by decide) fln_X0_96 rfl rfl 8 rfl rfl rfl (Nat.le_of_ble_eq_true rfl) dX0_leaveRow_54 (w' := cardW k a (st2 (st2 u 7 (upd (u 7) 3 (-1))) 8 (upd (u 8) 3 ((u 8 3) - (nI 1))))) rfl (fun H locs hW => ?_)
        exact hQ _ _ _ _ _ hW dX0_leaveRow_57 (by rw [m_X0_leaveRow_1_u, if_pos c_2, if_pos c_4, if_neg c_6])
    · refine lv_aload hx hb dX0_leaveRow_35 (lv_at hl 0 rfl) ?_
      refine lv_dup hx hb dX0_leaveRow_37 rfl ?_
      refine k_getN X hW inG3 rfl 3 (by decide) fln_X0_96 rfl 8 rfl (v := .int (u 7 3)) rfl dX0_leaveRow_38 ?_
      refine lv_iconst (v := nI 1) hx hb dX0_leaveRow_41 (by decide +kernel) ?_
      refine lv_isub hx hb dX0_leaveRow_42 ?_
      refine k_putN X hW inG3 rfl tyX3_ok nmX3 3 (by decide) fln_X0_96 rfl rfl 8 rfl rfl rfl (Nat.le_of_ble_eq_true rfl) dX0_leaveRow_43 (w' := cardW k a (st2 u 7 (upd (u 7) 3 ((u 7 3) - (nI 1))))) rfl (fun H locs hW => ?_)
      refine lv_iinc (v := nI 2) (lv' := [(4, .int (nI 2)), (5, .ref (a 8)), (3, .int (nI 3)), (2, .ref (a 2)), (0, .ref (a 0)), (1, .ref (a 8))]) hx hb dX0_leaveRow_46 hl (k := 1) rfl (k_inc _) (by decide) rfl (fun ls hl => ?_)
      refine lv_goto (tgt := 11) hx hb dX0_leaveRow_49 (by decide) ?_
      refine lv_iload hx hb dX0_leaveRow_11 (lv_at hl 0 rfl) ?_
      refine lv_iload_n hx hb dX0_leaveRow_13 rfl (lv_at hl 2 rfl) ?_
      refine lv_icmp_ge (tgt := 52) hx hb dX0_leaveRow_14 (by decide) (fun c => absurd c (by decide +kernel)) (fun _ => ?_)
      refine lv_aload_n hx hb dX0_leaveRow_17 rfl (lv_at hl 3 rfl) ?_
      refine lv_iload hx hb dX0_leaveRow_18 (lv_at hl 0 rfl) ?_
      refine k_aald X hW 2 1 rfl rfl (j := 2) (b := a 9) rfl (by decide) (by decide) rfl dX0_leaveRow_20 ?_
      refine lv_astore (lv' := [(5, .ref (a 9)), (4, .int (nI 2)), (3, .int (nI 3)), (2, .ref (a 2)), (0, .ref (a 0)), (1, .ref (a 8))]) hx hb dX0_leaveRow_21 hl (by decide) rfl (fun ls hl => ?_)
      refine lv_aload hx hb dX0_leaveRow_23 (lv_at hl 0 rfl) ?_
      refine k_getN X hW inG3 rfl 3 (by decide) fln_X0_96 rfl 9 rfl (v := .int (u 8 3)) rfl dX0_leaveRow_25 ?_
      refine lv_aload_n hx hb dX0_leaveRow_28 rfl (lv_at hl 5 rfl) ?_
      refine k_getN X hW inG3 rfl 3 (by decide) fln_X0_96 rfl 8 rfl (v := .int ((u 7 3) - (nI 1))) rfl dX0_leaveRow_29 ?_
      refine lv_icmp_le (tgt := 46) hx hb dX0_leaveRow_32 (by decide) (fun c_10 => ?_) (fun c_10 => ?_)
      · refine lv_iinc (v := nI 3) (lv' := [(4, .int (nI 3)), (5, .ref (a 9)), (3, .int (nI 3)), (2, .ref (a 2)), (0, .ref (a 0)), (1, .ref (a 8))]) hx hb dX0_leaveRow_46 hl (k := 1) rfl (k_inc _) (by decide) rfl (fun ls hl => ?_)
        refine lv_goto (tgt := 11) hx hb dX0_leaveRow_49 (by decide) ?_
        refine lv_iload hx hb dX0_leaveRow_11 (lv_at hl 0 rfl) ?_
        refine lv_iload_n hx hb dX0_leaveRow_13 rfl (lv_at hl 2 rfl) ?_
        refine lv_icmp_ge (tgt := 52) hx hb dX0_leaveRow_14 (by decide) (fun _ => ?_) (fun c => absurd (by decide +kernel) c)
        refine lv_aload_n hx hb dX0_leaveRow_52 rfl (lv_at hl 5 rfl) ?_
        refine lv_iconst (v := (-1)) hx hb dX0_leaveRow_53 (by decide +kernel) ?_
        refine k_putN X hW inG3 rfl tyX3_ok nmX3 3 (by decide) fln_X0_96 rfl rfl 8 rfl rfl rfl (Nat.le_of_ble_eq_true rfl) dX0_leaveRow_54 (w' := cardW k a (st2 u 7 (upd (u 7) 3 (-1)))) rfl (fun H locs hW => ?_)
        exact hQ _ _ _ _ _ hW dX0_leaveRow_57 (by rw [m_X0_leaveRow_1_u, if_pos c_2, if_neg c_4, if_pos c_10])
      · refine lv_aload hx hb dX0_leaveRow_35 (lv_at hl 0 rfl) ?_
        refine lv_dup hx hb dX0_leaveRow_37 rfl ?_
        refine k_getN X hW inG3 rfl 3 (by decide) fln_X0_96 rfl 9 rfl (v := .int (u 8 3)) rfl dX0_leaveRow_38 ?_
        refine lv_iconst (v := nI 1) hx hb dX0_leaveRow_41 (by decide +kernel) ?_
        refine lv_isub hx hb dX0_leaveRow_42 ?_
        refine k_putN X hW inG3 rfl tyX3_ok nmX3 3 (by decide) fln_X0_96 rfl rfl 9 rfl rfl rfl (Nat.le_of_ble_eq_true rfl) dX0_leaveRow_43 (w' := cardW k a (st2 (st2 u 7 (upd (u 7) 3 ((u 7 3) - (nI 1)))) 8 (upd (u 8) 3 ((u 8 3) - (nI 1))))) rfl (fun H locs hW => ?_)
        refine lv_iinc (v := nI 3) (lv' := [(4, .int (nI 3)), (5, .ref (a 9)), (3, .int (nI 3)), (2, .ref (a 2)), (0, .ref (a 0)), (1, .ref (a 8))]) hx hb dX0_leaveRow_46 hl (k := 1) rfl (k_inc _) (by decide) rfl (fun ls hl => ?_)
        refine lv_goto (tgt := 11) hx hb dX0_leaveRow_49 (by decide) ?_
        refine lv_iload hx hb dX0_leaveRow_11 (lv_at hl 0 rfl) ?_
        refine lv_iload_n hx hb dX0_leaveRow_13 rfl (lv_at hl 2 rfl) ?_
        refine lv_icmp_ge (tgt := 52) hx hb dX0_leaveRow_14 (by decide) (fun _ => ?_) (fun c => absurd (by decide +kernel) c)
        refine lv_aload_n hx hb dX0_leaveRow_52 rfl (lv_at hl 5 rfl) ?_
        refine lv_iconst (v := (-1)) hx hb dX0_leaveRow_53 (by decide +kernel) ?_
        refine k_putN X hW inG3 rfl tyX3_ok nmX3 3 (by decide) fln_X0_96 rfl rfl 8 rfl rfl rfl (Nat.le_of_ble_eq_true rfl) dX0_leaveRow_54 (w' := cardW k a (st2 (st2 u 7 (upd (u 7) 3 (-1))) 8 (upd (u 8) 3 ((u 8 3) - (nI 1))))) rfl (fun H locs hW => ?_)
        exact hQ _ _ _ _ _ hW dX0_leaveRow_57 (by rw [m_X0_leaveRow_1_u, if_pos c_2, if_neg c_4, if_neg c_10])
  · refine lv_aload hx hb dX0_leaveRow_35 (lv_at hl 0 rfl) ?_
    refine lv_dup hx hb dX0_leaveRow_37 rfl ?_
    refine k_getN X hW inG3 rfl 3 (by decide) fln_X0_96 rfl 7 rfl (v := .int (u 6 3)) rfl dX0_leaveRow_38 ?_
    refine lv_iconst (v := nI 1) hx hb dX0_leaveRow_41 (by decide +kernel) ?_
    refine lv_isub hx hb dX0_leaveRow_42 ?_
    refine k_putN X hW inG3 rfl tyX3_ok nmX3 3 (by decide) fln_X0_96 rfl rfl 7 rfl rfl rfl (Nat.le_of_ble_eq_true rfl) dX0_leaveRow_43 (w' := cardW k a (st2 u 6 (upd (u 6) 3 ((u 6 3) - (nI 1))))) rfl (fun H locs hW => ?_)
    refine lv_iinc (v := nI 1) (lv' := [(4, .int (nI 1)), (5, .ref (a 7)), (3, .int (nI 3)), (2, .ref (a 2)), (0, .ref (a 0)), (1, .ref (a 8))]) hx hb dX0_leaveRow_46 hl (k := 1) rfl (k_inc _) (by decide) rfl (fun ls hl => ?_)
    refine lv_goto (tgt := 11) hx hb dX0_leaveRow_49 (by decide) ?_
    refine lv_iload hx hb dX0_leaveRow_11 (lv_at hl 0 rfl) ?_
    refine lv_iload_n hx hb dX0_leaveRow_13 rfl (lv_at hl 2 rfl) ?_
    refine lv_icmp_ge (tgt := 52) hx hb dX0_leaveRow_14 (by decide) (fun c => absurd c (by decide +kernel)) (fun _ => ?_)
    refine lv_aload_n hx hb dX0_leaveRow_17 rfl (lv_at hl 3 rfl) ?_
    refine lv_iload hx hb dX0_leaveRow_18 (lv_at hl 0 rfl) ?_
    refine k_aald X hW 2 1 rfl rfl (j := 1) (b := a 8) rfl (by decide) (by decide) rfl dX0_leaveRow_20 ?_
    refine lv_astore (lv' := [(5, .ref (a 8)), (4, .int (nI 1)), (3, .int (nI 3)), (2, .ref (a 2)), (0, .ref (a 0)), (1, .ref (a 8))]) hx hb dX0_leaveRow_21 hl (by decide) rfl (fun ls hl => ?_)
    refine lv_aload hx hb dX0_leaveRow_23 (lv_at hl 0 rfl) ?_
    refine k_getN X hW inG3 rfl 3 (by decide) fln_X0_96 rfl 8 rfl (v := .int (u 7 3)) rfl dX0_leaveRow_25 ?_
    refine lv_aload_n hx hb dX0_leaveRow_28 rfl (lv_at hl 5 rfl) ?_
    refine k_getN X hW inG3 rfl 3 (by decide) fln_X0_96 rfl 8 rfl (v := .int (u 7 3)) rfl dX0_leaveRow_29 ?_
    refine lv_icmp_le (tgt := 46) hx hb dX0_leaveRow_32 (by decide) (fun c_14 => ?_) (fun c_14 => ?_)
    · refine lv_iinc (v := nI 2) (lv' := [(4, .int (nI 2)), (5, .ref (a 8)), (3, .int (nI 3)), (2, .ref (a 2)), (0, .ref (a 0)), (1, .ref (a 8))]) hx hb dX0_leaveRow_46 hl (k := 1) rfl (k_inc _) (by decide) rfl (fun ls hl => ?_)
      refine lv_goto (tgt := 11) hx hb dX0_leaveRow_49 (by decide) ?_
      refine lv_iload hx hb dX0_leaveRow_11 (lv_at hl 0 rfl) ?_
      refine lv_iload_n hx hb dX0_leaveRow_13 rfl (lv_at hl 2 rfl) ?_
      refine lv_icmp_ge (tgt := 52) hx hb dX0_leaveRow_14 (by decide) (fun c => absurd c (by decide +kernel)) (fun _ => ?_)
      refine lv_aload_n hx hb dX0_leaveRow_17 rfl (lv_at hl 3 rfl) ?_
      refine lv_iload hx hb dX0_leaveRow_18 (lv_at hl 0 rfl) ?_
      refine k_aald X hW 2 1 rfl rfl (j := 2) (b := a 9) rfl (by decide) (by decide) rfl dX0_leaveRow_20 ?_
      refine lv_astore (lv' := [(5, .ref (a 9)), (4, .int (nI 2)), (3, .int (nI 3)), (2, .ref (a 2)), (0, .ref (a 0)), (1, .ref (a 8))]) hx hb dX0_leaveRow_21 hl (by decide) rfl (fun ls hl => ?_)
      refine lv_aload hx hb dX0_leaveRow_23 (lv_at hl 0 rfl) ?_
      refine k_getN X hW inG3 rfl 3 (by decide) fln_X0_96 rfl 9 rfl (v := .int (u 8 3)) rfl dX0_leaveRow_25 ?_
      refine lv_aload_n hx hb dX0_leaveRow_28 rfl (lv_at hl 5 rfl) ?_
      refine k_getN X hW inG3 rfl 3 (by decide) fln_X0_96 rfl 8 rfl (v := .int (u 7 3)) rfl dX0_leaveRow_29 ?_
      refine lv_icmp_le (tgt := 46) hx hb dX0_leaveRow_32 (by decide) (fun c_16 => ?_) (fun c_16 => ?_)
      · refine lv_iinc (v := nI 3) (lv' := [(4, .int (nI 3)), (5, .ref (a 9)), (3, .int (nI 3)), (2, .ref (a 2)), (0, .ref (a 0)), (1, .ref (a 8))]) hx hb dX0_leaveRow_46 hl (k := 1) rfl (k_inc _) (by decide) rfl (fun ls hl => ?_)
        refine lv_goto (tgt := 11) hx hb dX0_leaveRow_49 (by decide) ?_
        refine lv_iload hx hb dX0_leaveRow_11 (lv_at hl 0 rfl) ?_
        refine lv_iload_n hx hb dX0_leaveRow_13 rfl (lv_at hl 2 rfl) ?_
        refine lv_icmp_ge (tgt := 52) hx hb dX0_leaveRow_14 (by decide) (fun _ => ?_) (fun c => absurd (by decide +kernel) c)
        refine lv_aload_n hx hb dX0_leaveRow_52 rfl (lv_at hl 5 rfl) ?_
        refine lv_iconst (v := (-1)) hx hb dX0_leaveRow_53 (by decide +kernel) ?_
        refine k_putN X hW inG3 rfl tyX3_ok nmX3 3 (by decide) fln_X0_96 rfl rfl 8 rfl rfl rfl (Nat.le_of_ble_eq_true rfl) dX0_leaveRow_54 (w' := cardW k a (st2 (st2 u 6 (upd (u 6) 3 ((u 6 3) - (nI 1)))) 7 (upd (u 7) 3 (-1)))) rfl (fun H locs hW => ?_)
        exact hQ _ _ _ _ _ hW dX0_leaveRow_57 (by rw [m_X0_leaveRow_1_u, if_neg c_2, if_pos c_14, if_pos c_16])
      · refine lv_aload hx hb dX0_leaveRow_35 (lv_at hl 0 rfl) ?_
        refine lv_dup hx hb dX0_leaveRow_37 rfl ?_
        refine k_getN X hW inG3 rfl 3 (by decide) fln_X0_96 rfl 9 rfl (v := .int (u 8 3)) rfl dX0_leaveRow_38 ?_
        refine lv_iconst (v := nI 1) hx hb dX0_leaveRow_41 (by decide +kernel) ?_
        refine lv_isub hx hb dX0_leaveRow_42 ?_
        refine k_putN X hW inG3 rfl tyX3_ok nmX3 3 (by decide) fln_X0_96 rfl rfl 9 rfl rfl rfl (Nat.le_of_ble_eq_true rfl) dX0_leaveRow_43 (w' := cardW k a (st2 (st2 u 6 (upd (u 6) 3 ((u 6 3) - (nI 1)))) 8 (upd (u 8) 3 ((u 8 3) - (nI 1))))) rfl (fun H locs hW => ?_)
        refine lv_iinc (v := nI 3) (lv' := [(4, .int (nI 3)), (5, .ref (a 9)), (3, .int (nI 3)), (2, .ref (a 2)), (0, .ref (a 0)), (1, .ref (a 8))]) hx hb dX0_leaveRow_46 hl (k := 1) rfl (k_inc _) (by decide) rfl (fun ls hl => ?_)
        refine lv_goto (tgt := 11) hx hb dX0_leaveRow_49 (by decide) ?_
        refine lv_iload hx hb dX0_leaveRow_11 (lv_at hl 0 rfl) ?_
        refine lv_iload_n hx hb dX0_leaveRow_13 rfl (lv_at hl 2 rfl) ?_
        refine lv_icmp_ge (tgt := 52) hx hb dX0_leaveRow_14 (by decide) (fun _ => ?_) (fun c => absurd (by decide +kernel) c)
        refine lv_aload_n hx hb dX0_leaveRow_52 rfl (lv_at hl 5 rfl) ?_
        refine lv_iconst (v := (-1)) hx hb dX0_leaveRow_53 (by decide +kernel) ?_
        refine k_putN X hW inG3 rfl tyX3_ok nmX3 3 (by decide) fln_X0_96 rfl rfl 8 rfl rfl rfl (Nat.le_of_ble_eq_true rfl) dX0_leaveRow_54 (w' := cardW k a (st2 (st2 (st2 u 6 (upd (u 6) 3 ((u 6 3) - (nI 1)))) 7 (upd (u 7) 3 (-1))) 8 (upd (u 8) 3 ((u 8 3) - (nI 1))))) rfl (fun H locs hW => ?_)
        exact hQ _ _ _ _ _ hW dX0_leaveRow_57 (by rw [m_X0_leaveRow_1_u, if_neg c_2, if_pos c_14, if_neg c_16])
    · refine lv_aload hx hb dX0_leaveRow_35 (lv_at hl 0 rfl) ?_
      refine lv_dup hx hb dX0_leaveRow_37 rfl ?_
      refine k_getN X hW inG3 rfl 3 (by decide) fln_X0_96 rfl 8 rfl (v := .int (u 7 3)) rfl dX0_leaveRow_38 ?_
      refine lv_iconst (v := nI 1) hx hb dX0_leaveRow_41 (by decide +kernel) ?_
      refine lv_isub hx hb dX0_leaveRow_42 ?_
      refine k_putN X hW inG3 rfl tyX3_ok nmX3 3 (by decide) fln_X0_96 rfl rfl 8 rfl rfl rfl (Nat.le_of_ble_eq_true rfl) dX0_leaveRow_43 (w' := cardW k a (st2 (st2 u 6 (upd (u 6) 3 ((u 6 3) - (nI 1)))) 7 (upd (u 7) 3 ((u 7 3) - (nI 1))))) rfl (fun H locs hW => ?_)
      refine lv_iinc (v := nI 2) (lv' := [(4, .int (nI 2)), (5, .ref (a 8)), (3, .int (nI 3)), (2, .ref (a 2)), (0, .ref (a 0)), (1, .ref (a 8))]) hx hb dX0_leaveRow_46 hl (k := 1) rfl (k_inc _) (by decide) rfl (fun ls hl => ?_)
      refine lv_goto (tgt := 11) hx hb dX0_leaveRow_49 (by decide) ?_
      refine lv_iload hx hb dX0_leaveRow_11 (lv_at hl 0 rfl) ?_
      refine lv_iload_n hx hb dX0_leaveRow_13 rfl (lv_at hl 2 rfl) ?_
      refine lv_icmp_ge (tgt := 52) hx hb dX0_leaveRow_14 (by decide) (fun c => absurd c (by decide +kernel)) (fun _ => ?_)
      refine lv_aload_n hx hb dX0_leaveRow_17 rfl (lv_at hl 3 rfl) ?_
      refine lv_iload hx hb dX0_leaveRow_18 (lv_at hl 0 rfl) ?_
      refine k_aald X hW 2 1 rfl rfl (j := 2) (b := a 9) rfl (by decide) (by decide) rfl dX0_leaveRow_20 ?_
      refine lv_astore (lv' := [(5, .ref (a 9)), (4, .int (nI 2)), (3, .int (nI 3)), (2, .ref (a 2)), (0, .ref (a 0)), (1, .ref (a 8))]) hx hb dX0_leaveRow_21 hl (by decide) rfl (fun ls hl => ?_)
      refine lv_aload hx hb dX0_leaveRow_23 (lv_at hl 0 rfl) ?_
      refine k_getN X hW inG3 rfl 3 (by decide) fln_X0_96 rfl 9 rfl (v := .int (u 8 3)) rfl dX0_leaveRow_25 ?_
      refine lv_aload_n hx hb dX0_leaveRow_28 rfl (lv_at hl 5 rfl) ?_
      refine k_getN X hW inG3 rfl 3 (by decide) fln_X0_96 rfl 8 rfl (v := .int ((u 7 3) - (nI 1))) rfl dX0_leaveRow_29 ?_
      refine lv_icmp_le (tgt := 46) hx hb dX0_leaveRow_32 (by decide) (fun c_20 => ?_) (fun c_20 => ?_)
      · refine lv_iinc (v := nI 3) (lv' := [(4, .int (nI 3)), (5, .ref (a 9)), (3, .int (nI 3)), (2, .ref (a 2)), (0, .ref (a 0)), (1, .ref (a 8))]) hx hb dX0_leaveRow_46 hl (k := 1) rfl (k_inc _) (by decide) rfl (fun ls hl => ?_)
        refine lv_goto (tgt := 11) hx hb dX0_leaveRow_49 (by decide) ?_
        refine lv_iload hx hb dX0_leaveRow_11 (lv_at hl 0 rfl) ?_
        refine lv_iload_n hx hb dX0_leaveRow_13 rfl (lv_at hl 2 rfl) ?_
        refine lv_icmp_ge (tgt := 52) hx hb dX0_leaveRow_14 (by decide) (fun _ => ?_) (fun c => absurd (by decide +kernel) c)
        refine lv_aload_n hx hb dX0_leaveRow_52 rfl (lv_at hl 5 rfl) ?_
        refine lv_iconst (v := (-1)) hx hb dX0_leaveRow_53 (by decide +kernel) ?_
        refine k_putN X hW inG3 rfl tyX3_ok nmX3 3 (by decide) fln_X0_96 rfl rfl 8 rfl rfl rfl (Nat.le_of_ble_eq_true rfl) dX0_leaveRow_54 (w' := cardW k a (st2 (st2 u 6 (upd (u 6) 3 ((u 6 3) - (nI 1)))) 7 (upd (u 7) 3 (-1)))) rfl (fun H locs hW => ?_)
        exact hQ _ _ _ _ _ hW dX0_leaveRow_57 (by rw [m_X0_leaveRow_1_u, if_neg c_2, if_neg c_14, if_pos c_20])
      · refine lv_aload hx hb dX0_leaveRow_35 (lv_at hl 0 rfl) ?_
        refine lv_dup hx hb dX0_leaveRow_37 rfl ?_
        refine k_getN X hW inG3 rfl 3 (by decide) fln_X0_96 rfl 9 rfl (v := .int (u 8 3)) rfl dX0_leaveRow_38 ?_
        refine lv_iconst (v := nI 1) hx hb dX0_leaveRow_41 (by decide +kernel) ?_
        refine lv_isub hx hb dX0_leaveRow_42 ?_
        refine k_putN X hW inG3 rfl tyX3_ok nmX3 3 (by decide) fln_X0_96 rfl rfl 9 rfl rfl rfl (Nat.le_of_ble_eq_true rfl) dX0_leaveRow_43 (w' := cardW k a (st2 (st2 (st2 u 6 (upd (u 6) 3 ((u 6 3) - (nI 1)))) 7 (upd (u 7) 3 ((u 7 3) - (nI 1)))) 8 (upd (u 8) 3 ((u 8 3) - (nI 1))))) rfl (fun H locs hW => ?_)
        refine lv_iinc (v := nI 3) (lv' := [(4, .int (nI 3)), (5, .ref (a 9)), (3, .int (nI 3)), (2, .ref (a 2)), (0, .ref (a 0)), (1, .ref (a 8))]) hx hb dX0_leaveRow_46 hl (k := 1) rfl (k_inc _) (by decide) rfl (fun ls hl => ?_)
        refine lv_goto (tgt := 11) hx hb dX0_leaveRow_49 (by decide) ?_
        refine lv_iload hx hb dX0_leaveRow_11 (lv_at hl 0 rfl) ?_
        refine lv_iload_n hx hb dX0_leaveRow_13 rfl (lv_at hl 2 rfl) ?_
        refine lv_icmp_ge (tgt := 52) hx hb dX0_leaveRow_14 (by decide) (fun _ => ?_) (fun c => absurd (by decide +kernel) c)
        refine lv_aload_n hx hb dX0_leaveRow_52 rfl (lv_at hl 5 rfl) ?_
        refine lv_iconst (v := (-1)) hx hb dX0_leaveRow_53 (by decide +kernel) ?_
        refine k_putN X hW inG3 rfl tyX3_ok nmX3 3 (by decide) fln_X0_96 rfl rfl 8 rfl rfl rfl (Nat.le_of_ble_eq_true rfl) dX0_leaveRow_54 (w' := cardW k a (st2 (st2 (st2 u 6 (upd (u 6) 3 ((u 6 3) - (nI 1)))) 7 (upd (u 7) 3 (-1))) 8 (upd (u 8) 3 ((u 8 3) - (nI 1))))) rfl (fun H locs hW => ?_)
        exact hQ _ _ _ _ _ hW dX0_leaveRow_57 (by rw [m_X0_leaveRow_1_u, if_neg c_2, if_neg c_14, if_neg c_20])
set_option maxHeartbeats 4000000 in
theorem CM_X0_leaveRow_1 {u : CS}  (h : CM u) : CM (m_X0_leaveRow_1_u u) := by
  rw [m_X0_leaveRow_1_u]
  split
  · split
    · split
      · exact (CM_stc h (by decide) (by decide))
      · exact (CM_stc (CM_stc h (by decide) (by decide)) (by decide) (by decide))
    · split
      · exact (CM_stc h (by decide) (by decide))
      · exact (CM_stc (CM_stc h (by decide) (by decide)) (by decide) (by decide))
  · split
    · split
      · exact (CM_stc (CM_stc h (by decide) (by decide)) (by decide) (by decide))
      · exact (CM_stc (CM_stc (CM_stc h (by decide) (by decide)) (by decide) (by decide)) (by decide) (by decide))
    · split
      · exact (CM_stc (CM_stc h (by decide) (by decide)) (by decide) (by decide))
      · exact (CM_stc (CM_stc (CM_stc h (by decide) (by decide)) (by decide) (by decide)) (by decide) (by decide))
def m_X0_leaveRow_2_u (u : CS) : CS := if u 6 3 ≤ u 8 3 then (if u 7 3 ≤ u 8 3 then (if u 8 3 ≤ u 8 3 then st2 u 8 (upd (u 8) 3 (-1)) else st2 u 8 (upd (u 8) 3 (-1))) else if u 8 3 ≤ u 8 3 then st2 (st2 u 7 (upd (u 7) 3 ((u 7 3) - (nI 1)))) 8 (upd (u 8) 3 (-1)) else st2 (st2 u 7 (upd (u 7) 3 ((u 7 3) - (nI 1)))) 8 (upd (u 8) 3 (-1))) else if u 7 3 ≤ u 8 3 then (if u 8 3 ≤ u 8 3 then st2 (st2 u 6 (upd (u 6) 3 ((u 6 3) - (nI 1)))) 8 (upd (u 8) 3 (-1)) else st2 (st2 u 6 (upd (u 6) 3 ((u 6 3) - (nI 1)))) 8 (upd (u 8) 3 (-1))) else if u 8 3 ≤ u 8 3 then st2 (st2 (st2 u 6 (upd (u 6) 3 ((u 6 3) - (nI 1)))) 7 (upd (u 7) 3 ((u 7 3) - (nI 1)))) 8 (upd (u 8) 3 (-1)) else st2 (st2 (st2 u 6 (upd (u 6) 3 ((u 6 3) - (nI 1)))) 7 (upd (u 7) 3 ((u 7 3) - (nI 1)))) 8 (upd (u 8) 3 (-1))
set_option maxHeartbeats 4000000 in
set_option maxRecDepth 100000 in
theorem c_X0_leaveRow_2 (l : Launch) (D : va_G) (k : Nat → ClassId) (a : Nat → Nat) (u : CS)   : mV l yX0_leaveRow (wsY yX0_leaveRow cX0_leaveRow 6 none) 0 D k [.ref (a 0), .ref (a 9)] (cardW k a u) (cardW k a (m_X0_leaveRow_2_u u)) := by
  refine mV_intro rfl (Nat.le_of_ble_eq_true rfl) ?_
  intro p e s m args below meth c A Q ls X hW hl hQ
  have hx := X.hx
  have hb := X.hb
  have hl : lv_has ls 6 [(0, .ref (a 0)), (1, .ref (a 9))] := hl
  refine lv_aload_n hx hb dX0_leaveRow_0 rfl (lv_at hl 0 rfl) ?_
  refine k_get X hW inG0 rfl 1 (by decide) fl_X0_20 rfl 0 rfl (v := .ref (a 2)) rfl dX0_leaveRow_1 ?_
  refine lv_astore_n (lv' := [(2, .ref (a 2)), (0, .ref (a 0)), (1, .ref (a 9))]) hx hb dX0_leaveRow_4 rfl hl (by decide) rfl (fun ls hl => ?_)
  refine lv_aload_n hx hb dX0_leaveRow_5 rfl (lv_at hl 0 rfl) ?_
  refine k_alen X hW 2 1 rfl rfl (v := nI 3) rfl dX0_leaveRow_6 ?_
  refine lv_istore_n (lv' := [(3, .int (nI 3)), (2, .ref (a 2)), (0, .ref (a 0)), (1, .ref (a 9))]) hx hb dX0_leaveRow_7 rfl hl (by decide) rfl (fun ls hl => ?_)
  refine lv_iconst (v := nI 0) hx hb dX0_leaveRow_8 (by decide +kernel) ?_
  refine lv_istore (lv' := [(4, .int (nI 0)), (3, .int (nI 3)), (2, .ref (a 2)), (0, .ref (a 0)), (1, .ref (a 9))]) hx hb dX0_leaveRow_9 hl (by decide) rfl (fun ls hl => ?_)
  refine lv_iload hx hb dX0_leaveRow_11 (lv_at hl 0 rfl) ?_
  refine lv_iload_n hx hb dX0_leaveRow_13 rfl (lv_at hl 1 rfl) ?_
  refine lv_icmp_ge (tgt := 52) hx hb dX0_leaveRow_14 (by decide) (fun c => absurd c (by decide +kernel)) (fun _ => ?_)
  refine lv_aload_n hx hb dX0_leaveRow_17 rfl (lv_at hl 2 rfl) ?_
  refine lv_iload hx hb dX0_leaveRow_18 (lv_at hl 0 rfl) ?_
  refine k_aald X hW 2 1 rfl rfl (j := 0) (b := a 7) rfl (by decide) (by decide) rfl dX0_leaveRow_20 ?_
  refine lv_astore (lv' := [(5, .ref (a 7)), (4, .int (nI 0)), (3, .int (nI 3)), (2, .ref (a 2)), (0, .ref (a 0)), (1, .ref (a 9))]) hx hb dX0_leaveRow_21 hl (by decide) rfl (fun ls hl => ?_)
  refine lv_aload hx hb dX0_leaveRow_23 (lv_at hl 0 rfl) ?_
  refine k_getN X hW inG3 rfl 3 (by decide) fln_X0_96 rfl 7 rfl (v := .int (u 6 3)) rfl dX0_leaveRow_25 ?_
  refine lv_aload_n hx hb dX0_leaveRow_28 rfl (lv_at hl 5 rfl) ?_
  refine k_getN X hW inG3 rfl 3 (by decide) fln_X0_96 rfl 9 rfl (v := .int (u 8 3)) rfl dX0_leaveRow_29 ?_
  refine lv_icmp_le (tgt := 46) hx hb dX0_leaveRow_32 (by decide) (fun c_2 => ?_) (fun c_2 => ?_)
  · refine lv_iinc (v := nI 1) (lv' := [(4, .int (nI 1)), (5, .ref (a 7)), (3, .int (nI 3)), (2, .ref (a 2)), (0, .ref (a 0)), (1, .ref (a 9))]) hx hb dX0_leaveRow_46 hl (k := 1) rfl (k_inc _) (by decide) rfl (fun ls hl => ?_)
    refine lv_goto (tgt := 11) hx hb dX0_leaveRow_49 (by decide) ?_
    refine lv_iload hx hb dX0_leaveRow_11 (lv_at hl 0 rfl) ?_
    refine lv_iload_n hx hb dX0_leaveRow_13 rfl (lv_at hl 2 rfl) ?_
    refine lv_icmp_ge (tgt := 52) hx hb dX0_leaveRow_14 (by decide) (fun c => absurd c (by decide +kernel)) (fun _ => ?_)
    refine lv_aload_n hx hb dX0_leaveRow_17 rfl (lv_at hl 3 rfl) ?_
    refine lv_iload hx hb dX0_leaveRow_18 (lv_at hl 0 rfl) ?_
    refine k_aald X hW 2 1 rfl rfl (j := 1) (b := a 8) rfl (by decide) (by decide) rfl dX0_leaveRow_20 ?_
    refine lv_astore (lv' := [(5, .ref (a 8)), (4, .int (nI 1)), (3, .int (nI 3)), (2, .ref (a 2)), (0, .ref (a 0)), (1, .ref (a 9))]) hx hb dX0_leaveRow_21 hl (by decide) rfl (fun ls hl => ?_)
    refine lv_aload hx hb dX0_leaveRow_23 (lv_at hl 0 rfl) ?_
    refine k_getN X hW inG3 rfl 3 (by decide) fln_X0_96 rfl 8 rfl (v := .int (u 7 3)) rfl dX0_leaveRow_25 ?_
    refine lv_aload_n hx hb dX0_leaveRow_28 rfl (lv_at hl 5 rfl) ?_
    refine k_getN X hW inG3 rfl 3 (by decide) fln_X0_96 rfl 9 rfl (v := .int (u 8 3)) rfl dX0_leaveRow_29 ?_
    refine lv_icmp_le (tgt := 46) hx hb dX0_leaveRow_32 (by decide) (fun c_4 => ?_) (fun c_4 => ?_)
    · refine lv_iinc (v := nI 2) (lv' := [(4, .int (nI 2)), (5, .ref (a 8)), (3, .int (nI 3)), (2, .ref (a 2)), (0, .ref (a 0)), (1, .ref (a 9))]) hx hb dX0_leaveRow_46 hl (k := 1) rfl (k_inc _) (by decide) rfl (fun ls hl => ?_)
      refine lv_goto (tgt := 11) hx hb dX0_leaveRow_49 (by decide) ?_
      refine lv_iload hx hb dX0_leaveRow_11 (lv_at hl 0 rfl) ?_
      refine lv_iload_n hx hb dX0_leaveRow_13 rfl (lv_at hl 2 rfl) ?_
      refine lv_icmp_ge (tgt := 52) hx hb dX0_leaveRow_14 (by decide) (fun c => absurd c (by decide +kernel)) (fun _ => ?_)
      refine lv_aload_n hx hb dX0_leaveRow_17 rfl (lv_at hl 3 rfl) ?_
      refine lv_iload hx hb dX0_leaveRow_18 (lv_at hl 0 rfl) ?_
      refine k_aald X hW 2 1 rfl rfl (j := 2) (b := a 9) rfl (by decide) (by decide) rfl dX0_leaveRow_20 ?_
      refine lv_astore (lv' := [(5, .ref (a 9)), (4, .int (nI 2)), (3, .int (nI 3)), (2, .ref (a 2)), (0, .ref (a 0)), (1, .ref (a 9))]) hx hb dX0_leaveRow_21 hl (by decide) rfl (fun ls hl => ?_)
      refine lv_aload hx hb dX0_leaveRow_23 (lv_at hl 0 rfl) ?_
      refine k_getN X hW inG3 rfl 3 (by decide) fln_X0_96 rfl 9 rfl (v := .int (u 8 3)) rfl dX0_leaveRow_25 ?_
      refine lv_aload_n hx hb dX0_leaveRow_28 rfl (lv_at hl 5 rfl) ?_
      refine k_getN X hW inG3 rfl 3 (by decide) fln_X0_96 rfl 9 rfl (v := .int (u 8 3)) rfl dX0_leaveRow_29 ?_
      refine lv_icmp_le (tgt := 46) hx hb dX0_leaveRow_32 (by decide) (fun c_6 => ?_) (fun c_6 => ?_)
      · refine lv_iinc (v := nI 3) (lv' := [(4, .int (nI 3)), (5, .ref (a 9)), (3, .int (nI 3)), (2, .ref (a 2)), (0, .ref (a 0)), (1, .ref (a 9))]) hx hb dX0_leaveRow_46 hl (k := 1) rfl (k_inc _) (by decide) rfl (fun ls hl => ?_)
        refine lv_goto (tgt := 11) hx hb dX0_leaveRow_49 (by decide) ?_
        refine lv_iload hx hb dX0_leaveRow_11 (lv_at hl 0 rfl) ?_
        refine lv_iload_n hx hb dX0_leaveRow_13 rfl (lv_at hl 2 rfl) ?_
        refine lv_icmp_ge (tgt := 52) hx hb dX0_leaveRow_14 (by decide) (fun _ => ?_) (fun c => absurd (by decide +kernel) c)
        refine lv_aload_n hx hb dX0_leaveRow_52 rfl (lv_at hl 5 rfl) ?_
        refine lv_iconst (v := (-1)) hx hb dX0_leaveRow_53 (by decide +kernel) ?_
        refine k_putN X hW inG3 rfl tyX3_ok nmX3 3 (by decide) fln_X0_96 rfl rfl 9 rfl rfl rfl (Nat.le_of_ble_eq_true rfl) dX0_leaveRow_54 (w' := cardW k a (st2 u 8 (upd (u 8) 3 (-1)))) rfl (fun H locs hW => ?_)
        exact hQ _ _ _ _ _ hW dX0_leaveRow_57 (by rw [m_X0_leaveRow_2_u, if_pos c_2, if_pos c_4, if_pos c_6])
      · refine lv_aload hx hb dX0_leaveRow_35 (lv_at hl 0 rfl) ?_
        refine lv_dup hx hb dX0_leaveRow_37 rfl ?_
        refine k_getN X hW inG3 rfl 3 (by decide) fln_X0_96 rfl 9 rfl (v := .int (u 8 3)) rfl dX0_leaveRow_38 ?_
        refine lv_iconst (v := nI 1) hx hb dX0_leaveRow_41 (by decide +kernel) ?_
        refine lv_isub hx hb dX0_leaveRow_42 ?_
        refine k_putN X hW inG3 rfl tyX3_ok nmX3 3 (by decide) fln_X0_96 rfl rfl 9 rfl rfl rfl (Nat.le_of_ble_eq_true rfl) dX0_leaveRow_43 (w' := cardW k a (st2 u 8 (upd (u 8) 3 ((u 8 3) - (nI 1))))) rfl (fun H locs hW => ?_)
        refine lv_iinc (v := nI 3) (lv' := [(4, .int (nI 3)), (5, .ref (a 9)), (3, .int (nI 3)), (2, .ref (a 2)), (0, .ref (a 0)), (1, .ref (a 9))]) hx hb dX0_leaveRow_46 hl (k := 1) rfl (k_inc _) (by decide) rfl (fun ls hl => ?_)
        refine lv_goto (tgt := 11) hx hb dX0_leaveRow_49 (by decide) ?_
        refine lv_iload hx hb dX0_leaveRow_11 (lv_at hl 0 rfl) ?_
        refine lv_iload_n hx hb dX0_leaveRow_13 rfl (lv_at hl 2 rfl) ?_
        refine lv_icmp_ge (tgt := 52) hx hb dX0_leaveRow_14 (by decide) (fun _ => ?_) (fun c => absurd (by decide +kernel) c)
        refine lv_aload_n hx hb dX0_leaveRow_52 rfl (lv_at hl 5 rfl) ?_
        refine lv_iconst (v := (-1)) hx hb dX0_leaveRow_53 (by decide +kernel) ?_
        refine k_putN X hW inG3 rfl tyX3_ok nmX3 3 (by decide) fln_X0_96 rfl rfl 9 rfl rfl rfl (Nat.le_of_ble_eq_true rfl) dX0_leaveRow_54 (w' := cardW k a (st2 u 8 (upd (u 8) 3 (-1)))) rfl (fun H locs hW => ?_)
        exact hQ _ _ _ _ _ hW dX0_leaveRow_57 (by rw [m_X0_leaveRow_2_u, if_pos c_2, if_pos c_4, if_neg c_6])
    · refine lv_aload hx hb dX0_leaveRow_35 (lv_at hl 0 rfl) ?_
      refine lv_dup hx hb dX0_leaveRow_37 rfl ?_
      refine k_getN X hW inG3 rfl 3 (by decide) fln_X0_96 rfl 8 rfl (v := .int (u 7 3)) rfl dX0_leaveRow_38 ?_
      refine lv_iconst (v := nI 1) hx hb dX0_leaveRow_41 (by decide +kernel) ?_
      refine lv_isub hx hb dX0_leaveRow_42 ?_
      refine k_putN X hW inG3 rfl tyX3_ok nmX3 3 (by decide) fln_X0_96 rfl rfl 8 rfl rfl rfl (Nat.le_of_ble_eq_true rfl) dX0_leaveRow_43 (w' := cardW k a (st2 u 7 (upd (u 7) 3 ((u 7 3) - (nI 1))))) rfl (fun H locs hW => ?_)
      refine lv_iinc (v := nI 2) (lv' := [(4, .int (nI 2)), (5, .ref (a 8)), (3, .int (nI 3)), (2, .ref (a 2)), (0, .ref (a 0)), (1, .ref (a 9))]) hx hb dX0_leaveRow_46 hl (k := 1) rfl (k_inc _) (by decide) rfl (fun ls hl => ?_)
      refine lv_goto (tgt := 11) hx hb dX0_leaveRow_49 (by decide) ?_
      refine lv_iload hx hb dX0_leaveRow_11 (lv_at hl 0 rfl) ?_
      refine lv_iload_n hx hb dX0_leaveRow_13 rfl (lv_at hl 2 rfl) ?_
      refine lv_icmp_ge (tgt := 52) hx hb dX0_leaveRow_14 (by decide) (fun c => absurd c (by decide +kernel)) (fun _ => ?_)
      refine lv_aload_n hx hb dX0_leaveRow_17 rfl (lv_at hl 3 rfl) ?_
      refine lv_iload hx hb dX0_leaveRow_18 (lv_at hl 0 rfl) ?_
      refine k_aald X hW 2 1 rfl rfl (j := 2) (b := a 9) rfl (by decide) (by decide) rfl dX0_leaveRow_20 ?_
      refine lv_astore (lv' := [(5, .ref (a 9)), (4, .int (nI 2)), (3, .int (nI 3)), (2, .ref (a 2)), (0, .ref (a 0)), (1, .ref (a 9))]) hx hb dX0_leaveRow_21 hl (by decide) rfl (fun ls hl => ?_)
      refine lv_aload hx hb dX0_leaveRow_23 (lv_at hl 0 rfl) ?_
      refine k_getN X hW inG3 rfl 3 (by decide) fln_X0_96 rfl 9 rfl (v := .int (u 8 3)) rfl dX0_leaveRow_25 ?_
      refine lv_aload_n hx hb dX0_leaveRow_28 rfl (lv_at hl 5 rfl) ?_
      refine k_getN X hW inG3 rfl 3 (by decide) fln_X0_96 rfl 9 rfl (v := .int (u 8 3)) rfl dX0_leaveRow_29 ?_
      refine lv_icmp_le (tgt := 46) hx hb dX0_leaveRow_32 (by decide) (fun c_10 => ?_) (fun c_10 => ?_)
      · refine lv_iinc (v := nI 3) (lv' := [(4, .int (nI 3)), (5, .ref (a 9)), (3, .int (nI 3)), (2, .ref (a 2)), (0, .ref (a 0)), (1, .ref (a 9))]) hx hb dX0_leaveRow_46 hl (k := 1) rfl (k_inc _) (by decide) rfl (fun ls hl => ?_)
        refine lv_goto (tgt := 11) hx hb dX0_leaveRow_49 (by decide) ?_
        refine lv_iload hx hb dX0_leaveRow_11 (lv_at hl 0 rfl) ?_
        refine lv_iload_n hx hb dX0_leaveRow_13 rfl (lv_at hl 2 rfl) ?_
        refine lv_icmp_ge (tgt := 52) hx hb dX0_leaveRow_14 (by decide) (fun _ => ?_) (fun c => absurd (by decide +kernel) c)
        refine lv_aload_n hx hb dX0_leaveRow_52 rfl (lv_at hl 5 rfl) ?_
        refine lv_iconst (v := (-1)) hx hb dX0_leaveRow_53 (by decide +kernel) ?_
        refine k_putN X hW inG3 rfl tyX3_ok nmX3 3 (by decide) fln_X0_96 rfl rfl 9 rfl rfl rfl (Nat.le_of_ble_eq_true rfl) dX0_leaveRow_54 (w' := cardW k a (st2 (st2 u 7 (upd (u 7) 3 ((u 7 3) - (nI 1)))) 8 (upd (u 8) 3 (-1)))) rfl (fun H locs hW => ?_)
        exact hQ _ _ _ _ _ hW dX0_leaveRow_57 (by rw [m_X0_leaveRow_2_u, if_pos c_2, if_neg c_4, if_pos c_10])
      · refine lv_aload hx hb dX0_leaveRow_35 (lv_at hl 0 rfl) ?_
        refine lv_dup hx hb dX0_leaveRow_37 rfl ?_
        refine k_getN X hW inG3 rfl 3 (by decide) fln_X0_96 rfl 9 rfl (v := .int (u 8 3)) rfl dX0_leaveRow_38 ?_
        refine lv_iconst (v := nI 1) hx hb dX0_leaveRow_41 (by decide +kernel) ?_
        refine lv_isub hx hb dX0_leaveRow_42 ?_
        refine k_putN X hW inG3 rfl tyX3_ok nmX3 3 (by decide) fln_X0_96 rfl rfl 9 rfl rfl rfl (Nat.le_of_ble_eq_true rfl) dX0_leaveRow_43 (w' := cardW k a (st2 (st2 u 7 (upd (u 7) 3 ((u 7 3) - (nI 1)))) 8 (upd (u 8) 3 ((u 8 3) - (nI 1))))) rfl (fun H locs hW => ?_)
        refine lv_iinc (v := nI 3) (lv' := [(4, .int (nI 3)), (5, .ref (a 9)), (3, .int (nI 3)), (2, .ref (a 2)), (0, .ref (a 0)), (1, .ref (a 9))]) hx hb dX0_leaveRow_46 hl (k := 1) rfl (k_inc _) (by decide) rfl (fun ls hl => ?_)
        refine lv_goto (tgt := 11) hx hb dX0_leaveRow_49 (by decide) ?_
        refine lv_iload hx hb dX0_leaveRow_11 (lv_at hl 0 rfl) ?_
        refine lv_iload_n hx hb dX0_leaveRow_13 rfl (lv_at hl 2 rfl) ?_
        refine lv_icmp_ge (tgt := 52) hx hb dX0_leaveRow_14 (by decide) (fun _ => ?_) (fun c => absurd (by decide +kernel) c)
        refine lv_aload_n hx hb dX0_leaveRow_52 rfl (lv_at hl 5 rfl) ?_
        refine lv_iconst (v := (-1)) hx hb dX0_leaveRow_53 (by decide +kernel) ?_
        refine k_putN X hW inG3 rfl tyX3_ok nmX3 3 (by decide) fln_X0_96 rfl rfl 9 rfl rfl rfl (Nat.le_of_ble_eq_true rfl) dX0_leaveRow_54 (w' := cardW k a (st2 (st2 u 7 (upd (u 7) 3 ((u 7 3) - (nI 1)))) 8 (upd (u 8) 3 (-1)))) rfl (fun H locs hW => ?_)
        exact hQ _ _ _ _ _ hW dX0_leaveRow_57 (by rw [m_X0_leaveRow_2_u, if_pos c_2, if_neg c_4, if_neg c_10])
  · refine lv_aload hx hb dX0_leaveRow_35 (lv_at hl 0 rfl) ?_
    refine lv_dup hx hb dX0_leaveRow_37 rfl ?_
    refine k_getN X hW inG3 rfl 3 (by decide) fln_X0_96 rfl 7 rfl (v := .int (u 6 3)) rfl dX0_leaveRow_38 ?_
    refine lv_iconst (v := nI 1) hx hb dX0_leaveRow_41 (by decide +kernel) ?_
    refine lv_isub hx hb dX0_leaveRow_42 ?_
    refine k_putN X hW inG3 rfl tyX3_ok nmX3 3 (by decide) fln_X0_96 rfl rfl 7 rfl rfl rfl (Nat.le_of_ble_eq_true rfl) dX0_leaveRow_43 (w' := cardW k a (st2 u 6 (upd (u 6) 3 ((u 6 3) - (nI 1))))) rfl (fun H locs hW => ?_)
    refine lv_iinc (v := nI 1) (lv' := [(4, .int (nI 1)), (5, .ref (a 7)), (3, .int (nI 3)), (2, .ref (a 2)), (0, .ref (a 0)), (1, .ref (a 9))]) hx hb dX0_leaveRow_46 hl (k := 1) rfl (k_inc _) (by decide) rfl (fun ls hl => ?_)
    refine lv_goto (tgt := 11) hx hb dX0_leaveRow_49 (by decide) ?_
    refine lv_iload hx hb dX0_leaveRow_11 (lv_at hl 0 rfl) ?_
    refine lv_iload_n hx hb dX0_leaveRow_13 rfl (lv_at hl 2 rfl) ?_
    refine lv_icmp_ge (tgt := 52) hx hb dX0_leaveRow_14 (by decide) (fun c => absurd c (by decide +kernel)) (fun _ => ?_)
    refine lv_aload_n hx hb dX0_leaveRow_17 rfl (lv_at hl 3 rfl) ?_
    refine lv_iload hx hb dX0_leaveRow_18 (lv_at hl 0 rfl) ?_
    refine k_aald X hW 2 1 rfl rfl (j := 1) (b := a 8) rfl (by decide) (by decide) rfl dX0_leaveRow_20 ?_
    refine lv_astore (lv' := [(5, .ref (a 8)), (4, .int (nI 1)), (3, .int (nI 3)), (2, .ref (a 2)), (0, .ref (a 0)), (1, .ref (a 9))]) hx hb dX0_leaveRow_21 hl (by decide) rfl (fun ls hl => ?_)
    refine lv_aload hx hb dX0_leaveRow_23 (lv_at hl 0 rfl) ?_
    refine k_getN X hW inG3 rfl 3 (by decide) fln_X0_96 rfl 8 rfl (v := .int (u 7 3)) rfl dX0_leaveRow_25 ?_
    refine lv_aload_n hx hb dX0_leaveRow_28 rfl (lv_at hl 5 rfl) ?_
    refine k_getN X hW inG3 rfl 3 (by decide) fln_X0_96 rfl 9 rfl (v := .int (u 8 3)) rfl dX0_leaveRow_29 ?_
    refine lv_icmp_le (tgt := 46) hx hb dX0_leaveRow_32 (by decide) (fun c_14 => ?_) (fun c_14 => ?_)
    · refine lv_iinc (v := nI 2) (lv' := [(4, .int (nI 2)), (5, .ref (a 8)), (3, .int (nI 3)), (2, .ref (a 2)), (0, .ref (a 0)), (1, .ref (a 9))]) hx hb dX0_leaveRow_46 hl (k := 1) rfl (k_inc _) (by decide) rfl (fun ls hl => ?_)
      refine lv_goto (tgt := 11) hx hb dX0_leaveRow_49 (by decide) ?_
      refine lv_iload hx hb dX0_leaveRow_11 (lv_at hl 0 rfl) ?_
      refine lv_iload_n hx hb dX0_leaveRow_13 rfl (lv_at hl 2 rfl) ?_
      refine lv_icmp_ge (tgt := 52) hx hb dX0_leaveRow_14 (by decide) (fun c => absurd c (by decide +kernel)) (fun _ => ?_)
      refine lv_aload_n hx hb dX0_leaveRow_17 rfl (lv_at hl 3 rfl) ?_
      refine lv_iload hx hb dX0_leaveRow_18 (lv_at hl 0 rfl) ?_
      refine k_aald X hW 2 1 rfl rfl (j := 2) (b := a 9) rfl (by decide) (by decide) rfl dX0_leaveRow_20 ?_
      refine lv_astore (lv' := [(5, .ref (a 9)), (4, .int (nI 2)), (3, .int (nI 3)), (2, .ref (a 2)), (0, .ref (a 0)), (1, .ref (a 9))]) hx hb dX0_leaveRow_21 hl (by decide) rfl (fun ls hl => ?_)
      refine lv_aload hx hb dX0_leaveRow_23 (lv_at hl 0 rfl) ?_
      refine k_getN X hW inG3 rfl 3 (by decide) fln_X0_96 rfl 9 rfl (v := .int (u 8 3)) rfl dX0_leaveRow_25 ?_
      refine lv_aload_n hx hb dX0_leaveRow_28 rfl (lv_at hl 5 rfl) ?_
      refine k_getN X hW inG3 rfl 3 (by decide) fln_X0_96 rfl 9 rfl (v := .int (u 8 3)) rfl dX0_leaveRow_29 ?_
      refine lv_icmp_le (tgt := 46) hx hb dX0_leaveRow_32 (by decide) (fun c_16 => ?_) (fun c_16 => ?_)
      · refine lv_iinc (v := nI 3) (lv' := [(4, .int (nI 3)), (5, .ref (a 9)), (3, .int (nI 3)), (2, .ref (a 2)), (0, .ref (a 0)), (1, .ref (a 9))]) hx hb dX0_leaveRow_46 hl (k := 1) rfl (k_inc _) (by decide) rfl (fun ls hl => ?_)
        refine lv_goto (tgt := 11) hx hb dX0_leaveRow_49 (by decide) ?_
        refine lv_iload hx hb dX0_leaveRow_11 (lv_at hl 0 rfl) ?_
        refine lv_iload_n hx hb dX0_leaveRow_13 rfl (lv_at hl 2 rfl) ?_
        refine lv_icmp_ge (tgt := 52) hx hb dX0_leaveRow_14 (by decide) (fun _ => ?_) (fun c => absurd (by decide +kernel) c)
        refine lv_aload_n hx hb dX0_leaveRow_52 rfl (lv_at hl 5 rfl) ?_
        refine lv_iconst (v := (-1)) hx hb dX0_leaveRow_53 (by decide +kernel) ?_
        refine k_putN X hW inG3 rfl tyX3_ok nmX3 3 (by decide) fln_X0_96 rfl rfl 9 rfl rfl rfl (Nat.le_of_ble_eq_true rfl) dX0_leaveRow_54 (w' := cardW k a (st2 (st2 u 6 (upd (u 6) 3 ((u 6 3) - (nI 1)))) 8 (upd (u 8) 3 (-1)))) rfl (fun H locs hW => ?_)
        exact hQ _ _ _ _ _ hW dX0_leaveRow_57 (by rw [m_X0_leaveRow_2_u, if_neg c_2, if_pos c_14, if_pos c_16])
      · refine lv_aload hx hb dX0_leaveRow_35 (lv_at hl 0 rfl) ?_
        refine lv_dup hx hb dX0_leaveRow_37 rfl ?_
        refine k_getN X hW inG3 rfl 3 (by decide) fln_X0_96 rfl 9 rfl (v := .int (u 8 3)) rfl dX0_leaveRow_38 ?_
        refine lv_iconst (v := nI 1) hx hb dX0_leaveRow_41 (by decide +kernel) ?_
        refine lv_isub hx hb dX0_leaveRow_42 ?_
        refine k_putN X hW inG3 rfl tyX3_ok nmX3 3 (by decide) fln_X0_96 rfl rfl 9 rfl rfl rfl (Nat.le_of_ble_eq_true rfl) dX0_leaveRow_43 (w' := cardW k a (st2 (st2 u 6 (upd (u 6) 3 ((u 6 3) - (nI 1)))) 8 (upd (u 8) 3 ((u 8 3) - (nI 1))))) rfl (fun H locs hW => ?_)
        refine lv_iinc (v := nI 3) (lv' := [(4, .int (nI 3)), (5, .ref (a 9)), (3, .int (nI 3)), (2, .ref (a 2)), (0, .ref (a 0)), (1, .ref (a 9))]) hx hb dX0_leaveRow_46 hl (k := 1) rfl (k_inc _) (by decide) rfl (fun ls hl => ?_)
        refine lv_goto (tgt := 11) hx hb dX0_leaveRow_49 (by decide) ?_
        refine lv_iload hx hb dX0_leaveRow_11 (lv_at hl 0 rfl) ?_
        refine lv_iload_n hx hb dX0_leaveRow_13 rfl (lv_at hl 2 rfl) ?_
        refine lv_icmp_ge (tgt := 52) hx hb dX0_leaveRow_14 (by decide) (fun _ => ?_) (fun c => absurd (by decide +kernel) c)
        refine lv_aload_n hx hb dX0_leaveRow_52 rfl (lv_at hl 5 rfl) ?_
        refine lv_iconst (v := (-1)) hx hb dX0_leaveRow_53 (by decide +kernel) ?_
        refine k_putN X hW inG3 rfl tyX3_ok nmX3 3 (by decide) fln_X0_96 rfl rfl 9 rfl rfl rfl (Nat.le_of_ble_eq_true rfl) dX0_leaveRow_54 (w' := cardW k a (st2 (st2 u 6 (upd (u 6) 3 ((u 6 3) - (nI 1)))) 8 (upd (u 8) 3 (-1)))) rfl (fun H locs hW => ?_)
        exact hQ _ _ _ _ _ hW dX0_leaveRow_57 (by rw [m_X0_leaveRow_2_u, if_neg c_2, if_pos c_14, if_neg c_16])
    · refine lv_aload hx hb dX0_leaveRow_35 (lv_at hl 0 rfl) ?_
      refine lv_dup hx hb dX0_leaveRow_37 rfl ?_
      refine k_getN X hW inG3 rfl 3 (by decide) fln_X0_96 rfl 8 rfl (v := .int (u 7 3)) rfl dX0_leaveRow_38 ?_
      refine lv_iconst (v := nI 1) hx hb dX0_leaveRow_41 (by decide +kernel) ?_
      refine lv_isub hx hb dX0_leaveRow_42 ?_
      refine k_putN X hW inG3 rfl tyX3_ok nmX3 3 (by decide) fln_X0_96 rfl rfl 8 rfl rfl rfl (Nat.le_of_ble_eq_true rfl) dX0_leaveRow_43 (w' := cardW k a (st2 (st2 u 6 (upd (u 6) 3 ((u 6 3) - (nI 1)))) 7 (upd (u 7) 3 ((u 7 3) - (nI 1))))) rfl (fun H locs hW => ?_)
      refine lv_iinc (v := nI 2) (lv' := [(4, .int (nI 2)), (5, .ref (a 8)), (3, .int (nI 3)), (2, .ref (a 2)), (0, .ref (a 0)), (1, .ref (a 9))]) hx hb dX0_leaveRow_46 hl (k := 1) rfl (k_inc _) (by decide) rfl (fun ls hl => ?_)
      refine lv_goto (tgt := 11) hx hb dX0_leaveRow_49 (by decide) ?_
      refine lv_iload hx hb dX0_leaveRow_11 (lv_at hl 0 rfl) ?_
      refine lv_iload_n hx hb dX0_leaveRow_13 rfl (lv_at hl 2 rfl) ?_
      refine lv_icmp_ge (tgt := 52) hx hb dX0_leaveRow_14 (by decide) (fun c => absurd c (by decide +kernel)) (fun _ => ?_)
      refine lv_aload_n hx hb dX0_leaveRow_17 rfl (lv_at hl 3 rfl) ?_
      refine lv_iload hx hb dX0_leaveRow_18 (lv_at hl 0 rfl) ?_
      refine k_aald X hW 2 1 rfl rfl (j := 2) (b := a 9) rfl (by decide) (by decide) rfl dX0_leaveRow_20 ?_
      refine lv_astore (lv' := [(5, .ref (a 9)), (4, .int (nI 2)), (3, .int (nI 3)), (2, .ref (a 2)), (0, .ref (a 0)), (1, .ref (a 9))]) hx hb dX0_leaveRow_21 hl (by decide) rfl (fun ls hl => ?_)
      refine lv_aload hx hb dX0_leaveRow_23 (lv_at hl 0 rfl) ?_
      refine k_getN X hW inG3 rfl 3 (by decide) fln_X0_96 rfl 9 rfl (v := .int (u 8 3)) rfl dX0_leaveRow_25 ?_
      refine lv_aload_n hx hb dX0_leaveRow_28 rfl (lv_at hl 5 rfl) ?_
      refine k_getN X hW inG3 rfl 3 (by decide) fln_X0_96 rfl 9 rfl (v := .int (u 8 3)) rfl dX0_leaveRow_29 ?_
      refine lv_icmp_le (tgt := 46) hx hb dX0_leaveRow_32 (by decide) (fun c_20 => ?_) (fun c_20 => ?_)
      · refine lv_iinc (v := nI 3) (lv' := [(4, .int (nI 3)), (5, .ref (a 9)), (3, .int (nI 3)), (2, .ref (a 2)), (0, .ref (a 0)), (1, .ref (a 9))]) hx hb dX0_leaveRow_46 hl (k := 1) rfl (k_inc _) (by decide) rfl (fun ls hl => ?_)
        refine lv_goto (tgt := 11) hx hb dX0_leaveRow_49 (by decide) ?_
        refine lv_iload hx hb dX0_leaveRow_11 (lv_at hl 0 rfl) ?_
        refine lv_iload_n hx hb dX0_leaveRow_13 rfl (lv_at hl 2 rfl) ?_
        refine lv_icmp_ge (tgt := 52) hx hb dX0_leaveRow_14 (by decide) (fun _ => ?_) (fun c => absurd (by decide +kernel) c)
        refine lv_aload_n hx hb dX0_leaveRow_52 rfl (lv_at hl 5 rfl) ?_
        refine lv_iconst (v := (-1)) hx hb dX0_leaveRow_53 (by decide +kernel) ?_
        refine k_putN X hW inG3 rfl tyX3_ok nmX3 3 (by decide) fln_X0_96 rfl rfl 9 rfl rfl rfl (Nat.le_of_ble_eq_true rfl) dX0_leaveRow_54 (w' := cardW k a (st2 (st2 (st2 u 6 (upd (u 6) 3 ((u 6 3) - (nI 1)))) 7 (upd (u 7) 3 ((u 7 3) - (nI 1)))) 8 (upd (u 8) 3 (-1)))) rfl (fun H locs hW => ?_)
        exact hQ _ _ _ _ _ hW dX0_leaveRow_57 (by rw [m_X0_leaveRow_2_u, if_neg c_2, if_neg c_14, if_pos c_20])
      · refine lv_aload hx hb dX0_leaveRow_35 (lv_at hl 0 rfl) ?_
        refine lv_dup hx hb dX0_leaveRow_37 rfl ?_
        refine k_getN X hW inG3 rfl 3 (by decide) fln_X0_96 rfl 9 rfl (v := .int (u 8 3)) rfl dX0_leaveRow_38 ?_
        refine lv_iconst (v := nI 1) hx hb dX0_leaveRow_41 (by decide +kernel) ?_
        refine lv_isub hx hb dX0_leaveRow_42 ?_
        refine k_putN X hW inG3 rfl tyX3_ok nmX3 3 (by decide) fln_X0_96 rfl rfl 9 rfl rfl rfl (Nat.le_of_ble_eq_true rfl) dX0_leaveRow_43 (w' := cardW k a (st2 (st2 (st2 u 6 (upd (u 6) 3 ((u 6 3) - (nI 1)))) 7 (upd (u 7) 3 ((u 7 3) - (nI 1)))) 8 (upd (u 8) 3 ((u 8 3) - (nI 1))))) rfl (fun H locs hW => ?_)
        refine lv_iinc (v := nI 3) (lv' := [(4, .int (nI 3)), (5, .ref (a 9)), (3, .int (nI 3)), (2, .ref (a 2)), (0, .ref (a 0)), (1, .ref (a 9))]) hx hb dX0_leaveRow_46 hl (k := 1) rfl (k_inc _) (by decide) rfl (fun ls hl => ?_)
        refine lv_goto (tgt := 11) hx hb dX0_leaveRow_49 (by decide) ?_
        refine lv_iload hx hb dX0_leaveRow_11 (lv_at hl 0 rfl) ?_
        refine lv_iload_n hx hb dX0_leaveRow_13 rfl (lv_at hl 2 rfl) ?_
        refine lv_icmp_ge (tgt := 52) hx hb dX0_leaveRow_14 (by decide) (fun _ => ?_) (fun c => absurd (by decide +kernel) c)
        refine lv_aload_n hx hb dX0_leaveRow_52 rfl (lv_at hl 5 rfl) ?_
        refine lv_iconst (v := (-1)) hx hb dX0_leaveRow_53 (by decide +kernel) ?_
        refine k_putN X hW inG3 rfl tyX3_ok nmX3 3 (by decide) fln_X0_96 rfl rfl 9 rfl rfl rfl (Nat.le_of_ble_eq_true rfl) dX0_leaveRow_54 (w' := cardW k a (st2 (st2 (st2 u 6 (upd (u 6) 3 ((u 6 3) - (nI 1)))) 7 (upd (u 7) 3 ((u 7 3) - (nI 1)))) 8 (upd (u 8) 3 (-1)))) rfl (fun H locs hW => ?_)
        exact hQ _ _ _ _ _ hW dX0_leaveRow_57 (by rw [m_X0_leaveRow_2_u, if_neg c_2, if_neg c_14, if_neg c_20])
set_option maxHeartbeats 4000000 in
theorem CM_X0_leaveRow_2 {u : CS}  (h : CM u) : CM (m_X0_leaveRow_2_u u) := by
  rw [m_X0_leaveRow_2_u]
  split
  · split
    · split
      · exact (CM_stc h (by decide) (by decide))
      · exact (CM_stc h (by decide) (by decide))
    · split
      · exact (CM_stc (CM_stc h (by decide) (by decide)) (by decide) (by decide))
      · exact (CM_stc (CM_stc h (by decide) (by decide)) (by decide) (by decide))
  · split
    · split
      · exact (CM_stc (CM_stc h (by decide) (by decide)) (by decide) (by decide))
      · exact (CM_stc (CM_stc h (by decide) (by decide)) (by decide) (by decide))
    · split
      · exact (CM_stc (CM_stc (CM_stc h (by decide) (by decide)) (by decide) (by decide)) (by decide) (by decide))
      · exact (CM_stc (CM_stc (CM_stc h (by decide) (by decide)) (by decide) (by decide)) (by decide) (by decide))
def m_X0_queueAt_r (u : CS) (x : Int32) : Int32 := if (m_X3_isCalled_r (u 6)) = 0 then (if (m_X3_isCalled_r (u 7)) = 0 then (if (m_X3_isCalled_r (u 8)) = 0 then (-1) else if u 8 3 = x then nI 2 else (-1)) else if u 7 3 = x then nI 1 else if (m_X3_isCalled_r (u 8)) = 0 then (-1) else if u 8 3 = x then nI 2 else (-1)) else if u 6 3 = x then nI 0 else if (m_X3_isCalled_r (u 7)) = 0 then (if (m_X3_isCalled_r (u 8)) = 0 then (-1) else if u 8 3 = x then nI 2 else (-1)) else if u 7 3 = x then nI 1 else if (m_X3_isCalled_r (u 8)) = 0 then (-1) else if u 8 3 = x then nI 2 else (-1)
set_option maxHeartbeats 4000000 in
set_option maxRecDepth 100000 in
theorem c_X0_queueAt (l : Launch) (D : va_G) (k : Nat → ClassId) (a : Nat → Nat) (u : CS) (x : Int32)  : mI l yX0_queueAt (wsY yX0_queueAt cX0_queueAt 3 (some .int)) 1 D k [.ref (a 0), .int x] (cardW k a u) (cardW k a u) (m_X0_queueAt_r u x) := by
  refine mI_intro rfl (Nat.le_of_ble_eq_true rfl) (Or.inl rfl) ?_
  intro p e s m args below meth c A Q ls X hW hl hQ
  have hx := X.hx
  have hb := X.hb
  have hl : lv_has ls 3 [(0, .ref (a 0)), (1, .int x)] := hl
  refine lv_iconst (v := nI 0) hx hb dX0_queueAt_0 (by decide +kernel) ?_
  refine lv_istore_n (lv' := [(2, .int (nI 0)), (0, .ref (a 0)), (1, .int x)]) hx hb dX0_queueAt_1 rfl hl (by decide) rfl (fun ls hl => ?_)
  refine lv_iload_n hx hb dX0_queueAt_2 rfl (lv_at hl 0 rfl) ?_
  refine lv_iconst (v := nI 3) hx hb dX0_queueAt_3 (by decide +kernel) ?_
  refine lv_icmp_ge (tgt := 40) hx hb dX0_queueAt_4 (by decide) (fun c => absurd c (by decide +kernel)) (fun _ => ?_)
  refine lv_aload_n hx hb dX0_queueAt_7 rfl (lv_at hl 1 rfl) ?_
  refine k_get X hW inG0 rfl 1 (by decide) fl_X0_20 rfl 0 rfl (v := .ref (a 2)) rfl dX0_queueAt_8 ?_
  refine lv_iload_n hx hb dX0_queueAt_11 rfl (lv_at hl 0 rfl) ?_
  refine k_aald X hW 2 1 rfl rfl (j := 0) (b := a 7) rfl (by decide) (by decide) rfl dX0_queueAt_12 ?_
  obtain ⟨z_2, hz_2⟩ : ∃ zq, m_X3_isCalled_r (u 6) = zq := ⟨_, rfl⟩
  have hM_3 := (c_X3_isCalled l D k (a 7) (u 6) )
  rw [hz_2] at hM_3
  refine kNi (As := []) (rest := []) X hW hM_3 yw_X3_isCalled lkn_X0_89 ⟨Nat.le_of_ble_eq_true rfl, Nat.le_of_ble_eq_true rfl⟩ (wr := [cO a u, cSe k a u, cQs k a, cFl k a u, cCa k a u, cHo k a u, cTa k a u, qC (a 8) (u 7), qC (a 9) (u 8)]) (w_idx (n := 10) [0, 1, 2, 3, 4, 5, 6, 8, 9, 7] rfl (by decide) rfl) (w' := cardW k a u) (w_idx (n := 10) [0, 1, 2, 3, 4, 5, 6, 9, 7, 8] rfl (by decide) rfl) (k_rcv X hW (ci := 3) (q0 := 7) rfl rfl) rfl hl.1 rfl (Nat.le_of_ble_eq_true rfl) ⟨Nat.zero_le _, Nat.zero_le _⟩ dX0_queueAt_13 (fun H locs hW => ?_)
  refine lv_if_eq (tgt := 34) hx hb dX0_queueAt_16 (by decide) (fun c_4 => ?_) (fun c_4 => ?_)
  · refine lv_iinc (v := nI 1) (lv' := [(2, .int (nI 1)), (0, .ref (a 0)), (1, .int x)]) hx hb dX0_queueAt_34 hl (k := 0) rfl (k_inc _) (by decide) rfl (fun ls hl => ?_)
    refine lv_goto (tgt := 2) hx hb dX0_queueAt_37 (by decide) ?_
    refine lv_iload_n hx hb dX0_queueAt_2 rfl (lv_at hl 0 rfl) ?_
    refine lv_iconst (v := nI 3) hx hb dX0_queueAt_3 (by decide +kernel) ?_
    refine lv_icmp_ge (tgt := 40) hx hb dX0_queueAt_4 (by decide) (fun c => absurd c (by decide +kernel)) (fun _ => ?_)
    refine lv_aload_n hx hb dX0_queueAt_7 rfl (lv_at hl 1 rfl) ?_
    refine k_get X hW inG0 rfl 1 (by decide) fl_X0_20 rfl 0 rfl (v := .ref (a 2)) rfl dX0_queueAt_8 ?_
    refine lv_iload_n hx hb dX0_queueAt_11 rfl (lv_at hl 0 rfl) ?_
    refine k_aald X hW 2 1 rfl rfl (j := 1) (b := a 8) rfl (by decide) (by decide) rfl dX0_queueAt_12 ?_
    obtain ⟨z_6, hz_6⟩ : ∃ zq, m_X3_isCalled_r (u 7) = zq := ⟨_, rfl⟩
    have hM_7 := (c_X3_isCalled l D k (a 8) (u 7) )
    rw [hz_6] at hM_7
    refine kNi (As := []) (rest := []) X hW hM_7 yw_X3_isCalled lkn_X0_89 ⟨Nat.le_of_ble_eq_true rfl, Nat.le_of_ble_eq_true rfl⟩ (wr := [cO a u, cSe k a u, cQs k a, cFl k a u, cCa k a u, cHo k a u, cTa k a u, qC (a 7) (u 6), qC (a 9) (u 8)]) (w_idx (n := 10) [0, 1, 2, 3, 4, 5, 6, 7, 9, 8] rfl (by decide) rfl) (w' := cardW k a u) (w_idx (n := 10) [0, 1, 2, 3, 4, 5, 6, 7, 9, 8] rfl (by decide) rfl) (k_rcv X hW (ci := 3) (q0 := 8) rfl rfl) rfl hl.1 rfl (Nat.le_of_ble_eq_true rfl) ⟨Nat.zero_le _, Nat.zero_le _⟩ dX0_queueAt_13 (fun H locs hW => ?_)
    refine lv_if_eq (tgt := 34) hx hb dX0_queueAt_16 (by decide) (fun c_8 => ?_) (fun c_8 => ?_)
    · refine lv_iinc (v := nI 2) (lv' := [(2, .int (nI 2)), (0, .ref (a 0)), (1, .int x)]) hx hb dX0_queueAt_34 hl (k := 0) rfl (k_inc _) (by decide) rfl (fun ls hl => ?_)
      refine lv_goto (tgt := 2) hx hb dX0_queueAt_37 (by decide) ?_
      refine lv_iload_n hx hb dX0_queueAt_2 rfl (lv_at hl 0 rfl) ?_
      refine lv_iconst (v := nI 3) hx hb dX0_queueAt_3 (by decide +kernel) ?_
      refine lv_icmp_ge (tgt := 40) hx hb dX0_queueAt_4 (by decide) (fun c => absurd c (by decide +kernel)) (fun _ => ?_)
      refine lv_aload_n hx hb dX0_queueAt_7 rfl (lv_at hl 1 rfl) ?_
      refine k_get X hW inG0 rfl 1 (by decide) fl_X0_20 rfl 0 rfl (v := .ref (a 2)) rfl dX0_queueAt_8 ?_
      refine lv_iload_n hx hb dX0_queueAt_11 rfl (lv_at hl 0 rfl) ?_
      refine k_aald X hW 2 1 rfl rfl (j := 2) (b := a 9) rfl (by decide) (by decide) rfl dX0_queueAt_12 ?_
      obtain ⟨z_10, hz_10⟩ : ∃ zq, m_X3_isCalled_r (u 8) = zq := ⟨_, rfl⟩
      have hM_11 := (c_X3_isCalled l D k (a 9) (u 8) )
      rw [hz_10] at hM_11
      refine kNi (As := []) (rest := []) X hW hM_11 yw_X3_isCalled lkn_X0_89 ⟨Nat.le_of_ble_eq_true rfl, Nat.le_of_ble_eq_true rfl⟩ (wr := [cO a u, cSe k a u, cQs k a, cFl k a u, cCa k a u, cHo k a u, cTa k a u, qC (a 7) (u 6), qC (a 8) (u 7)]) (w_idx (n := 10) [0, 1, 2, 3, 4, 5, 6, 7, 8, 9] rfl (by decide) rfl) (w' := cardW k a u) (w_idx (n := 10) [0, 1, 2, 3, 4, 5, 6, 7, 8, 9] rfl (by decide) rfl) (k_rcv X hW (ci := 3) (q0 := 9) rfl rfl) rfl hl.1 rfl (Nat.le_of_ble_eq_true rfl) ⟨Nat.zero_le _, Nat.zero_le _⟩ dX0_queueAt_13 (fun H locs hW => ?_)
      refine lv_if_eq (tgt := 34) hx hb dX0_queueAt_16 (by decide) (fun c_12 => ?_) (fun c_12 => ?_)
      · refine lv_iinc (v := nI 3) (lv' := [(2, .int (nI 3)), (0, .ref (a 0)), (1, .int x)]) hx hb dX0_queueAt_34 hl (k := 0) rfl (k_inc _) (by decide) rfl (fun ls hl => ?_)
        refine lv_goto (tgt := 2) hx hb dX0_queueAt_37 (by decide) ?_
        refine lv_iload_n hx hb dX0_queueAt_2 rfl (lv_at hl 0 rfl) ?_
        refine lv_iconst (v := nI 3) hx hb dX0_queueAt_3 (by decide +kernel) ?_
        refine lv_icmp_ge (tgt := 40) hx hb dX0_queueAt_4 (by decide) (fun _ => ?_) (fun c => absurd (by decide +kernel) c)
        refine lv_iconst (v := (-1)) hx hb dX0_queueAt_40 (by decide +kernel) ?_
        exact hQ _ _ _ _ _ _ hW dX0_queueAt_41 (by subst hz_10; subst hz_6; subst hz_2; rw [m_X0_queueAt_r, if_pos c_4, if_pos c_8, if_pos c_12]) rfl
      · refine lv_aload_n hx hb dX0_queueAt_19 rfl (lv_at hl 1 rfl) ?_
        refine k_get X hW inG0 rfl 1 (by decide) fl_X0_20 rfl 0 rfl (v := .ref (a 2)) rfl dX0_queueAt_20 ?_
        refine lv_iload_n hx hb dX0_queueAt_23 rfl (lv_at hl 0 rfl) ?_
        refine k_aald X hW 2 1 rfl rfl (j := 2) (b := a 9) rfl (by decide) (by decide) rfl dX0_queueAt_24 ?_
        refine k_getN X hW inG3 rfl 3 (by decide) fln_X0_96 rfl 9 rfl (v := .int (u 8 3)) rfl dX0_queueAt_25 ?_
        refine lv_iload_n hx hb dX0_queueAt_28 rfl (lv_at hl 2 rfl) ?_
        refine lv_icmp_ne (tgt := 34) hx hb dX0_queueAt_29 (by decide) (fun c_14 => ?_) (fun c_14 => ?_)
        · refine lv_iinc (v := nI 3) (lv' := [(2, .int (nI 3)), (0, .ref (a 0)), (1, .int x)]) hx hb dX0_queueAt_34 hl (k := 0) rfl (k_inc _) (by decide) rfl (fun ls hl => ?_)
          refine lv_goto (tgt := 2) hx hb dX0_queueAt_37 (by decide) ?_
          refine lv_iload_n hx hb dX0_queueAt_2 rfl (lv_at hl 0 rfl) ?_
          refine lv_iconst (v := nI 3) hx hb dX0_queueAt_3 (by decide +kernel) ?_
          refine lv_icmp_ge (tgt := 40) hx hb dX0_queueAt_4 (by decide) (fun _ => ?_) (fun c => absurd (by decide +kernel) c)
          refine lv_iconst (v := (-1)) hx hb dX0_queueAt_40 (by decide +kernel) ?_
          exact hQ _ _ _ _ _ _ hW dX0_queueAt_41 (by subst hz_10; subst hz_6; subst hz_2; rw [m_X0_queueAt_r, if_pos c_4, if_pos c_8, if_neg c_12, if_neg c_14]) rfl
        · refine lv_iload_n hx hb dX0_queueAt_32 rfl (lv_at hl 0 rfl) ?_
          exact hQ _ _ _ _ _ _ hW dX0_queueAt_33 (by subst hz_10; subst hz_6; subst hz_2; rw [m_X0_queueAt_r, if_pos c_4, if_pos c_8, if_neg c_12, if_pos c_14]) rfl
    · refine lv_aload_n hx hb dX0_queueAt_19 rfl (lv_at hl 1 rfl) ?_
      refine k_get X hW inG0 rfl 1 (by decide) fl_X0_20 rfl 0 rfl (v := .ref (a 2)) rfl dX0_queueAt_20 ?_
      refine lv_iload_n hx hb dX0_queueAt_23 rfl (lv_at hl 0 rfl) ?_
      refine k_aald X hW 2 1 rfl rfl (j := 1) (b := a 8) rfl (by decide) (by decide) rfl dX0_queueAt_24 ?_
      refine k_getN X hW inG3 rfl 3 (by decide) fln_X0_96 rfl 8 rfl (v := .int (u 7 3)) rfl dX0_queueAt_25 ?_
      refine lv_iload_n hx hb dX0_queueAt_28 rfl (lv_at hl 2 rfl) ?_
      refine lv_icmp_ne (tgt := 34) hx hb dX0_queueAt_29 (by decide) (fun c_16 => ?_) (fun c_16 => ?_)
      · refine lv_iinc (v := nI 2) (lv' := [(2, .int (nI 2)), (0, .ref (a 0)), (1, .int x)]) hx hb dX0_queueAt_34 hl (k := 0) rfl (k_inc _) (by decide) rfl (fun ls hl => ?_)
        refine lv_goto (tgt := 2) hx hb dX0_queueAt_37 (by decide) ?_
        refine lv_iload_n hx hb dX0_queueAt_2 rfl (lv_at hl 0 rfl) ?_
        refine lv_iconst (v := nI 3) hx hb dX0_queueAt_3 (by decide +kernel) ?_
        refine lv_icmp_ge (tgt := 40) hx hb dX0_queueAt_4 (by decide) (fun c => absurd c (by decide +kernel)) (fun _ => ?_)
        refine lv_aload_n hx hb dX0_queueAt_7 rfl (lv_at hl 1 rfl) ?_
        refine k_get X hW inG0 rfl 1 (by decide) fl_X0_20 rfl 0 rfl (v := .ref (a 2)) rfl dX0_queueAt_8 ?_
        refine lv_iload_n hx hb dX0_queueAt_11 rfl (lv_at hl 0 rfl) ?_
        refine k_aald X hW 2 1 rfl rfl (j := 2) (b := a 9) rfl (by decide) (by decide) rfl dX0_queueAt_12 ?_
        obtain ⟨z_18, hz_18⟩ : ∃ zq, m_X3_isCalled_r (u 8) = zq := ⟨_, rfl⟩
        have hM_19 := (c_X3_isCalled l D k (a 9) (u 8) )
        rw [hz_18] at hM_19
        refine kNi (As := []) (rest := []) X hW hM_19 yw_X3_isCalled lkn_X0_89 ⟨Nat.le_of_ble_eq_true rfl, Nat.le_of_ble_eq_true rfl⟩ (wr := [cO a u, cSe k a u, cQs k a, cFl k a u, cCa k a u, cHo k a u, cTa k a u, qC (a 7) (u 6), qC (a 8) (u 7)]) (w_idx (n := 10) [0, 1, 2, 3, 4, 5, 6, 7, 8, 9] rfl (by decide) rfl) (w' := cardW k a u) (w_idx (n := 10) [0, 1, 2, 3, 4, 5, 6, 7, 8, 9] rfl (by decide) rfl) (k_rcv X hW (ci := 3) (q0 := 9) rfl rfl) rfl hl.1 rfl (Nat.le_of_ble_eq_true rfl) ⟨Nat.zero_le _, Nat.zero_le _⟩ dX0_queueAt_13 (fun H locs hW => ?_)
        refine lv_if_eq (tgt := 34) hx hb dX0_queueAt_16 (by decide) (fun c_20 => ?_) (fun c_20 => ?_)
        · refine lv_iinc (v := nI 3) (lv' := [(2, .int (nI 3)), (0, .ref (a 0)), (1, .int x)]) hx hb dX0_queueAt_34 hl (k := 0) rfl (k_inc _) (by decide) rfl (fun ls hl => ?_)
          refine lv_goto (tgt := 2) hx hb dX0_queueAt_37 (by decide) ?_
          refine lv_iload_n hx hb dX0_queueAt_2 rfl (lv_at hl 0 rfl) ?_
          refine lv_iconst (v := nI 3) hx hb dX0_queueAt_3 (by decide +kernel) ?_
          refine lv_icmp_ge (tgt := 40) hx hb dX0_queueAt_4 (by decide) (fun _ => ?_) (fun c => absurd (by decide +kernel) c)
          refine lv_iconst (v := (-1)) hx hb dX0_queueAt_40 (by decide +kernel) ?_
          exact hQ _ _ _ _ _ _ hW dX0_queueAt_41 (by subst hz_18; subst hz_6; subst hz_2; rw [m_X0_queueAt_r, if_pos c_4, if_neg c_8, if_neg c_16, if_pos c_20]) rfl
        · refine lv_aload_n hx hb dX0_queueAt_19 rfl (lv_at hl 1 rfl) ?_
          refine k_get X hW inG0 rfl 1 (by decide) fl_X0_20 rfl 0 rfl (v := .ref (a 2)) rfl dX0_queueAt_20 ?_
          refine lv_iload_n hx hb dX0_queueAt_23 rfl (lv_at hl 0 rfl) ?_
          refine k_aald X hW 2 1 rfl rfl (j := 2) (b := a 9) rfl (by decide) (by decide) rfl dX0_queueAt_24 ?_
          refine k_getN X hW inG3 rfl 3 (by decide) fln_X0_96 rfl 9 rfl (v := .int (u 8 3)) rfl dX0_queueAt_25 ?_
          refine lv_iload_n hx hb dX0_queueAt_28 rfl (lv_at hl 2 rfl) ?_
          refine lv_icmp_ne (tgt := 34) hx hb dX0_queueAt_29 (by decide) (fun c_22 => ?_) (fun c_22 => ?_)
          · refine lv_iinc (v := nI 3) (lv' := [(2, .int (nI 3)), (0, .ref (a 0)), (1, .int x)]) hx hb dX0_queueAt_34 hl (k := 0) rfl (k_inc _) (by decide) rfl (fun ls hl => ?_)
            refine lv_goto (tgt := 2) hx hb dX0_queueAt_37 (by decide) ?_
            refine lv_iload_n hx hb dX0_queueAt_2 rfl (lv_at hl 0 rfl) ?_
            refine lv_iconst (v := nI 3) hx hb dX0_queueAt_3 (by decide +kernel) ?_
            refine lv_icmp_ge (tgt := 40) hx hb dX0_queueAt_4 (by decide) (fun _ => ?_) (fun c => absurd (by decide +kernel) c)
            refine lv_iconst (v := (-1)) hx hb dX0_queueAt_40 (by decide +kernel) ?_
            exact hQ _ _ _ _ _ _ hW dX0_queueAt_41 (by subst hz_18; subst hz_6; subst hz_2; rw [m_X0_queueAt_r, if_pos c_4, if_neg c_8, if_neg c_16, if_neg c_20, if_neg c_22]) rfl
          · refine lv_iload_n hx hb dX0_queueAt_32 rfl (lv_at hl 0 rfl) ?_
            exact hQ _ _ _ _ _ _ hW dX0_queueAt_33 (by subst hz_18; subst hz_6; subst hz_2; rw [m_X0_queueAt_r, if_pos c_4, if_neg c_8, if_neg c_16, if_neg c_20, if_pos c_22]) rfl
      · refine lv_iload_n hx hb dX0_queueAt_32 rfl (lv_at hl 0 rfl) ?_
        exact hQ _ _ _ _ _ _ hW dX0_queueAt_33 (by subst hz_6; subst hz_2; rw [m_X0_queueAt_r, if_pos c_4, if_neg c_8, if_pos c_16]) rfl
  · refine lv_aload_n hx hb dX0_queueAt_19 rfl (lv_at hl 1 rfl) ?_
    refine k_get X hW inG0 rfl 1 (by decide) fl_X0_20 rfl 0 rfl (v := .ref (a 2)) rfl dX0_queueAt_20 ?_
    refine lv_iload_n hx hb dX0_queueAt_23 rfl (lv_at hl 0 rfl) ?_
    refine k_aald X hW 2 1 rfl rfl (j := 0) (b := a 7) rfl (by decide) (by decide) rfl dX0_queueAt_24 ?_
    refine k_getN X hW inG3 rfl 3 (by decide) fln_X0_96 rfl 7 rfl (v := .int (u 6 3)) rfl dX0_queueAt_25 ?_
    refine lv_iload_n hx hb dX0_queueAt_28 rfl (lv_at hl 2 rfl) ?_
    refine lv_icmp_ne (tgt := 34) hx hb dX0_queueAt_29 (by decide) (fun c_24 => ?_) (fun c_24 => ?_)
    · refine lv_iinc (v := nI 1) (lv' := [(2, .int (nI 1)), (0, .ref (a 0)), (1, .int x)]) hx hb dX0_queueAt_34 hl (k := 0) rfl (k_inc _) (by decide) rfl (fun ls hl => ?_)
      refine lv_goto (tgt := 2) hx hb dX0_queueAt_37 (by decide) ?_
      refine lv_iload_n hx hb dX0_queueAt_2 rfl (lv_at hl 0 rfl) ?_
      refine lv_iconst (v := nI 3) hx hb dX0_queueAt_3 (by decide +kernel) ?_
      refine lv_icmp_ge (tgt := 40) hx hb dX0_queueAt_4 (by decide) (fun c => absurd c (by decide +kernel)) (fun _ => ?_)
      refine lv_aload_n hx hb dX0_queueAt_7 rfl (lv_at hl 1 rfl) ?_
      refine k_get X hW inG0 rfl 1 (by decide) fl_X0_20 rfl 0 rfl (v := .ref (a 2)) rfl dX0_queueAt_8 ?_
      refine lv_iload_n hx hb dX0_queueAt_11 rfl (lv_at hl 0 rfl) ?_
      refine k_aald X hW 2 1 rfl rfl (j := 1) (b := a 8) rfl (by decide) (by decide) rfl dX0_queueAt_12 ?_
      obtain ⟨z_26, hz_26⟩ : ∃ zq, m_X3_isCalled_r (u 7) = zq := ⟨_, rfl⟩
      have hM_27 := (c_X3_isCalled l D k (a 8) (u 7) )
      rw [hz_26] at hM_27
      refine kNi (As := []) (rest := []) X hW hM_27 yw_X3_isCalled lkn_X0_89 ⟨Nat.le_of_ble_eq_true rfl, Nat.le_of_ble_eq_true rfl⟩ (wr := [cO a u, cSe k a u, cQs k a, cFl k a u, cCa k a u, cHo k a u, cTa k a u, qC (a 7) (u 6), qC (a 9) (u 8)]) (w_idx (n := 10) [0, 1, 2, 3, 4, 5, 6, 7, 9, 8] rfl (by decide) rfl) (w' := cardW k a u) (w_idx (n := 10) [0, 1, 2, 3, 4, 5, 6, 7, 9, 8] rfl (by decide) rfl) (k_rcv X hW (ci := 3) (q0 := 8) rfl rfl) rfl hl.1 rfl (Nat.le_of_ble_eq_true rfl) ⟨Nat.zero_le _, Nat.zero_le _⟩ dX0_queueAt_13 (fun H locs hW => ?_)
      refine lv_if_eq (tgt := 34) hx hb dX0_queueAt_16 (by decide) (fun c_28 => ?_) (fun c_28 => ?_)
      · refine lv_iinc (v := nI 2) (lv' := [(2, .int (nI 2)), (0, .ref (a 0)), (1, .int x)]) hx hb dX0_queueAt_34 hl (k := 0) rfl (k_inc _) (by decide) rfl (fun ls hl => ?_)
        refine lv_goto (tgt := 2) hx hb dX0_queueAt_37 (by decide) ?_
        refine lv_iload_n hx hb dX0_queueAt_2 rfl (lv_at hl 0 rfl) ?_
        refine lv_iconst (v := nI 3) hx hb dX0_queueAt_3 (by decide +kernel) ?_
        refine lv_icmp_ge (tgt := 40) hx hb dX0_queueAt_4 (by decide) (fun c => absurd c (by decide +kernel)) (fun _ => ?_)
        refine lv_aload_n hx hb dX0_queueAt_7 rfl (lv_at hl 1 rfl) ?_
        refine k_get X hW inG0 rfl 1 (by decide) fl_X0_20 rfl 0 rfl (v := .ref (a 2)) rfl dX0_queueAt_8 ?_
        refine lv_iload_n hx hb dX0_queueAt_11 rfl (lv_at hl 0 rfl) ?_
        refine k_aald X hW 2 1 rfl rfl (j := 2) (b := a 9) rfl (by decide) (by decide) rfl dX0_queueAt_12 ?_
        obtain ⟨z_30, hz_30⟩ : ∃ zq, m_X3_isCalled_r (u 8) = zq := ⟨_, rfl⟩
        have hM_31 := (c_X3_isCalled l D k (a 9) (u 8) )
        rw [hz_30] at hM_31
        refine kNi (As := []) (rest := []) X hW hM_31 yw_X3_isCalled lkn_X0_89 ⟨Nat.le_of_ble_eq_true rfl, Nat.le_of_ble_eq_true rfl⟩ (wr := [cO a u, cSe k a u, cQs k a, cFl k a u, cCa k a u, cHo k a u, cTa k a u, qC (a 7) (u 6), qC (a 8) (u 7)]) (w_idx (n := 10) [0, 1, 2, 3, 4, 5, 6, 7, 8, 9] rfl (by decide) rfl) (w' := cardW k a u) (w_idx (n := 10) [0, 1, 2, 3, 4, 5, 6, 7, 8, 9] rfl (by decide) rfl) (k_rcv X hW (ci := 3) (q0 := 9) rfl rfl) rfl hl.1 rfl (Nat.le_of_ble_eq_true rfl) ⟨Nat.zero_le _, Nat.zero_le _⟩ dX0_queueAt_13 (fun H locs hW => ?_)
        refine lv_if_eq (tgt := 34) hx hb dX0_queueAt_16 (by decide) (fun c_32 => ?_) (fun c_32 => ?_)
        · refine lv_iinc (v := nI 3) (lv' := [(2, .int (nI 3)), (0, .ref (a 0)), (1, .int x)]) hx hb dX0_queueAt_34 hl (k := 0) rfl (k_inc _) (by decide) rfl (fun ls hl => ?_)
          refine lv_goto (tgt := 2) hx hb dX0_queueAt_37 (by decide) ?_
          refine lv_iload_n hx hb dX0_queueAt_2 rfl (lv_at hl 0 rfl) ?_
          refine lv_iconst (v := nI 3) hx hb dX0_queueAt_3 (by decide +kernel) ?_
          refine lv_icmp_ge (tgt := 40) hx hb dX0_queueAt_4 (by decide) (fun _ => ?_) (fun c => absurd (by decide +kernel) c)
          refine lv_iconst (v := (-1)) hx hb dX0_queueAt_40 (by decide +kernel) ?_
          exact hQ _ _ _ _ _ _ hW dX0_queueAt_41 (by subst hz_30; subst hz_26; subst hz_2; rw [m_X0_queueAt_r, if_neg c_4, if_neg c_24, if_pos c_28, if_pos c_32]) rfl
        · refine lv_aload_n hx hb dX0_queueAt_19 rfl (lv_at hl 1 rfl) ?_
          refine k_get X hW inG0 rfl 1 (by decide) fl_X0_20 rfl 0 rfl (v := .ref (a 2)) rfl dX0_queueAt_20 ?_
          refine lv_iload_n hx hb dX0_queueAt_23 rfl (lv_at hl 0 rfl) ?_
          refine k_aald X hW 2 1 rfl rfl (j := 2) (b := a 9) rfl (by decide) (by decide) rfl dX0_queueAt_24 ?_
          refine k_getN X hW inG3 rfl 3 (by decide) fln_X0_96 rfl 9 rfl (v := .int (u 8 3)) rfl dX0_queueAt_25 ?_
          refine lv_iload_n hx hb dX0_queueAt_28 rfl (lv_at hl 2 rfl) ?_
          refine lv_icmp_ne (tgt := 34) hx hb dX0_queueAt_29 (by decide) (fun c_34 => ?_) (fun c_34 => ?_)
          · refine lv_iinc (v := nI 3) (lv' := [(2, .int (nI 3)), (0, .ref (a 0)), (1, .int x)]) hx hb dX0_queueAt_34 hl (k := 0) rfl (k_inc _) (by decide) rfl (fun ls hl => ?_)
            refine lv_goto (tgt := 2) hx hb dX0_queueAt_37 (by decide) ?_
            refine lv_iload_n hx hb dX0_queueAt_2 rfl (lv_at hl 0 rfl) ?_
            refine lv_iconst (v := nI 3) hx hb dX0_queueAt_3 (by decide +kernel) ?_
            refine lv_icmp_ge (tgt := 40) hx hb dX0_queueAt_4 (by decide) (fun _ => ?_) (fun c => absurd (by decide +kernel) c)
            refine lv_iconst (v := (-1)) hx hb dX0_queueAt_40 (by decide +kernel) ?_
            exact hQ _ _ _ _ _ _ hW dX0_queueAt_41 (by subst hz_30; subst hz_26; subst hz_2; rw [m_X0_queueAt_r, if_neg c_4, if_neg c_24, if_pos c_28, if_neg c_32, if_neg c_34]) rfl
          · refine lv_iload_n hx hb dX0_queueAt_32 rfl (lv_at hl 0 rfl) ?_
            exact hQ _ _ _ _ _ _ hW dX0_queueAt_33 (by subst hz_30; subst hz_26; subst hz_2; rw [m_X0_queueAt_r, if_neg c_4, if_neg c_24, if_pos c_28, if_neg c_32, if_pos c_34]) rfl
      · refine lv_aload_n hx hb dX0_queueAt_19 rfl (lv_at hl 1 rfl) ?_
        refine k_get X hW inG0 rfl 1 (by decide) fl_X0_20 rfl 0 rfl (v := .ref (a 2)) rfl dX0_queueAt_20 ?_
        refine lv_iload_n hx hb dX0_queueAt_23 rfl (lv_at hl 0 rfl) ?_
        refine k_aald X hW 2 1 rfl rfl (j := 1) (b := a 8) rfl (by decide) (by decide) rfl dX0_queueAt_24 ?_
        refine k_getN X hW inG3 rfl 3 (by decide) fln_X0_96 rfl 8 rfl (v := .int (u 7 3)) rfl dX0_queueAt_25 ?_
        refine lv_iload_n hx hb dX0_queueAt_28 rfl (lv_at hl 2 rfl) ?_
        refine lv_icmp_ne (tgt := 34) hx hb dX0_queueAt_29 (by decide) (fun c_36 => ?_) (fun c_36 => ?_)
        · refine lv_iinc (v := nI 2) (lv' := [(2, .int (nI 2)), (0, .ref (a 0)), (1, .int x)]) hx hb dX0_queueAt_34 hl (k := 0) rfl (k_inc _) (by decide) rfl (fun ls hl => ?_)
          refine lv_goto (tgt := 2) hx hb dX0_queueAt_37 (by decide) ?_
          refine lv_iload_n hx hb dX0_queueAt_2 rfl (lv_at hl 0 rfl) ?_
          refine lv_iconst (v := nI 3) hx hb dX0_queueAt_3 (by decide +kernel) ?_
          refine lv_icmp_ge (tgt := 40) hx hb dX0_queueAt_4 (by decide) (fun c => absurd c (by decide +kernel)) (fun _ => ?_)
          refine lv_aload_n hx hb dX0_queueAt_7 rfl (lv_at hl 1 rfl) ?_
          refine k_get X hW inG0 rfl 1 (by decide) fl_X0_20 rfl 0 rfl (v := .ref (a 2)) rfl dX0_queueAt_8 ?_
          refine lv_iload_n hx hb dX0_queueAt_11 rfl (lv_at hl 0 rfl) ?_
          refine k_aald X hW 2 1 rfl rfl (j := 2) (b := a 9) rfl (by decide) (by decide) rfl dX0_queueAt_12 ?_
          obtain ⟨z_38, hz_38⟩ : ∃ zq, m_X3_isCalled_r (u 8) = zq := ⟨_, rfl⟩
          have hM_39 := (c_X3_isCalled l D k (a 9) (u 8) )
          rw [hz_38] at hM_39
          refine kNi (As := []) (rest := []) X hW hM_39 yw_X3_isCalled lkn_X0_89 ⟨Nat.le_of_ble_eq_true rfl, Nat.le_of_ble_eq_true rfl⟩ (wr := [cO a u, cSe k a u, cQs k a, cFl k a u, cCa k a u, cHo k a u, cTa k a u, qC (a 7) (u 6), qC (a 8) (u 7)]) (w_idx (n := 10) [0, 1, 2, 3, 4, 5, 6, 7, 8, 9] rfl (by decide) rfl) (w' := cardW k a u) (w_idx (n := 10) [0, 1, 2, 3, 4, 5, 6, 7, 8, 9] rfl (by decide) rfl) (k_rcv X hW (ci := 3) (q0 := 9) rfl rfl) rfl hl.1 rfl (Nat.le_of_ble_eq_true rfl) ⟨Nat.zero_le _, Nat.zero_le _⟩ dX0_queueAt_13 (fun H locs hW => ?_)
          refine lv_if_eq (tgt := 34) hx hb dX0_queueAt_16 (by decide) (fun c_40 => ?_) (fun c_40 => ?_)
          · refine lv_iinc (v := nI 3) (lv' := [(2, .int (nI 3)), (0, .ref (a 0)), (1, .int x)]) hx hb dX0_queueAt_34 hl (k := 0) rfl (k_inc _) (by decide) rfl (fun ls hl => ?_)
            refine lv_goto (tgt := 2) hx hb dX0_queueAt_37 (by decide) ?_
            refine lv_iload_n hx hb dX0_queueAt_2 rfl (lv_at hl 0 rfl) ?_
            refine lv_iconst (v := nI 3) hx hb dX0_queueAt_3 (by decide +kernel) ?_
            refine lv_icmp_ge (tgt := 40) hx hb dX0_queueAt_4 (by decide) (fun _ => ?_) (fun c => absurd (by decide +kernel) c)
            refine lv_iconst (v := (-1)) hx hb dX0_queueAt_40 (by decide +kernel) ?_
            exact hQ _ _ _ _ _ _ hW dX0_queueAt_41 (by subst hz_38; subst hz_26; subst hz_2; rw [m_X0_queueAt_r, if_neg c_4, if_neg c_24, if_neg c_28, if_neg c_36, if_pos c_40]) rfl
          · refine lv_aload_n hx hb dX0_queueAt_19 rfl (lv_at hl 1 rfl) ?_
            refine k_get X hW inG0 rfl 1 (by decide) fl_X0_20 rfl 0 rfl (v := .ref (a 2)) rfl dX0_queueAt_20 ?_
            refine lv_iload_n hx hb dX0_queueAt_23 rfl (lv_at hl 0 rfl) ?_
            refine k_aald X hW 2 1 rfl rfl (j := 2) (b := a 9) rfl (by decide) (by decide) rfl dX0_queueAt_24 ?_
            refine k_getN X hW inG3 rfl 3 (by decide) fln_X0_96 rfl 9 rfl (v := .int (u 8 3)) rfl dX0_queueAt_25 ?_
            refine lv_iload_n hx hb dX0_queueAt_28 rfl (lv_at hl 2 rfl) ?_
            refine lv_icmp_ne (tgt := 34) hx hb dX0_queueAt_29 (by decide) (fun c_42 => ?_) (fun c_42 => ?_)
            · refine lv_iinc (v := nI 3) (lv' := [(2, .int (nI 3)), (0, .ref (a 0)), (1, .int x)]) hx hb dX0_queueAt_34 hl (k := 0) rfl (k_inc _) (by decide) rfl (fun ls hl => ?_)
              refine lv_goto (tgt := 2) hx hb dX0_queueAt_37 (by decide) ?_
              refine lv_iload_n hx hb dX0_queueAt_2 rfl (lv_at hl 0 rfl) ?_
              refine lv_iconst (v := nI 3) hx hb dX0_queueAt_3 (by decide +kernel) ?_
              refine lv_icmp_ge (tgt := 40) hx hb dX0_queueAt_4 (by decide) (fun _ => ?_) (fun c => absurd (by decide +kernel) c)
              refine lv_iconst (v := (-1)) hx hb dX0_queueAt_40 (by decide +kernel) ?_
              exact hQ _ _ _ _ _ _ hW dX0_queueAt_41 (by subst hz_38; subst hz_26; subst hz_2; rw [m_X0_queueAt_r, if_neg c_4, if_neg c_24, if_neg c_28, if_neg c_36, if_neg c_40, if_neg c_42]) rfl
            · refine lv_iload_n hx hb dX0_queueAt_32 rfl (lv_at hl 0 rfl) ?_
              exact hQ _ _ _ _ _ _ hW dX0_queueAt_33 (by subst hz_38; subst hz_26; subst hz_2; rw [m_X0_queueAt_r, if_neg c_4, if_neg c_24, if_neg c_28, if_neg c_36, if_neg c_40, if_pos c_42]) rfl
        · refine lv_iload_n hx hb dX0_queueAt_32 rfl (lv_at hl 0 rfl) ?_
          exact hQ _ _ _ _ _ _ hW dX0_queueAt_33 (by subst hz_26; subst hz_2; rw [m_X0_queueAt_r, if_neg c_4, if_neg c_24, if_neg c_28, if_pos c_36]) rfl
    · refine lv_iload_n hx hb dX0_queueAt_32 rfl (lv_at hl 0 rfl) ?_
      exact hQ _ _ _ _ _ _ hW dX0_queueAt_33 (by subst hz_2; rw [m_X0_queueAt_r, if_neg c_4, if_pos c_24]) rfl
theorem hf_n {u : CS} {x : Int32} (hc : CM u) (h : ¬ m_X0_hasFrame_r u x = 0) : x = nI (tn x) ∧ tn x < cn u := by
  unfold m_X0_hasFrame_r at h
  by_cases h0 : x < 0
  · rw [if_pos h0] at h; exact absurd rfl h
  · rw [if_neg h0] at h
    by_cases h1 : u 0 3 ≤ x
    · rw [if_pos h1] at h; exact absurd rfl h
    · have e := tn_ge h0
      refine ⟨e, Nat.lt_of_not_le (fun q => h1 ?_)⟩
      rw [e, hc.1]
      exact nI_le q (tn_lt x)
