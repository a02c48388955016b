def m_X0_waitOf_r (u : CS) (j : Nat) : Int32 := if u 4 j = nI 2 then (-6) else if u 4 j = nI 1 then (u 5 j) - (u 3 j) else (u 0 2) - (u 3 j)
set_option maxHeartbeats 4000000 in
set_option maxRecDepth 100000 in
theorem c_X0_waitOf (l : Launch) (D : va_G) (k : Nat → ClassId) (a : Nat → Nat) (u : CS) (j : Nat) (hj : j < 400) : mI l yX0_waitOf (wsY yX0_waitOf cX0_waitOf 3 (some .int)) 0 D k [.ref (a 0), .int (nI j)] (cardW k a u) (cardW k a u) (m_X0_waitOf_r u j) := by
  refine mI_intro rfl (Nat.le_of_ble_eq_true rfl) (Or.inl rfl) ?_
  intro p e s m args below meth c A Q ls X hW hl hQ
  have hx := X.hx
  have hb := X.hb
  have hl : lv_has ls 3 [(0, .ref (a 0)), (1, .int (nI j))] := hl
  refine lv_aload_n hx hb dX0_waitOf_0 rfl (lv_at hl 0 rfl) ?_
  refine k_get X hW inG0 rfl 6 (by decide) fl_X0_37 rfl 0 rfl (v := .ref (a 5)) rfl dX0_waitOf_1 ?_
  refine lv_iload_n hx hb dX0_waitOf_4 rfl (lv_at hl 1 rfl) ?_
  refine k_iald X hW 5 rfl (j := j) (v := u 4 j) rfl (by omega) (by decide) rfl dX0_waitOf_5 ?_
  refine lv_iconst (v := nI 2) hx hb dX0_waitOf_6 (by decide +kernel) ?_
  refine lv_icmp_ne (tgt := 13) hx hb dX0_waitOf_7 (by decide) (fun c_1 => ?_) (fun c_1 => ?_)
  · refine lv_aload_n hx hb dX0_waitOf_13 rfl (lv_at hl 0 rfl) ?_
    refine k_get X hW inG0 rfl 6 (by decide) fl_X0_37 rfl 0 rfl (v := .ref (a 5)) rfl dX0_waitOf_14 ?_
    refine lv_iload_n hx hb dX0_waitOf_17 rfl (lv_at hl 1 rfl) ?_
    refine k_iald X hW 5 rfl (j := j) (v := u 4 j) rfl (by omega) (by decide) rfl dX0_waitOf_18 ?_
    refine lv_iconst (v := nI 1) hx hb dX0_waitOf_19 (by decide +kernel) ?_
    refine lv_icmp_ne (tgt := 32) hx hb dX0_waitOf_20 (by decide) (fun c_2 => ?_) (fun c_2 => ?_)
    · refine lv_aload_n hx hb dX0_waitOf_32 rfl (lv_at hl 0 rfl) ?_
      refine k_get X hW inG0 rfl 2 (by decide) fl_X0_24 rfl 0 rfl (v := .int (u 0 2)) rfl dX0_waitOf_33 ?_
      refine lv_istore_n (lv' := [(2, .int (u 0 2)), (0, .ref (a 0)), (1, .int (nI j))]) hx hb dX0_waitOf_36 rfl hl (by decide) rfl (fun ls hl => ?_)
      refine lv_iload_n hx hb dX0_waitOf_37 rfl (lv_at hl 0 rfl) ?_
      refine lv_aload_n hx hb dX0_waitOf_38 rfl (lv_at hl 1 rfl) ?_
      refine k_get X hW inG0 rfl 5 (by decide) fl_X0_34 rfl 0 rfl (v := .ref (a 4)) rfl dX0_waitOf_39 ?_
      refine lv_iload_n hx hb dX0_waitOf_42 rfl (lv_at hl 2 rfl) ?_
      refine k_iald X hW 4 rfl (j := j) (v := u 3 j) rfl (by omega) (by decide) rfl dX0_waitOf_43 ?_
      refine lv_isub hx hb dX0_waitOf_44 ?_
      exact hQ _ _ _ _ _ _ hW dX0_waitOf_45 (by rw [m_X0_waitOf_r, if_neg c_1, if_neg c_2]) rfl
    · refine lv_aload_n hx hb dX0_waitOf_23 rfl (lv_at hl 0 rfl) ?_
      refine k_get X hW inG0 rfl 7 (by decide) fl_X0_40 rfl 0 rfl (v := .ref (a 6)) rfl dX0_waitOf_24 ?_
      refine lv_iload_n hx hb dX0_waitOf_27 rfl (lv_at hl 1 rfl) ?_
      refine k_iald X hW 6 rfl (j := j) (v := u 5 j) rfl (by omega) (by decide) rfl dX0_waitOf_28 ?_
      refine lv_goto (tgt := 36) hx hb dX0_waitOf_29 (by decide) ?_
      refine lv_istore_n (lv' := [(2, .int (u 5 j)), (0, .ref (a 0)), (1, .int (nI j))]) hx hb dX0_waitOf_36 rfl hl (by decide) rfl (fun ls hl => ?_)
      refine lv_iload_n hx hb dX0_waitOf_37 rfl (lv_at hl 0 rfl) ?_
      refine lv_aload_n hx hb dX0_waitOf_38 rfl (lv_at hl 1 rfl) ?_
      refine k_get X hW inG0 rfl 5 (by decide) fl_X0_34 rfl 0 rfl (v := .ref (a 4)) rfl dX0_waitOf_39 ?_
      refine lv_iload_n hx hb dX0_waitOf_42 rfl (lv_at hl 2 rfl) ?_
      refine k_iald X hW 4 rfl (j := j) (v := u 3 j) rfl (by omega) (by decide) rfl dX0_waitOf_43 ?_
      refine lv_isub hx hb dX0_waitOf_44 ?_
      exact hQ _ _ _ _ _ _ hW dX0_waitOf_45 (by rw [m_X0_waitOf_r, if_neg c_1, if_pos c_2]) rfl
  · refine lv_bipush (v := (-6)) hx hb dX0_waitOf_10 (by decide +kernel) ?_
    exact hQ _ _ _ _ _ _ hW dX0_waitOf_12 (by rw [m_X0_waitOf_r, if_pos c_1]) rfl
def m_X0_frameFact_r (u : CS) (j : Nat) (x : Int32) : Int32 := if x = nI 0 then u 2 j else if x = nI 1 then u 3 j else if x = nI 2 then u 4 j else if x = nI 3 then (m_X0_waitOf_r u j) else (-2)
set_option maxHeartbeats 4000000 in
set_option maxRecDepth 100000 in
theorem c_X0_frameFact (l : Launch) (D : va_G) (k : Nat → ClassId) (a : Nat → Nat) (u : CS) (j : Nat) (x : Int32) (hj : j < 400) : mI l yX0_frameFact (wsY yX0_frameFact cX0_frameFact 3 (some .int)) 1 D k [.ref (a 0), .int (nI j), .int x] (cardW k a u) (cardW k a u) (m_X0_frameFact_r u j x) := by
  refine mI_intro rfl (Nat.le_of_ble_eq_true rfl) (Or.inl rfl) ?_
  intro p e s m args below meth c A Q ls X hW hl hQ
  have hx := X.hx
  have hb := X.hb
  have hl : lv_has ls 3 [(0, .ref (a 0)), (1, .int (nI j)), (2, .int x)] := hl
  refine lv_iload_n hx hb dX0_frameFact_0 rfl (lv_at hl 2 rfl) ?_
  by_cases c_2 : x = nI 0
  · refine lv_tableIn (off := 31) (tgt := 32) hx hb dX0_frameFact_1 (by rw [c_2]; decide +kernel) (by rw [c_2]; decide +kernel) (by rw [c_2]; decide +kernel) (by decide) ?_
    refine lv_aload_n hx hb dX0_frameFact_32 rfl (lv_at hl 0 rfl) ?_
    refine k_get X hW inG0 rfl 4 (by decide) fl_X0_31 rfl 0 rfl (v := .ref (a 3)) rfl dX0_frameFact_33 ?_
    refine lv_iload_n hx hb dX0_frameFact_36 rfl (lv_at hl 1 rfl) ?_
    refine k_iald X hW 3 rfl (j := j) (v := u 2 j) rfl (by omega) (by decide) rfl dX0_frameFact_37 ?_
    exact hQ _ _ _ _ _ _ hW dX0_frameFact_38 (by rw [m_X0_frameFact_r, if_pos c_2]) rfl
  by_cases c_3 : x = nI 1
  · refine lv_tableIn (off := 38) (tgt := 39) hx hb dX0_frameFact_1 (by rw [c_3]; decide +kernel) (by rw [c_3]; decide +kernel) (by rw [c_3]; decide +kernel) (by decide) ?_
    refine lv_aload_n hx hb dX0_frameFact_39 rfl (lv_at hl 0 rfl) ?_
    refine k_get X hW inG0 rfl 5 (by decide) fl_X0_34 rfl 0 rfl (v := .ref (a 4)) rfl dX0_frameFact_40 ?_
    refine lv_iload_n hx hb dX0_frameFact_43 rfl (lv_at hl 1 rfl) ?_
    refine k_iald X hW 4 rfl (j := j) (v := u 3 j) rfl (by omega) (by decide) rfl dX0_frameFact_44 ?_
    exact hQ _ _ _ _ _ _ hW dX0_frameFact_45 (by rw [m_X0_frameFact_r, if_neg c_2, if_pos c_3]) rfl
  by_cases c_4 : x = nI 2
  · refine lv_tableIn (off := 45) (tgt := 46) hx hb dX0_frameFact_1 (by rw [c_4]; decide +kernel) (by rw [c_4]; decide +kernel) (by rw [c_4]; decide +kernel) (by decide) ?_
    refine lv_aload_n hx hb dX0_frameFact_46 rfl (lv_at hl 0 rfl) ?_
    refine k_get X hW inG0 rfl 6 (by decide) fl_X0_37 rfl 0 rfl (v := .ref (a 5)) rfl dX0_frameFact_47 ?_
    refine lv_iload_n hx hb dX0_frameFact_50 rfl (lv_at hl 1 rfl) ?_
    refine k_iald X hW 5 rfl (j := j) (v := u 4 j) rfl (by omega) (by decide) rfl dX0_frameFact_51 ?_
    exact hQ _ _ _ _ _ _ hW dX0_frameFact_52 (by rw [m_X0_frameFact_r, if_neg c_2, if_neg c_3, if_pos c_4]) rfl
  by_cases c_5 : x = nI 3
  · refine lv_tableIn (off := 52) (tgt := 53) hx hb dX0_frameFact_1 (by rw [c_5]; decide +kernel) (by rw [c_5]; decide +kernel) (by rw [c_5]; decide +kernel) (by decide) ?_
    refine lv_aload_n hx hb dX0_frameFact_53 rfl (lv_at hl 0 rfl) ?_
    refine lv_iload_n hx hb dX0_frameFact_54 rfl (lv_at hl 1 rfl) ?_
    obtain ⟨z_6, hz_6⟩ : ∃ zq, m_X0_waitOf_r u j = zq := ⟨_, rfl⟩
    have hM_7 := (c_X0_waitOf l D k a u j (by omega))
    rw [hz_6] at hM_7
    refine kVi (As := [.int (nI j)]) (rest := []) X hW hM_7 yw_X0_waitOf lk_X0_144 ⟨Nat.le_of_ble_eq_true rfl, Nat.le_of_ble_eq_true rfl⟩ (wr := []) (List.Perm.refl _) (w' := cardW k a u) (List.Perm.refl _) (k_rcv X hW (ci := 0) (q0 := 0) rfl rfl) rfl hl.1 rfl (Nat.le_of_ble_eq_true rfl) ⟨Nat.zero_le _, Nat.zero_le _⟩ dX0_frameFact_55 (fun H locs hW => ?_)
    exact hQ _ _ _ _ _ _ hW dX0_frameFact_58 (by subst hz_6; rw [m_X0_frameFact_r, if_neg c_2, if_neg c_3, if_neg c_4, if_pos c_5]) rfl
  refine lv_tableOut (tgt := 59) hx hb dX0_frameFact_1 (k_sw3 c_2 c_3 c_4 c_5) (by decide) ?_
  refine lv_bipush (v := (-2)) hx hb dX0_frameFact_59 (by decide +kernel) ?_
  exact hQ _ _ _ _ _ _ hW dX0_frameFact_61 (by rw [m_X0_frameFact_r, if_neg c_2, if_neg c_3, if_neg c_4, if_neg c_5]) rfl
def m_X0_total_r (u : CS) (x : Int32) : Int32 := (((nI 0) + (m_X3_fact_r (u 6) x)) + (m_X3_fact_r (u 7) x)) + (m_X3_fact_r (u 8) x)
set_option maxHeartbeats 4000000 in
set_option maxRecDepth 100000 in
theorem c_X0_total (l : Launch) (D : va_G) (k : Nat → ClassId) (a : Nat → Nat) (u : CS) (x : Int32)  : mI l yX0_total (wsY yX0_total cX0_total 7 (some .int)) 2 D k [.ref (a 0), .int x] (cardW k a u) (cardW k a u) (m_X0_total_r u x) := by
  refine mI_intro rfl (Nat.le_of_ble_eq_true rfl) (Or.inl rfl) ?_
  intro p e s m args below meth c A Q ls X hW hl hQ
  have hx := X.hx
  have hb := X.hb
  have hl : lv_has ls 7 [(0, .ref (a 0)), (1, .int x)] := hl
  refine lv_iconst (v := nI 0) hx hb dX0_total_0 (by decide +kernel) ?_
  refine lv_istore_n (lv' := [(2, .int (nI 0)), (0, .ref (a 0)), (1, .int x)]) hx hb dX0_total_1 rfl hl (by decide) rfl (fun ls hl => ?_)
  refine lv_aload_n hx hb dX0_total_2 rfl (lv_at hl 1 rfl) ?_
  refine k_get X hW inG0 rfl 1 (by decide) fl_X0_20 rfl 0 rfl (v := .ref (a 2)) rfl dX0_total_3 ?_
  refine lv_astore_n (lv' := [(3, .ref (a 2)), (2, .int (nI 0)), (0, .ref (a 0)), (1, .int x)]) hx hb dX0_total_6 rfl hl (by decide) rfl (fun ls hl => ?_)
  refine lv_aload_n hx hb dX0_total_7 rfl (lv_at hl 0 rfl) ?_
  refine k_alen X hW 2 1 rfl rfl (v := nI 3) rfl dX0_total_8 ?_
  refine lv_istore (lv' := [(4, .int (nI 3)), (3, .ref (a 2)), (2, .int (nI 0)), (0, .ref (a 0)), (1, .int x)]) hx hb dX0_total_9 hl (by decide) rfl (fun ls hl => ?_)
  refine lv_iconst (v := nI 0) hx hb dX0_total_11 (by decide +kernel) ?_
  refine lv_istore (lv' := [(5, .int (nI 0)), (4, .int (nI 3)), (3, .ref (a 2)), (2, .int (nI 0)), (0, .ref (a 0)), (1, .int x)]) hx hb dX0_total_12 hl (by decide) rfl (fun ls hl => ?_)
  refine lv_iload hx hb dX0_total_14 (lv_at hl 0 rfl) ?_
  refine lv_iload hx hb dX0_total_16 (lv_at hl 1 rfl) ?_
  refine lv_icmp_ge (tgt := 42) hx hb dX0_total_18 (by decide) (fun c => absurd c (by decide +kernel)) (fun _ => ?_)
  refine lv_aload_n hx hb dX0_total_21 rfl (lv_at hl 2 rfl) ?_
  refine lv_iload hx hb dX0_total_22 (lv_at hl 0 rfl) ?_
  refine k_aald X hW 2 1 rfl rfl (j := 0) (b := a 7) rfl (by decide) (by decide) rfl dX0_total_24 ?_
  refine lv_astore (lv' := [(6, .ref (a 7)), (5, .int (nI 0)), (4, .int (nI 3)), (3, .ref (a 2)), (2, .int (nI 0)), (0, .ref (a 0)), (1, .int x)]) hx hb dX0_total_25 hl (by decide) rfl (fun ls hl => ?_)
  refine lv_iload_n hx hb dX0_total_27 rfl (lv_at hl 4 rfl) ?_
  refine lv_aload hx hb dX0_total_28 (lv_at hl 0 rfl) ?_
  refine lv_iload_n hx hb dX0_total_30 rfl (lv_at hl 6 rfl) ?_
  obtain ⟨z_2, hz_2⟩ : ∃ zq, m_X3_fact_r (u 6) x = zq := ⟨_, rfl⟩
  have hM_3 := (c_X3_fact l D k (a 7) (u 6) x)
  rw [hz_2] at hM_3
  refine kNi (As := [.int x]) (rest := [.int (nI 0)]) X hW hM_3 yw_X3_fact lkn_X0_147 ⟨Nat.le_of_ble_eq_true rfl, Nat.le_of_ble_eq_true rfl⟩ (wr := [cO a u, cSe k a u, cQs k a, cFl k a u, cCa k a u, cHo k a u, cTa k a u, qC (a 8) (u 7), qC (a 9) (u 8)]) (w_idx (n := 10) [0, 1, 2, 3, 4, 5, 6, 8, 9, 7] rfl (by decide) rfl) (w' := cardW k a u) (w_idx (n := 10) [0, 1, 2, 3, 4, 5, 6, 9, 7, 8] rfl (by decide) rfl) (k_rcv X hW (ci := 3) (q0 := 7) rfl rfl) rfl hl.1 rfl (Nat.le_of_ble_eq_true rfl) ⟨Nat.zero_le _, Nat.zero_le _⟩ dX0_total_31 (fun H locs hW => ?_)
  refine lv_iadd hx hb dX0_total_34 ?_
  refine lv_istore_n (lv' := [(2, .int ((nI 0) + z_2)), (6, .ref (a 7)), (5, .int (nI 0)), (4, .int (nI 3)), (3, .ref (a 2)), (0, .ref (a 0)), (1, .int x)]) hx hb dX0_total_35 rfl hl (by decide) rfl (fun ls hl => ?_)
  refine lv_iinc (v := nI 1) (lv' := [(5, .int (nI 1)), (2, .int ((nI 0) + z_2)), (6, .ref (a 7)), (4, .int (nI 3)), (3, .ref (a 2)), (0, .ref (a 0)), (1, .int x)]) hx hb dX0_total_36 hl (k := 2) rfl (k_inc _) (by decide) rfl (fun ls hl => ?_)
  refine lv_goto (tgt := 14) hx hb dX0_total_39 (by decide) ?_
  refine lv_iload hx hb dX0_total_14 (lv_at hl 0 rfl) ?_
  refine lv_iload hx hb dX0_total_16 (lv_at hl 3 rfl) ?_
  refine lv_icmp_ge (tgt := 42) hx hb dX0_total_18 (by decide) (fun c => absurd c (by decide +kernel)) (fun _ => ?_)
  refine lv_aload_n hx hb dX0_total_21 rfl (lv_at hl 4 rfl) ?_
  refine lv_iload hx hb dX0_total_22 (lv_at hl 0 rfl) ?_
  refine k_aald X hW 2 1 rfl rfl (j := 1) (b := a 8) rfl (by decide) (by decide) rfl dX0_total_24 ?_
  refine lv_astore (lv' := [(6, .ref (a 8)), (5, .int (nI 1)), (2, .int ((nI 0) + z_2)), (4, .int (nI 3)), (3, .ref (a 2)), (0, .ref (a 0)), (1, .int x)]) hx hb dX0_total_25 hl (by decide) rfl (fun ls hl => ?_)
  refine lv_iload_n hx hb dX0_total_27 rfl (lv_at hl 2 rfl) ?_
  refine lv_aload hx hb dX0_total_28 (lv_at hl 0 rfl) ?_
  refine lv_iload_n hx hb dX0_total_30 rfl (lv_at hl 6 rfl) ?_
  obtain ⟨z_5, hz_5⟩ : ∃ zq, m_X3_fact_r (u 7) x = zq := ⟨_, rfl⟩
  have hM_6 := (c_X3_fact l D k (a 8) (u 7) x)
  rw [hz_5] at hM_6
  refine kNi (As := [.int x]) (rest := [.int ((nI 0) + z_2)]) X hW hM_6 yw_X3_fact lkn_X0_147 ⟨Nat.le_of_ble_eq_true rfl, Nat.le_of_ble_eq_true rfl⟩ (wr := [cO a u, cSe k a u, cQs k a, cFl k a u, cCa k a u, cHo k a u, cTa k a u, qC (a 7) (u 6), qC (a 9) (u 8)]) (w_idx (n := 10) [0, 1, 2, 3, 4, 5, 6, 7, 9, 8] rfl (by decide) rfl) (w' := cardW k a u) (w_idx (n := 10) [0, 1, 2, 3, 4, 5, 6, 7, 9, 8] rfl (by decide) rfl) (k_rcv X hW (ci := 3) (q0 := 8) rfl rfl) rfl hl.1 rfl (Nat.le_of_ble_eq_true rfl) ⟨Nat.zero_le _, Nat.zero_le _⟩ dX0_total_31 (fun H locs hW => ?_)
  refine lv_iadd hx hb dX0_total_34 ?_
  refine lv_istore_n (lv' := [(2, .int (((nI 0) + z_2) + z_5)), (6, .ref (a 8)), (5, .int (nI 1)), (4, .int (nI 3)), (3, .ref (a 2)), (0, .ref (a 0)), (1, .int x)]) hx hb dX0_total_35 rfl hl (by decide) rfl (fun ls hl => ?_)
  refine lv_iinc (v := nI 2) (lv' := [(5, .int (nI 2)), (2, .int (((nI 0) + z_2) + z_5)), (6, .ref (a 8)), (4, .int (nI 3)), (3, .ref (a 2)), (0, .ref (a 0)), (1, .int x)]) hx hb dX0_total_36 hl (k := 2) rfl (k_inc _) (by decide) rfl (fun ls hl => ?_)
  refine lv_goto (tgt := 14) hx hb dX0_total_39 (by decide) ?_
  refine lv_iload hx hb dX0_total_14 (lv_at hl 0 rfl) ?_
  refine lv_iload hx hb dX0_total_16 (lv_at hl 3 rfl) ?_
  refine lv_icmp_ge (tgt := 42) hx hb dX0_total_18 (by decide) (fun c => absurd c (by decide +kernel)) (fun _ => ?_)
  refine lv_aload_n hx hb dX0_total_21 rfl (lv_at hl 4 rfl) ?_
  refine lv_iload hx hb dX0_total_22 (lv_at hl 0 rfl) ?_
  refine k_aald X hW 2 1 rfl rfl (j := 2) (b := a 9) rfl (by decide) (by decide) rfl dX0_total_24 ?_
  refine lv_astore (lv' := [(6, .ref (a 9)), (5, .int (nI 2)), (2, .int (((nI 0) + z_2) + z_5)), (4, .int (nI 3)), (3, .ref (a 2)), (0, .ref (a 0)), (1, .int x)]) hx hb dX0_total_25 hl (by decide) rfl (fun ls hl => ?_)
  refine lv_iload_n hx hb dX0_total_27 rfl (lv_at hl 2 rfl) ?_
  refine lv_aload hx hb dX0_total_28 (lv_at hl 0 rfl) ?_
  refine lv_iload_n hx hb dX0_total_30 rfl (lv_at hl 6 rfl) ?_
  obtain ⟨z_8, hz_8⟩ : ∃ zq, m_X3_fact_r (u 8) x = zq := ⟨_, rfl⟩
  have hM_9 := (c_X3_fact l D k (a 9) (u 8) x)
  rw [hz_8] at hM_9
  refine kNi (As := [.int x]) (rest := [.int (((nI 0) + z_2) + z_5)]) X hW hM_9 yw_X3_fact lkn_X0_147 ⟨Nat.le_of_ble_eq_true rfl, Nat.le_of_ble_eq_true rfl⟩ (wr := [cO a u, cSe k a u, cQs k a, cFl k a u, cCa k a u, cHo k a u, cTa k a u, qC (a 7) (u 6), qC (a 8) (u 7)]) (w_idx (n := 10) [0, 1, 2, 3, 4, 5, 6, 7, 8, 9] rfl (by decide) rfl) (w' := cardW k a u) (w_idx (n := 10) [0, 1, 2, 3, 4, 5, 6, 7, 8, 9] rfl (by decide) rfl) (k_rcv X hW (ci := 3) (q0 := 9) rfl rfl) rfl hl.1 rfl (Nat.le_of_ble_eq_true rfl) ⟨Nat.zero_le _, Nat.zero_le _⟩ dX0_total_31 (fun H locs hW => ?_)
  refine lv_iadd hx hb dX0_total_34 ?_
  refine lv_istore_n (lv' := [(2, .int ((((nI 0) + z_2) + z_5) + z_8)), (6, .ref (a 9)), (5, .int (nI 2)), (4, .int (nI 3)), (3, .ref (a 2)), (0, .ref (a 0)), (1, .int x)]) hx hb dX0_total_35 rfl hl (by decide) rfl (fun ls hl => ?_)
  refine lv_iinc (v := nI 3) (lv' := [(5, .int (nI 3)), (2, .int ((((nI 0) + z_2) + z_5) + z_8)), (6, .ref (a 9)), (4, .int (nI 3)), (3, .ref (a 2)), (0, .ref (a 0)), (1, .int x)]) hx hb dX0_total_36 hl (k := 2) rfl (k_inc _) (by decide) rfl (fun ls hl => ?_)
  refine lv_goto (tgt := 14) hx hb dX0_total_39 (by decide) ?_
  refine lv_iload hx hb dX0_total_14 (lv_at hl 0 rfl) ?_
  refine lv_iload hx hb dX0_total_16 (lv_at hl 3 rfl) ?_
  refine lv_icmp_ge (tgt := 42) hx hb dX0_total_18 (by decide) (fun _ => ?_) (fun c => absurd (by decide +kernel) c)
  refine lv_iload_n hx hb dX0_total_42 rfl (lv_at hl 1 rfl) ?_
  exact hQ _ _ _ _ _ _ hW dX0_total_43 (by subst hz_8; subst hz_5; subst hz_2; rw [m_X0_total_r]) rfl
def m_X0_maskedSet_r (u : CS) : Int32 := if u 6 4 = 0 then (if u 7 4 = 0 then (if u 8 4 = 0 then nI 0 else nI 4) else if u 8 4 = 0 then nI 2 else nI 6) else if u 7 4 = 0 then (if u 8 4 = 0 then nI 1 else nI 5) else if u 8 4 = 0 then nI 3 else nI 7
set_option maxHeartbeats 4000000 in
set_option maxRecDepth 100000 in
theorem c_X0_maskedSet (l : Launch) (D : va_G) (k : Nat → ClassId) (a : Nat → Nat) (u : CS)   : mI l yX0_maskedSet (wsY yX0_maskedSet cX0_maskedSet 3 (some .int)) 0 D k [.ref (a 0)] (cardW k a u) (cardW k a u) (m_X0_maskedSet_r u) := by
  refine mI_intro rfl (Nat.le_of_ble_eq_true rfl) (Or.inl rfl) ?_
  intro p e s m args below meth c A Q ls X hW hl hQ
  have hx := X.hx
  have hb := X.hb
  have hl : lv_has ls 3 [(0, .ref (a 0))] := hl
  refine lv_iconst (v := nI 0) hx hb dX0_maskedSet_0 (by decide +kernel) ?_
  refine lv_istore_n (lv' := [(1, .int (nI 0)), (0, .ref (a 0))]) hx hb dX0_maskedSet_1 rfl hl (by decide) rfl (fun ls hl => ?_)
  refine lv_iconst (v := nI 0) hx hb dX0_maskedSet_2 (by decide +kernel) ?_
  refine lv_istore_n (lv' := [(2, .int (nI 0)), (1, .int (nI 0)), (0, .ref (a 0))]) hx hb dX0_maskedSet_3 rfl hl (by decide) rfl (fun ls hl => ?_)
  refine lv_iload_n hx hb dX0_maskedSet_4 rfl (lv_at hl 0 rfl) ?_
  refine lv_iconst (v := nI 3) hx hb dX0_maskedSet_5 (by decide +kernel) ?_
  refine lv_icmp_ge (tgt := 37) hx hb dX0_maskedSet_6 (by decide) (fun c => absurd c (by decide +kernel)) (fun _ => ?_)
  refine lv_iload_n hx hb dX0_maskedSet_9 rfl (lv_at hl 1 rfl) ?_
  refine lv_aload_n hx hb dX0_maskedSet_10 rfl (lv_at hl 2 rfl) ?_
  refine k_get X hW inG0 rfl 1 (by decide) fl_X0_20 rfl 0 rfl (v := .ref (a 2)) rfl dX0_maskedSet_11 ?_
  refine lv_iload_n hx hb dX0_maskedSet_14 rfl (lv_at hl 0 rfl) ?_
  refine k_aald X hW 2 1 rfl rfl (j := 0) (b := a 7) rfl (by decide) (by decide) rfl dX0_maskedSet_15 ?_
  refine k_getN X hW inG3 rfl 4 (by decide) fln_X0_85 rfl 7 rfl (v := .int (u 6 4)) rfl dX0_maskedSet_16 ?_
  refine lv_if_eq (tgt := 28) hx hb dX0_maskedSet_19 (by decide) (fun c_2 => ?_) (fun c_2 => ?_)
  · refine lv_iconst (v := nI 0) hx hb dX0_maskedSet_28 (by decide +kernel) ?_
    refine lv_ior hx hb dX0_maskedSet_29 ?_
    refine k_top (y := nI 0) (by decide +kernel) ?_
    refine lv_istore_n (lv' := [(1, .int (nI 0)), (2, .int (nI 0)), (0, .ref (a 0))]) hx hb dX0_maskedSet_30 rfl hl (by decide) rfl (fun ls hl => ?_)
    refine lv_iinc (v := nI 1) (lv' := [(2, .int (nI 1)), (1, .int (nI 0)), (0, .ref (a 0))]) hx hb dX0_maskedSet_31 hl (k := 1) rfl (k_inc _) (by decide) rfl (fun ls hl => ?_)
    refine lv_goto (tgt := 4) hx hb dX0_maskedSet_34 (by decide) ?_
    refine lv_iload_n hx hb dX0_maskedSet_4 rfl (lv_at hl 0 rfl) ?_
    refine lv_iconst (v := nI 3) hx hb dX0_maskedSet_5 (by decide +kernel) ?_
    refine lv_icmp_ge (tgt := 37) hx hb dX0_maskedSet_6 (by decide) (fun c => absurd c (by decide +kernel)) (fun _ => ?_)
    refine lv_iload_n hx hb dX0_maskedSet_9 rfl (lv_at hl 1 rfl) ?_
    refine lv_aload_n hx hb dX0_maskedSet_10 rfl (lv_at hl 2 rfl) ?_
    refine k_get X hW inG0 rfl 1 (by decide) fl_X0_20 rfl 0 rfl (v := .ref (a 2)) rfl dX0_maskedSet_11 ?_
    refine lv_iload_n hx hb dX0_maskedSet_14 rfl (lv_at hl 0 rfl) ?_
    refine k_aald X hW 2 1 rfl rfl (j := 1) (b := a 8) rfl (by decide) (by decide) rfl dX0_maskedSet_15 ?_
    refine k_getN X hW inG3 rfl 4 (by decide) fln_X0_85 rfl 8 rfl (v := .int (u 7 4)) rfl dX0_maskedSet_16 ?_
    refine lv_if_eq (tgt := 28) hx hb dX0_maskedSet_19 (by decide) (fun c_4 => ?_) (fun c_4 => ?_)
    · refine lv_iconst (v := nI 0) hx hb dX0_maskedSet_28 (by decide +kernel) ?_
      refine lv_ior hx hb dX0_maskedSet_29 ?_
      refine k_top (y := nI 0) (by decide +kernel) ?_
      refine lv_istore_n (lv' := [(1, .int (nI 0)), (2, .int (nI 1)), (0, .ref (a 0))]) hx hb dX0_maskedSet_30 rfl hl (by decide) rfl (fun ls hl => ?_)
      refine lv_iinc (v := nI 2) (lv' := [(2, .int (nI 2)), (1, .int (nI 0)), (0, .ref (a 0))]) hx hb dX0_maskedSet_31 hl (k := 1) rfl (k_inc _) (by decide) rfl (fun ls hl => ?_)
      refine lv_goto (tgt := 4) hx hb dX0_maskedSet_34 (by decide) ?_
      refine lv_iload_n hx hb dX0_maskedSet_4 rfl (lv_at hl 0 rfl) ?_
      refine lv_iconst (v := nI 3) hx hb dX0_maskedSet_5 (by decide +kernel) ?_
      refine lv_icmp_ge (tgt := 37) hx hb dX0_maskedSet_6 (by decide) (fun c => absurd c (by decide +kernel)) (fun _ => ?_)
      refine lv_iload_n hx hb dX0_maskedSet_9 rfl (lv_at hl 1 rfl) ?_
      refine lv_aload_n hx hb dX0_maskedSet_10 rfl (lv_at hl 2 rfl) ?_
      refine k_get X hW inG0 rfl 1 (by decide) fl_X0_20 rfl 0 rfl (v := .ref (a 2)) rfl dX0_maskedSet_11 ?_
      refine lv_iload_n hx hb dX0_maskedSet_14 rfl (lv_at hl 0 rfl) ?_
      refine k_aald X hW 2 1 rfl rfl (j := 2) (b := a 9) rfl (by decide) (by decide) rfl dX0_maskedSet_15 ?_
      refine k_getN X hW inG3 rfl 4 (by decide) fln_X0_85 rfl 9 rfl (v := .int (u 8 4)) rfl dX0_maskedSet_16 ?_
      refine lv_if_eq (tgt := 28) hx hb dX0_maskedSet_19 (by decide) (fun c_6 => ?_) (fun c_6 => ?_)
      · refine lv_iconst (v := nI 0) hx hb dX0_maskedSet_28 (by decide +kernel) ?_
        refine lv_ior hx hb dX0_maskedSet_29 ?_
        refine k_top (y := nI 0) (by decide +kernel) ?_
        refine lv_istore_n (lv' := [(1, .int (nI 0)), (2, .int (nI 2)), (0, .ref (a 0))]) hx hb dX0_maskedSet_30 rfl hl (by decide) rfl (fun ls hl => ?_)
        refine lv_iinc (v := nI 3) (lv' := [(2, .int (nI 3)), (1, .int (nI 0)), (0, .ref (a 0))]) hx hb dX0_maskedSet_31 hl (k := 1) rfl (k_inc _) (by decide) rfl (fun ls hl => ?_)
        refine lv_goto (tgt := 4) hx hb dX0_maskedSet_34 (by decide) ?_
        refine lv_iload_n hx hb dX0_maskedSet_4 rfl (lv_at hl 0 rfl) ?_
        refine lv_iconst (v := nI 3) hx hb dX0_maskedSet_5 (by decide +kernel) ?_
        refine lv_icmp_ge (tgt := 37) hx hb dX0_maskedSet_6 (by decide) (fun _ => ?_) (fun c => absurd (by decide +kernel) c)
        refine lv_iload_n hx hb dX0_maskedSet_37 rfl (lv_at hl 1 rfl) ?_
        exact hQ _ _ _ _ _ _ hW dX0_maskedSet_38 (by rw [m_X0_maskedSet_r, if_pos c_2, if_pos c_4, if_pos c_6]) rfl
      · refine lv_iconst (v := nI 1) hx hb dX0_maskedSet_22 (by decide +kernel) ?_
        refine lv_iload_n hx hb dX0_maskedSet_23 rfl (lv_at hl 0 rfl) ?_
        refine lv_ishl hx hb dX0_maskedSet_24 ?_
        refine k_top (y := nI 4) (by decide +kernel) ?_
        refine lv_goto (tgt := 29) hx hb dX0_maskedSet_25 (by decide) ?_
        refine lv_ior hx hb dX0_maskedSet_29 ?_
        refine k_top (y := nI 4) (by decide +kernel) ?_
        refine lv_istore_n (lv' := [(1, .int (nI 4)), (2, .int (nI 2)), (0, .ref (a 0))]) hx hb dX0_maskedSet_30 rfl hl (by decide) rfl (fun ls hl => ?_)
        refine lv_iinc (v := nI 3) (lv' := [(2, .int (nI 3)), (1, .int (nI 4)), (0, .ref (a 0))]) hx hb dX0_maskedSet_31 hl (k := 1) rfl (k_inc _) (by decide) rfl (fun ls hl => ?_)
        refine lv_goto (tgt := 4) hx hb dX0_maskedSet_34 (by decide) ?_
        refine lv_iload_n hx hb dX0_maskedSet_4 rfl (lv_at hl 0 rfl) ?_
        refine lv_iconst (v := nI 3) hx hb dX0_maskedSet_5 (by decide +kernel) ?_
        refine lv_icmp_ge (tgt := 37) hx hb dX0_maskedSet_6 (by decide) (fun _ => ?_) (fun c => absurd (by decide +kernel) c)
        refine lv_iload_n hx hb dX0_maskedSet_37 rfl (lv_at hl 1 rfl) ?_
        exact hQ _ _ _ _ _ _ hW dX0_maskedSet_38 (by rw [m_X0_maskedSet_r, if_pos c_2, if_pos c_4, if_neg c_6]) rfl
    · refine lv_iconst (v := nI 1) hx hb dX0_maskedSet_22 (by decide +kernel) ?_
      refine lv_iload_n hx hb dX0_maskedSet_23 rfl (lv_at hl 0 rfl) ?_
      refine lv_ishl hx hb dX0_maskedSet_24 ?_
      refine k_top (y := nI 2) (by decide +kernel) ?_
      refine lv_goto (tgt := 29) hx hb dX0_maskedSet_25 (by decide) ?_
      refine lv_ior hx hb dX0_maskedSet_29 ?_
      refine k_top (y := nI 2) (by decide +kernel) ?_
      refine lv_istore_n (lv' := [(1, .int (nI 2)), (2, .int (nI 1)), (0, .ref (a 0))]) hx hb dX0_maskedSet_30 rfl hl (by decide) rfl (fun ls hl => ?_)
      refine lv_iinc (v := nI 2) (lv' := [(2, .int (nI 2)), (1, .int (nI 2)), (0, .ref (a 0))]) hx hb dX0_maskedSet_31 hl (k := 1) rfl (k_inc _) (by decide) rfl (fun ls hl => ?_)
      refine lv_goto (tgt := 4) hx hb dX0_maskedSet_34 (by decide) ?_
      refine lv_iload_n hx hb dX0_maskedSet_4 rfl (lv_at hl 0 rfl) ?_
      refine lv_iconst (v := nI 3) hx hb dX0_maskedSet_5 (by decide +kernel) ?_
      refine lv_icmp_ge (tgt := 37) hx hb dX0_maskedSet_6 (by decide) (fun c => absurd c (by decide +kernel)) (fun _ => ?_)
      refine lv_iload_n hx hb dX0_maskedSet_9 rfl (lv_at hl 1 rfl) ?_
      refine lv_aload_n hx hb dX0_maskedSet_10 rfl (lv_at hl 2 rfl) ?_
      refine k_get X hW inG0 rfl 1 (by decide) fl_X0_20 rfl 0 rfl (v := .ref (a 2)) rfl dX0_maskedSet_11 ?_
      refine lv_iload_n hx hb dX0_maskedSet_14 rfl (lv_at hl 0 rfl) ?_
      refine k_aald X hW 2 1 rfl rfl (j := 2) (b := a 9) rfl (by decide) (by decide) rfl dX0_maskedSet_15 ?_
      refine k_getN X hW inG3 rfl 4 (by decide) fln_X0_85 rfl 9 rfl (v := .int (u 8 4)) rfl dX0_maskedSet_16 ?_
      refine lv_if_eq (tgt := 28) hx hb dX0_maskedSet_19 (by decide) (fun c_10 => ?_) (fun c_10 => ?_)
      · refine lv_iconst (v := nI 0) hx hb dX0_maskedSet_28 (by decide +kernel) ?_
        refine lv_ior hx hb dX0_maskedSet_29 ?_
        refine k_top (y := nI 2) (by decide +kernel) ?_
        refine lv_istore_n (lv' := [(1, .int (nI 2)), (2, .int (nI 2)), (0, .ref (a 0))]) hx hb dX0_maskedSet_30 rfl hl (by decide) rfl (fun ls hl => ?_)
        refine lv_iinc (v := nI 3) (lv' := [(2, .int (nI 3)), (1, .int (nI 2)), (0, .ref (a 0))]) hx hb dX0_maskedSet_31 hl (k := 1) rfl (k_inc _) (by decide) rfl (fun ls hl => ?_)
        refine lv_goto (tgt := 4) hx hb dX0_maskedSet_34 (by decide) ?_
        refine lv_iload_n hx hb dX0_maskedSet_4 rfl (lv_at hl 0 rfl) ?_
        refine lv_iconst (v := nI 3) hx hb dX0_maskedSet_5 (by decide +kernel) ?_
        refine lv_icmp_ge (tgt := 37) hx hb dX0_maskedSet_6 (by decide) (fun _ => ?_) (fun c => absurd (by decide +kernel) c)
        refine lv_iload_n hx hb dX0_maskedSet_37 rfl (lv_at hl 1 rfl) ?_
        exact hQ _ _ _ _ _ _ hW dX0_maskedSet_38 (by rw [m_X0_maskedSet_r, if_pos c_2, if_neg c_4, if_pos c_10]) rfl
      · refine lv_iconst (v := nI 1) hx hb dX0_maskedSet_22 (by decide +kernel) ?_
        refine lv_iload_n hx hb dX0_maskedSet_23 rfl (lv_at hl 0 rfl) ?_
        refine lv_ishl hx hb dX0_maskedSet_24 ?_
        refine k_top (y := nI 4) (by decide +kernel) ?_
        refine lv_goto (tgt := 29) hx hb dX0_maskedSet_25 (by decide) ?_
        refine lv_ior hx hb dX0_maskedSet_29 ?_
        refine k_top (y := nI 6) (by decide +kernel) ?_
        refine lv_istore_n (lv' := [(1, .int (nI 6)), (2, .int (nI 2)), (0, .ref (a 0))]) hx hb dX0_maskedSet_30 rfl hl (by decide) rfl (fun ls hl => ?_)
        refine lv_iinc (v := nI 3) (lv' := [(2, .int (nI 3)), (1, .int (nI 6)), (0, .ref (a 0))]) hx hb dX0_maskedSet_31 hl (k := 1) rfl (k_inc _) (by decide) rfl (fun ls hl => ?_)
        refine lv_goto (tgt := 4) hx hb dX0_maskedSet_34 (by decide) ?_
        refine lv_iload_n hx hb dX0_maskedSet_4 rfl (lv_at hl 0 rfl) ?_
        refine lv_iconst (v := nI 3) hx hb dX0_maskedSet_5 (by decide +kernel) ?_
        refine lv_icmp_ge (tgt := 37) hx hb dX0_maskedSet_6 (by decide) (fun _ => ?_) (fun c => absurd (by decide +kernel) c)
        refine lv_iload_n hx hb dX0_maskedSet_37 rfl (lv_at hl 1 rfl) ?_
        exact hQ _ _ _ _ _ _ hW dX0_maskedSet_38 (by rw [m_X0_maskedSet_r, if_pos c_2, if_neg c_4, if_neg c_10]) rfl
  · refine lv_iconst (v := nI 1) hx hb dX0_maskedSet_22 (by decide +kernel) ?_
    refine lv_iload_n hx hb dX0_maskedSet_23 rfl (lv_at hl 0 rfl) ?_
    refine lv_ishl hx hb dX0_maskedSet_24 ?_
    refine k_top (y := nI 1) (by decide +kernel) ?_
    refine lv_goto (tgt := 29) hx hb dX0_maskedSet_25 (by decide) ?_
    refine lv_ior hx hb dX0_maskedSet_29 ?_
    refine k_top (y := nI 1) (by decide +kernel) ?_
    refine lv_istore_n (lv' := [(1, .int (nI 1)), (2, .int (nI 0)), (0, .ref (a 0))]) hx hb dX0_maskedSet_30 rfl hl (by decide) rfl (fun ls hl => ?_)
    refine lv_iinc (v := nI 1) (lv' := [(2, .int (nI 1)), (1, .int (nI 1)), (0, .ref (a 0))]) hx hb dX0_maskedSet_31 hl (k := 1) rfl (k_inc _) (by decide) rfl (fun ls hl => ?_)
    refine lv_goto (tgt := 4) hx hb dX0_maskedSet_34 (by decide) ?_
    refine lv_iload_n hx hb dX0_maskedSet_4 rfl (lv_at hl 0 rfl) ?_
    refine lv_iconst (v := nI 3) hx hb dX0_maskedSet_5 (by decide +kernel) ?_
    refine lv_icmp_ge (tgt := 37) hx hb dX0_maskedSet_6 (by decide) (fun c => absurd c (by decide +kernel)) (fun _ => ?_)
    refine lv_iload_n hx hb dX0_maskedSet_9 rfl (lv_at hl 1 rfl) ?_
    refine lv_aload_n hx hb dX0_maskedSet_10 rfl (lv_at hl 2 rfl) ?_
    refine k_get X hW inG0 rfl 1 (by decide) fl_X0_20 rfl 0 rfl (v := .ref (a 2)) rfl dX0_maskedSet_11 ?_
    refine lv_iload_n hx hb dX0_maskedSet_14 rfl (lv_at hl 0 rfl) ?_
    refine k_aald X hW 2 1 rfl rfl (j := 1) (b := a 8) rfl (by decide) (by decide) rfl dX0_maskedSet_15 ?_
    refine k_getN X hW inG3 rfl 4 (by decide) fln_X0_85 rfl 8 rfl (v := .int (u 7 4)) rfl dX0_maskedSet_16 ?_
    refine lv_if_eq (tgt := 28) hx hb dX0_maskedSet_19 (by decide) (fun c_14 => ?_) (fun c_14 => ?_)
    · refine lv_iconst (v := nI 0) hx hb dX0_maskedSet_28 (by decide +kernel) ?_
      refine lv_ior hx hb dX0_maskedSet_29 ?_
      refine k_top (y := nI 1) (by decide +kernel) ?_
      refine lv_istore_n (lv' := [(1, .int (nI 1)), (2, .int (nI 1)), (0, .ref (a 0))]) hx hb dX0_maskedSet_30 rfl hl (by decide) rfl (fun ls hl => ?_)
      refine lv_iinc (v := nI 2) (lv' := [(2, .int (nI 2)), (1, .int (nI 1)), (0, .ref (a 0))]) hx hb dX0_maskedSet_31 hl (k := 1) rfl (k_inc _) (by decide) rfl (fun ls hl => ?_)
      refine lv_goto (tgt := 4) hx hb dX0_maskedSet_34 (by decide) ?_
      refine lv_iload_n hx hb dX0_maskedSet_4 rfl (lv_at hl 0 rfl) ?_
      refine lv_iconst (v := nI 3) hx hb dX0_maskedSet_5 (by decide +kernel) ?_
      refine lv_icmp_ge (tgt := 37) hx hb dX0_maskedSet_6 (by decide) (fun c => absurd c (by decide +kernel)) (fun _ => ?_)
      refine lv_iload_n hx hb dX0_maskedSet_9 rfl (lv_at hl 1 rfl) ?_
      refine lv_aload_n hx hb dX0_maskedSet_10 rfl (lv_at hl 2 rfl) ?_
      refine k_get X hW inG0 rfl 1 (by decide) fl_X0_20 rfl 0 rfl (v := .ref (a 2)) rfl dX0_maskedSet_11 ?_
      refine lv_iload_n hx hb dX0_maskedSet_14 rfl (lv_at hl 0 rfl) ?_
      refine k_aald X hW 2 1 rfl rfl (j := 2) (b := a 9) rfl (by decide) (by decide) rfl dX0_maskedSet_15 ?_
      refine k_getN X hW inG3 rfl 4 (by decide) fln_X0_85 rfl 9 rfl (v := .int (u 8 4)) rfl dX0_maskedSet_16 ?_
      refine lv_if_eq (tgt := 28) hx hb dX0_maskedSet_19 (by decide) (fun c_16 => ?_) (fun c_16 => ?_)
      · refine lv_iconst (v := nI 0) hx hb dX0_maskedSet_28 (by decide +kernel) ?_
        refine lv_ior hx hb dX0_maskedSet_29 ?_
        refine k_top (y := nI 1) (by decide +kernel) ?_
        refine lv_istore_n (lv' := [(1, .int (nI 1)), (2, .int (nI 2)), (0, .ref (a 0))]) hx hb dX0_maskedSet_30 rfl hl (by decide) rfl (fun ls hl => ?_)
        refine lv_iinc (v := nI 3) (lv' := [(2, .int (nI 3)), (1, .int (nI 1)), (0, .ref (a 0))]) hx hb dX0_maskedSet_31 hl (k := 1) rfl (k_inc _) (by decide) rfl (fun ls hl => ?_)
        refine lv_goto (tgt := 4) hx hb dX0_maskedSet_34 (by decide) ?_
        refine lv_iload_n hx hb dX0_maskedSet_4 rfl (lv_at hl 0 rfl) ?_
        refine lv_iconst (v := nI 3) hx hb dX0_maskedSet_5 (by decide +kernel) ?_
        refine lv_icmp_ge (tgt := 37) hx hb dX0_maskedSet_6 (by decide) (fun _ => ?_) (fun c => absurd (by decide +kernel) c)
        refine lv_iload_n hx hb dX0_maskedSet_37 rfl (lv_at hl 1 rfl) ?_
        exact hQ _ _ _ _ _ _ hW dX0_maskedSet_38 (by rw [m_X0_maskedSet_r, if_neg c_2, if_pos c_14, if_pos c_16]) rfl
      · refine lv_iconst (v := nI 1) hx hb dX0_maskedSet_22 (by decide +kernel) ?_
        refine lv_iload_n hx hb dX0_maskedSet_23 rfl (lv_at hl 0 rfl) ?_
        refine lv_ishl hx hb dX0_maskedSet_24 ?_
        refine k_top (y := nI 4) (by decide +kernel) ?_
        refine lv_goto (tgt := 29) hx hb dX0_maskedSet_25 (by decide) ?_
        refine lv_ior hx hb dX0_maskedSet_29 ?_
        refine k_top (y := nI 5) (by decide +kernel) ?_
        refine lv_istore_n (lv' := [(1, .int (nI 5)), (2, .int (nI 2)), (0, .ref (a 0))]) hx hb dX0_maskedSet_30 rfl hl (by decide) rfl (fun ls hl => ?_)
        refine lv_iinc (v := nI 3) (lv' := [(2, .int (nI 3)), (1, .int (nI 5)), (0, .ref (a 0))]) hx hb dX0_maskedSet_31 hl (k := 1) rfl (k_inc _) (by decide) rfl (fun ls hl => ?_)
        refine lv_goto (tgt := 4) hx hb dX0_maskedSet_34 (by decide) ?_
        refine lv_iload_n hx hb dX0_maskedSet_4 rfl (lv_at hl 0 rfl) ?_
        refine lv_iconst (v := nI 3) hx hb dX0_maskedSet_5 (by decide +kernel) ?_
        refine lv_icmp_ge (tgt := 37) hx hb dX0_maskedSet_6 (by decide) (fun _ => ?_) (fun c => absurd (by decide +kernel) c)
        refine lv_iload_n hx hb dX0_maskedSet_37 rfl (lv_at hl 1 rfl) ?_
        exact hQ _ _ _ _ _ _ hW dX0_maskedSet_38 (by rw [m_X0_maskedSet_r, if_neg c_2, if_pos c_14, if_neg c_16]) rfl
    · refine lv_iconst (v := nI 1) hx hb dX0_maskedSet_22 (by decide +kernel) ?_
      refine lv_iload_n hx hb dX0_maskedSet_23 rfl (lv_at hl 0 rfl) ?_
      refine lv_ishl hx hb dX0_maskedSet_24 ?_
      refine k_top (y := nI 2) (by decide +kernel) ?_
      refine lv_goto (tgt := 29) hx hb dX0_maskedSet_25 (by decide) ?_
      refine lv_ior hx hb dX0_maskedSet_29 ?_
      refine k_top (y := nI 3) (by decide +kernel) ?_
      refine lv_istore_n (lv' := [(1, .int (nI 3)), (2, .int (nI 1)), (0, .ref (a 0))]) hx hb dX0_maskedSet_30 rfl hl (by decide) rfl (fun ls hl => ?_)
      refine lv_iinc (v := nI 2) (lv' := [(2, .int (nI 2)), (1, .int (nI 3)), (0, .ref (a 0))]) hx hb dX0_maskedSet_31 hl (k := 1) rfl (k_inc _) (by decide) rfl (fun ls hl => ?_)
      refine lv_goto (tgt := 4) hx hb dX0_maskedSet_34 (by decide) ?_
      refine lv_iload_n hx hb dX0_maskedSet_4 rfl (lv_at hl 0 rfl) ?_
      refine lv_iconst (v := nI 3) hx hb dX0_maskedSet_5 (by decide +kernel) ?_
      refine lv_icmp_ge (tgt := 37) hx hb dX0_maskedSet_6 (by decide) (fun c => absurd c (by decide +kernel)) (fun _ => ?_)
      refine lv_iload_n hx hb dX0_maskedSet_9 rfl (lv_at hl 1 rfl) ?_
      refine lv_aload_n hx hb dX0_maskedSet_10 rfl (lv_at hl 2 rfl) ?_
      refine k_get X hW inG0 rfl 1 (by decide) fl_X0_20 rfl 0 rfl (v := .ref (a 2)) rfl dX0_maskedSet_11 ?_
      refine lv_iload_n hx hb dX0_maskedSet_14 rfl (lv_at hl 0 rfl) ?_
      refine k_aald X hW 2 1 rfl rfl (j := 2) (b := a 9) rfl (by decide) (by decide) rfl dX0_maskedSet_15 ?_
      refine k_getN X hW inG3 rfl 4 (by decide) fln_X0_85 rfl 9 rfl (v := .int (u 8 4)) rfl dX0_maskedSet_16 ?_
      refine lv_if_eq (tgt := 28) hx hb dX0_maskedSet_19 (by decide) (fun c_20 => ?_) (fun c_20 => ?_)
      · refine lv_iconst (v := nI 0) hx hb dX0_maskedSet_28 (by decide +kernel) ?_
        refine lv_ior hx hb dX0_maskedSet_29 ?_
        refine k_top (y := nI 3) (by decide +kernel) ?_
        refine lv_istore_n (lv' := [(1, .int (nI 3)), (2, .int (nI 2)), (0, .ref (a 0))]) hx hb dX0_maskedSet_30 rfl hl (by decide) rfl (fun ls hl => ?_)
        refine lv_iinc (v := nI 3) (lv' := [(2, .int (nI 3)), (1, .int (nI 3)), (0, .ref (a 0))]) hx hb dX0_maskedSet_31 hl (k := 1) rfl (k_inc _) (by decide) rfl (fun ls hl => ?_)
        refine lv_goto (tgt := 4) hx hb dX0_maskedSet_34 (by decide) ?_
        refine lv_iload_n hx hb dX0_maskedSet_4 rfl (lv_at hl 0 rfl) ?_
        refine lv_iconst (v := nI 3) hx hb dX0_maskedSet_5 (by decide +kernel) ?_
        refine lv_icmp_ge (tgt := 37) hx hb dX0_maskedSet_6 (by decide) (fun _ => ?_) (fun c => absurd (by decide +kernel) c)
        refine lv_iload_n hx hb dX0_maskedSet_37 rfl (lv_at hl 1 rfl) ?_
        exact hQ _ _ _ _ _ _ hW dX0_maskedSet_38 (by rw [m_X0_maskedSet_r, if_neg c_2, if_neg c_14, if_pos c_20]) rfl
      · refine lv_iconst (v := nI 1) hx hb dX0_maskedSet_22 (by decide +kernel) ?_
        refine lv_iload_n hx hb dX0_maskedSet_23 rfl (lv_at hl 0 rfl) ?_
        refine lv_ishl hx hb dX0_maskedSet_24 ?_
        refine k_top (y := nI 4) (by decide +kernel) ?_
        refine lv_goto (tgt := 29) hx hb dX0_maskedSet_25 (by decide) ?_
        refine lv_ior hx hb dX0_maskedSet_29 ?_
        refine k_top (y := nI 7) (by decide +kernel) ?_
        refine lv_istore_n (lv' := [(1, .int (nI 7)), (2, .int (nI 2)), (0, .ref (a 0))]) hx hb dX0_maskedSet_30 rfl hl (by decide) rfl (fun ls hl => ?_)
        refine lv_iinc (v := nI 3) (lv' := [(2, .int (nI 3)), (1, .int (nI 7)), (0, .ref (a 0))]) hx hb dX0_maskedSet_31 hl (k := 1) rfl (k_inc _) (by decide) rfl (fun ls hl => ?_)
        refine lv_goto (tgt := 4) hx hb dX0_maskedSet_34 (by decide) ?_
        refine lv_iload_n hx hb dX0_maskedSet_4 rfl (lv_at hl 0 rfl) ?_
        refine lv_iconst (v := nI 3) hx hb dX0_maskedSet_5 (by decide +kernel) ?_
        refine lv_icmp_ge (tgt := 37) hx hb dX0_maskedSet_6 (by decide) (fun _ => ?_) (fun c => absurd (by decide +kernel) c)
        refine lv_iload_n hx hb dX0_maskedSet_37 rfl (lv_at hl 1 rfl) ?_
        exact hQ _ _ _ _ _ _ hW dX0_maskedSet_38 (by rw [m_X0_maskedSet_r, if_neg c_2, if_neg c_14, if_neg c_20]) rfl
theorem CM_set {u : CS} {x v : Int32} (h : CM u) (h0 : ¬ x < 0) (h1 : x < nI 4) (h2 : ¬ v < SVi 0 (tn x)) (h3 : v ≤ SVi 1 (tn x)) : CM (st2 u 1 (upd (u 1) (tn x) v)) := by
  obtain ⟨e, hx⟩ := k_ltn (by decide) h0 h1
  have e0 : st2 u 1 (upd (u 1) (tn x) v) 0 = u 0 := rfl
  have e1 : st2 u 1 (upd (u 1) (tn x) v) 1 = upd (u 1) (tn x) v := rfl
  obtain ⟨a1, a2, a3, a4⟩ := h
  unfold CM cn
  rw [e0, e1]
  refine ⟨a1, a2, ?_⟩
  by_cases q : tn x = 1
  · rw [q] at h2 h3 ⊢
    have ev : upd (u 1) 1 v 1 = v := by simp [upd]
    rw [ev]
    have k := k_len (n := 16) (by decide) (fun hv => h2 (Int32.lt_trans hv (by decide))) h3
    exact k
  · have ev : upd (u 1) (tn x) v 1 = u 1 1 := by simp only [upd]; rw [if_neg (fun e => q e.symm)]
    rw [ev]; exact ⟨a3, a4⟩
def m_X0_changeSetting_r (u : CS) (x : Int32) (v : Int32) : Int32 := if x < 0 then (-2) else if x < nI 4 then (if v < SVi 0 (tn x) then (-2) else if v ≤ SVi 1 (tn x) then u 1 (tn x) else (-2)) else (-2)
def m_X0_changeSetting_u (u : CS) (x : Int32) (v : Int32) : CS := if x < 0 then u else if x < nI 4 then (if v < SVi 0 (tn x) then u else if v ≤ SVi 1 (tn x) then st2 u 1 (upd (u 1) (tn x) v) else u) else u
set_option maxHeartbeats 4000000 in
set_option maxRecDepth 100000 in
theorem c_X0_changeSetting (l : Launch) (D : va_G) (k : Nat → ClassId) (a : Nat → Nat) (u : CS) (x : Int32) (v : Int32)  : mI l yX0_changeSetting (wsY yX0_changeSetting cX0_changeSetting 4 (some .int)) 0 D k [.ref (a 0), .int x, .int v] (cardW k a u) (cardW k a (m_X0_changeSetting_u u x v)) (m_X0_changeSetting_r u x v) := by
  refine mI_intro rfl (Nat.le_of_ble_eq_true rfl) (Or.inl rfl) ?_
  intro p e s m args below meth c A Q ls X hW hl hQ
  have hx := X.hx
  have hb := X.hb
  have hl : lv_has ls 4 [(0, .ref (a 0)), (1, .int x), (2, .int v)] := hl
  refine lv_iload_n hx hb dX0_changeSetting_0 rfl (lv_at hl 1 rfl) ?_
  refine lv_if_lt (tgt := 13) hx hb dX0_changeSetting_1 (by decide) (fun c_1 => ?_) (fun c_1 => ?_)
  · refine lv_bipush (v := (-2)) hx hb dX0_changeSetting_13 (by decide +kernel) ?_
    exact hQ _ _ _ _ _ _ hW dX0_changeSetting_15 (by rw [m_X0_changeSetting_r, if_pos c_1]) (by rw [m_X0_changeSetting_u, if_pos c_1])
  · refine lv_iload_n hx hb dX0_changeSetting_4 rfl (lv_at hl 1 rfl) ?_
    refine lv_aload_n hx hb dX0_changeSetting_5 rfl (lv_at hl 0 rfl) ?_
    refine k_get X hW inG0 rfl 0 (by decide) fl_X0_13 rfl 0 rfl (v := .ref (a 1)) rfl dX0_changeSetting_6 ?_
    refine k_alen X hW 1 0 rfl rfl (v := nI 4) rfl dX0_changeSetting_9 ?_
    refine lv_icmp_lt (tgt := 16) hx hb dX0_changeSetting_10 (by decide) (fun c_2 => ?_) (fun c_2 => ?_)
    · obtain ⟨hi_3, hj_3⟩ := k_ltn (by decide) c_1 c_2
      refine lv_iload_n hx hb dX0_changeSetting_16 rfl (lv_at hl 2 rfl) ?_
      refine k_getsN X hW 0 (by decide) fln_X0_57 dX0_changeSetting_17 (fun t_4 hT_4 => ?_)
      refine lv_iload_n hx hb dX0_changeSetting_20 rfl (lv_at hl 1 rfl) ?_
      refine k_top (y := nI (tn x)) (hi_3) ?_
      refine k_tld X hW hT_4 (q := (tn x)) (v := SVi 0 (tn x)) rfl (by omega) rfl dX0_changeSetting_21 ?_
      refine lv_icmp_lt (tgt := 34) hx hb dX0_changeSetting_22 (by decide) (fun c_5 => ?_) (fun c_5 => ?_)
      · refine lv_bipush (v := (-2)) hx hb dX0_changeSetting_34 (by decide +kernel) ?_
        exact hQ _ _ _ _ _ _ hW dX0_changeSetting_36 (by rw [m_X0_changeSetting_r, if_neg c_1, if_pos c_2, if_pos c_5]) (by rw [m_X0_changeSetting_u, if_neg c_1, if_pos c_2, if_pos c_5])
      · refine lv_iload_n hx hb dX0_changeSetting_25 rfl (lv_at hl 2 rfl) ?_
        refine k_getsN X hW 1 (by decide) fln_X0_60 dX0_changeSetting_26 (fun t_6 hT_6 => ?_)
        refine lv_iload_n hx hb dX0_changeSetting_29 rfl (lv_at hl 1 rfl) ?_
        refine k_top (y := nI (tn x)) (hi_3) ?_
        refine k_tld X hW hT_6 (q := (tn x)) (v := SVi 1 (tn x)) rfl (by omega) rfl dX0_changeSetting_30 ?_
        refine lv_icmp_le (tgt := 37) hx hb dX0_changeSetting_31 (by decide) (fun c_7 => ?_) (fun c_7 => ?_)
        · refine lv_aload_n hx hb dX0_changeSetting_37 rfl (lv_at hl 0 rfl) ?_
          refine k_get X hW inG0 rfl 0 (by decide) fl_X0_13 rfl 0 rfl (v := .ref (a 1)) rfl dX0_changeSetting_38 ?_
          refine lv_iload_n hx hb dX0_changeSetting_41 rfl (lv_at hl 1 rfl) ?_
          refine k_top (y := nI (tn x)) (hi_3) ?_
          refine k_iald X hW 1 rfl (j := (tn x)) (v := u 1 (tn x)) rfl (by omega) (by decide) rfl dX0_changeSetting_42 ?_
          refine lv_istore_n (lv' := [(3, .int (u 1 (tn x))), (0, .ref (a 0)), (1, .int x), (2, .int v)]) hx hb dX0_changeSetting_43 rfl hl (by decide) rfl (fun ls hl => ?_)
          refine lv_aload_n hx hb dX0_changeSetting_44 rfl (lv_at hl 1 rfl) ?_
          refine k_get X hW inG0 rfl 0 (by decide) fl_X0_13 rfl 0 rfl (v := .ref (a 1)) rfl dX0_changeSetting_45 ?_
          refine lv_iload_n hx hb dX0_changeSetting_48 rfl (lv_at hl 2 rfl) ?_
          refine k_top (y := nI (tn x)) (hi_3) ?_
          refine lv_iload_n hx hb dX0_changeSetting_49 rfl (lv_at hl 3 rfl) ?_
          refine k_iast X hW 1 rfl (j := (tn x)) rfl (by omega) (by decide) dX0_changeSetting_50 (w' := cardW k a (st2 u 1 (upd (u 1) (tn x) v))) rfl (fun H locs hW => ?_)
          refine lv_iload_n hx hb dX0_changeSetting_51 rfl (lv_at hl 0 rfl) ?_
          exact hQ _ _ _ _ _ _ hW dX0_changeSetting_52 (by rw [m_X0_changeSetting_r, if_neg c_1, if_pos c_2, if_neg c_5, if_pos c_7]) (by rw [m_X0_changeSetting_u, if_neg c_1, if_pos c_2, if_neg c_5, if_pos c_7])
        · refine lv_bipush (v := (-2)) hx hb dX0_changeSetting_34 (by decide +kernel) ?_
          exact hQ _ _ _ _ _ _ hW dX0_changeSetting_36 (by rw [m_X0_changeSetting_r, if_neg c_1, if_pos c_2, if_neg c_5, if_neg c_7]) (by rw [m_X0_changeSetting_u, if_neg c_1, if_pos c_2, if_neg c_5, if_neg c_7])
    · refine lv_bipush (v := (-2)) hx hb dX0_changeSetting_13 (by decide +kernel) ?_
      exact hQ _ _ _ _ _ _ hW dX0_changeSetting_15 (by rw [m_X0_changeSetting_r, if_neg c_1, if_neg c_2]) (by rw [m_X0_changeSetting_u, if_neg c_1, if_neg c_2])
set_option maxHeartbeats 4000000 in
theorem CM_X0_changeSetting {u : CS} {x : Int32} {v : Int32} (h : CM u) : CM (m_X0_changeSetting_u u x v) := by
  rw [m_X0_changeSetting_u]
  split
  · exact h
  · split
    · split
      · exact h
      · split
        · exact CM_set h ‹_› ‹_› ‹_› ‹_›
        · exact h
    · exact h
def m_X0_changeBounds_r (u : CS) (x : Int32) (c1 : Int32) (w : Int32) : Int32 := if (m_X4_isQueue_r x) = 0 then (-1) else if c1 < nI 1 then (-2) else if nI 32 < c1 then (-2) else if w < nI 1 then (-2) else if w ≤ nI 99 then (if x = nI 0 then u 6 0 else if x = nI 1 then u 7 0 else u 8 0) else (-2)
def m_X0_changeBounds_u (u : CS) (x : Int32) (c1 : Int32) (w : Int32) : CS := if (m_X4_isQueue_r x) = 0 then u else if c1 < nI 1 then u else if nI 32 < c1 then u else if w < nI 1 then u else if w ≤ nI 99 then (if x = nI 0 then st2 u 6 (upd (upd (upd (u 6) 0 c1) 1 w) 2 c1) else if x = nI 1 then st2 u 7 (upd (upd (upd (u 7) 0 c1) 1 w) 2 c1) else st2 u 8 (upd (upd (upd (u 8) 0 c1) 1 w) 2 c1)) else u
set_option maxHeartbeats 4000000 in
set_option maxRecDepth 100000 in
theorem c_X0_changeBounds (l : Launch) (D : va_G) (k : Nat → ClassId) (a : Nat → Nat) (u : CS) (x : Int32) (c1 : Int32) (w : Int32)  : mI l yX0_changeBounds (wsY yX0_changeBounds cX0_changeBounds 6 (some .int)) 1 D k [.ref (a 0), .int x, .int c1, .int w] (cardW k a u) (cardW k a (m_X0_changeBounds_u u x c1 w)) (m_X0_changeBounds_r u x c1 w) := by
  refine mI_intro rfl (Nat.le_of_ble_eq_true rfl) (Or.inl rfl) ?_
  intro p e s m args below meth c A Q ls X hW hl hQ
  have hx := X.hx
  have hb := X.hb
  have hl : lv_has ls 6 [(0, .ref (a 0)), (1, .int x), (2, .int c1), (3, .int w)] := hl
  refine lv_iload_n hx hb dX0_changeBounds_0 rfl (lv_at hl 1 rfl) ?_
  obtain ⟨z_1, hz_1⟩ : ∃ zq, m_X4_isQueue_r x = zq := ⟨_, rfl⟩
  have hM_2 := (c_X4_isQueue l D k x)
  rw [hz_1] at hM_2
  refine kSNi (As := [.int x]) (rest := []) X hW hM_2 yw_X4_isQueue lkn_X0_63 ⟨Nat.le_of_ble_eq_true rfl, Nat.le_of_ble_eq_true rfl⟩ rfl hl.1 rfl (Nat.le_of_ble_eq_true rfl) ⟨Nat.zero_le _, Nat.zero_le _⟩ dX0_changeBounds_1 (fun H locs hW => ?_)
  refine lv_if_ne (tgt := 9) hx hb dX0_changeBounds_4 (by decide) (fun c_3 => ?_) (fun c_3 => ?_)
  · refine lv_iload_n hx hb dX0_changeBounds_9 rfl (lv_at hl 2 rfl) ?_
    refine lv_iconst (v := nI 1) hx hb dX0_changeBounds_10 (by decide +kernel) ?_
    refine lv_icmp_lt (tgt := 31) hx hb dX0_changeBounds_11 (by decide) (fun c_4 => ?_) (fun c_4 => ?_)
    · refine lv_bipush (v := (-2)) hx hb dX0_changeBounds_31 (by decide +kernel) ?_
      exact hQ _ _ _ _ _ _ hW dX0_changeBounds_33 (by subst hz_1; rw [m_X0_changeBounds_r, if_neg c_3, if_pos c_4]) (by subst hz_1; rw [m_X0_changeBounds_u, if_neg c_3, if_pos c_4])
    · refine lv_iload_n hx hb dX0_changeBounds_14 rfl (lv_at hl 2 rfl) ?_
      refine lv_bipush (v := nI 32) hx hb dX0_changeBounds_15 (by decide +kernel) ?_
      refine lv_icmp_gt (tgt := 31) hx hb dX0_changeBounds_17 (by decide) (fun c_5 => ?_) (fun c_5 => ?_)
      · refine lv_bipush (v := (-2)) hx hb dX0_changeBounds_31 (by decide +kernel) ?_
        exact hQ _ _ _ _ _ _ hW dX0_changeBounds_33 (by subst hz_1; rw [m_X0_changeBounds_r, if_neg c_3, if_neg c_4, if_pos c_5]) (by subst hz_1; rw [m_X0_changeBounds_u, if_neg c_3, if_neg c_4, if_pos c_5])
      · refine lv_iload_n hx hb dX0_changeBounds_20 rfl (lv_at hl 3 rfl) ?_
        refine lv_iconst (v := nI 1) hx hb dX0_changeBounds_21 (by decide +kernel) ?_
        refine lv_icmp_lt (tgt := 31) hx hb dX0_changeBounds_22 (by decide) (fun c_6 => ?_) (fun c_6 => ?_)
        · refine lv_bipush (v := (-2)) hx hb dX0_changeBounds_31 (by decide +kernel) ?_
          exact hQ _ _ _ _ _ _ hW dX0_changeBounds_33 (by subst hz_1; rw [m_X0_changeBounds_r, if_neg c_3, if_neg c_4, if_neg c_5, if_pos c_6]) (by subst hz_1; rw [m_X0_changeBounds_u, if_neg c_3, if_neg c_4, if_neg c_5, if_pos c_6])
        · refine lv_iload_n hx hb dX0_changeBounds_25 rfl (lv_at hl 3 rfl) ?_
          refine lv_bipush (v := nI 99) hx hb dX0_changeBounds_26 (by decide +kernel) ?_
          refine lv_icmp_le (tgt := 34) hx hb dX0_changeBounds_28 (by decide) (fun c_7 => ?_) (fun c_7 => ?_)
          · refine lv_aload_n hx hb dX0_changeBounds_34 rfl (lv_at hl 0 rfl) ?_
            refine k_get X hW inG0 rfl 1 (by decide) fl_X0_20 rfl 0 rfl (v := .ref (a 2)) rfl dX0_changeBounds_35 ?_
            refine lv_iload_n hx hb dX0_changeBounds_38 rfl (lv_at hl 1 rfl) ?_
            rcases isq3 (x := x) (by rw [hz_1]; exact c_3) with h_8 | h_8 | h_8
            · refine k_top (y := nI 0) (h_8) ?_
              refine k_aald X hW 2 1 rfl rfl (j := 0) (b := a 7) rfl (by decide) (by decide) rfl dX0_changeBounds_39 ?_
              refine lv_astore (lv' := [(4, .ref (a 7)), (0, .ref (a 0)), (1, .int x), (2, .int c1), (3, .int w)]) hx hb dX0_changeBounds_40 hl (by decide) rfl (fun ls hl => ?_)
              refine lv_aload hx hb dX0_changeBounds_42 (lv_at hl 0 rfl) ?_
              refine k_getN X hW inG3 rfl 0 (by decide) fln_X0_67 rfl 7 rfl (v := .int (u 6 0)) rfl dX0_changeBounds_44 ?_
              refine lv_istore (lv' := [(5, .int (u 6 0)), (4, .ref (a 7)), (0, .ref (a 0)), (1, .int x), (2, .int c1), (3, .int w)]) hx hb dX0_changeBounds_47 hl (by decide) rfl (fun ls hl => ?_)
              refine lv_aload hx hb dX0_changeBounds_49 (lv_at hl 1 rfl) ?_
              refine lv_iload_n hx hb dX0_changeBounds_51 rfl (lv_at hl 4 rfl) ?_
              refine k_putN X hW inG3 rfl tyX3_ok nmX3 0 (by decide) fln_X0_67 rfl rfl 7 rfl rfl rfl (Nat.le_of_ble_eq_true rfl) dX0_changeBounds_52 (w' := cardW k a (st2 u 6 (upd (u 6) 0 c1))) rfl (fun H locs hW => ?_)
              refine lv_aload hx hb dX0_changeBounds_55 (lv_at hl 1 rfl) ?_
              refine lv_iload_n hx hb dX0_changeBounds_57 rfl (lv_at hl 5 rfl) ?_
              refine k_putN X hW inG3 rfl tyX3_ok nmX3 1 (by decide) fln_X0_70 rfl rfl 7 rfl rfl rfl (Nat.le_of_ble_eq_true rfl) dX0_changeBounds_58 (w' := cardW k a (st2 u 6 (upd (upd (u 6) 0 c1) 1 w))) rfl (fun H locs hW => ?_)
              refine lv_aload hx hb dX0_changeBounds_61 (lv_at hl 1 rfl) ?_
              refine lv_iload_n hx hb dX0_changeBounds_63 rfl (lv_at hl 4 rfl) ?_
              refine k_putN X hW inG3 rfl tyX3_ok nmX3 2 (by decide) fln_X0_73 rfl rfl 7 rfl rfl rfl (Nat.le_of_ble_eq_true rfl) dX0_changeBounds_64 (w' := cardW k a (st2 u 6 (upd (upd (upd (u 6) 0 c1) 1 w) 2 c1))) rfl (fun H locs hW => ?_)
              refine lv_iload hx hb dX0_changeBounds_67 (lv_at hl 0 rfl) ?_
              exact hQ _ _ _ _ _ _ hW dX0_changeBounds_69 (by subst hz_1; rw [m_X0_changeBounds_r, if_neg c_3, if_neg c_4, if_neg c_5, if_neg c_6, if_pos c_7, if_pos h_8]) (by subst hz_1; rw [m_X0_changeBounds_u, if_neg c_3, if_neg c_4, if_neg c_5, if_neg c_6, if_pos c_7, if_pos h_8])
            · have c_9 : ¬ x = nI 0 := by rw [h_8]; decide +kernel
              refine k_top (y := nI 1) (h_8) ?_
              refine k_aald X hW 2 1 rfl rfl (j := 1) (b := a 8) rfl (by decide) (by decide) rfl dX0_changeBounds_39 ?_
              refine lv_astore (lv' := [(4, .ref (a 8)), (0, .ref (a 0)), (1, .int x), (2, .int c1), (3, .int w)]) hx hb dX0_changeBounds_40 hl (by decide) rfl (fun ls hl => ?_)
              refine lv_aload hx hb dX0_changeBounds_42 (lv_at hl 0 rfl) ?_
              refine k_getN X hW inG3 rfl 0 (by decide) fln_X0_67 rfl 8 rfl (v := .int (u 7 0)) rfl dX0_changeBounds_44 ?_
              refine lv_istore (lv' := [(5, .int (u 7 0)), (4, .ref (a 8)), (0, .ref (a 0)), (1, .int x), (2, .int c1), (3, .int w)]) hx hb dX0_changeBounds_47 hl (by decide) rfl (fun ls hl => ?_)
              refine lv_aload hx hb dX0_changeBounds_49 (lv_at hl 1 rfl) ?_
              refine lv_iload_n hx hb dX0_changeBounds_51 rfl (lv_at hl 4 rfl) ?_
              refine k_putN X hW inG3 rfl tyX3_ok nmX3 0 (by decide) fln_X0_67 rfl rfl 8 rfl rfl rfl (Nat.le_of_ble_eq_true rfl) dX0_changeBounds_52 (w' := cardW k a (st2 u 7 (upd (u 7) 0 c1))) rfl (fun H locs hW => ?_)
              refine lv_aload hx hb dX0_changeBounds_55 (lv_at hl 1 rfl) ?_
              refine lv_iload_n hx hb dX0_changeBounds_57 rfl (lv_at hl 5 rfl) ?_
              refine k_putN X hW inG3 rfl tyX3_ok nmX3 1 (by decide) fln_X0_70 rfl rfl 8 rfl rfl rfl (Nat.le_of_ble_eq_true rfl) dX0_changeBounds_58 (w' := cardW k a (st2 u 7 (upd (upd (u 7) 0 c1) 1 w))) rfl (fun H locs hW => ?_)
              refine lv_aload hx hb dX0_changeBounds_61 (lv_at hl 1 rfl) ?_
              refine lv_iload_n hx hb dX0_changeBounds_63 rfl (lv_at hl 4 rfl) ?_
              refine k_putN X hW inG3 rfl tyX3_ok nmX3 2 (by decide) fln_X0_73 rfl rfl 8 rfl rfl rfl (Nat.le_of_ble_eq_true rfl) dX0_changeBounds_64 (w' := cardW k a (st2 u 7 (upd (upd (upd (u 7) 0 c1) 1 w) 2 c1))) rfl (fun H locs hW => ?_)
              refine lv_iload hx hb dX0_changeBounds_67 (lv_at hl 0 rfl) ?_
              exact hQ _ _ _ _ _ _ hW dX0_changeBounds_69 (by subst hz_1; rw [m_X0_changeBounds_r, if_neg c_3, if_neg c_4, if_neg c_5, if_neg c_6, if_pos c_7, if_neg c_9, if_pos h_8]) (by subst hz_1; rw [m_X0_changeBounds_u, if_neg c_3, if_neg c_4, if_neg c_5, if_neg c_6, if_pos c_7, if_neg c_9, if_pos h_8])
            · have c_10 : ¬ x = nI 0 := by rw [h_8]; decide +kernel
              have c_11 : ¬ x = nI 1 := by rw [h_8]; decide +kernel
              refine k_top (y := nI 2) (h_8) ?_
              refine k_aald X hW 2 1 rfl rfl (j := 2) (b := a 9) rfl (by decide) (by decide) rfl dX0_changeBounds_39 ?_
              refine lv_astore (lv' := [(4, .ref (a 9)), (0, .ref (a 0)), (1, .int x), (2, .int c1), (3, .int w)]) hx hb dX0_changeBounds_40 hl (by decide) rfl (fun ls hl => ?_)
              refine lv_aload hx hb dX0_changeBounds_42 (lv_at hl 0 rfl) ?_
              refine k_getN X hW inG3 rfl 0 (by decide) fln_X0_67 rfl 9 rfl (v := .int (u 8 0)) rfl dX0_changeBounds_44 ?_
              refine lv_istore (lv' := [(5, .int (u 8 0)), (4, .ref (a 9)), (0, .ref (a 0)), (1, .int x), (2, .int c1), (3, .int w)]) hx hb dX0_changeBounds_47 hl (by decide) rfl (fun ls hl => ?_)
              refine lv_aload hx hb dX0_changeBounds_49 (lv_at hl 1 rfl) ?_
              refine lv_iload_n hx hb dX0_changeBounds_51 rfl (lv_at hl 4 rfl) ?_
              refine k_putN X hW inG3 rfl tyX3_ok nmX3 0 (by decide) fln_X0_67 rfl rfl 9 rfl rfl rfl (Nat.le_of_ble_eq_true rfl) dX0_changeBounds_52 (w' := cardW k a (st2 u 8 (upd (u 8) 0 c1))) rfl (fun H locs hW => ?_)
              refine lv_aload hx hb dX0_changeBounds_55 (lv_at hl 1 rfl) ?_
              refine lv_iload_n hx hb dX0_changeBounds_57 rfl (lv_at hl 5 rfl) ?_
              refine k_putN X hW inG3 rfl tyX3_ok nmX3 1 (by decide) fln_X0_70 rfl rfl 9 rfl rfl rfl (Nat.le_of_ble_eq_true rfl) dX0_changeBounds_58 (w' := cardW k a (st2 u 8 (upd (upd (u 8) 0 c1) 1 w))) rfl (fun H locs hW => ?_)
              refine lv_aload hx hb dX0_changeBounds_61 (lv_at hl 1 rfl) ?_
              refine lv_iload_n hx hb dX0_changeBounds_63 rfl (lv_at hl 4 rfl) ?_
              refine k_putN X hW inG3 rfl tyX3_ok nmX3 2 (by decide) fln_X0_73 rfl rfl 9 rfl rfl rfl (Nat.le_of_ble_eq_true rfl) dX0_changeBounds_64 (w' := cardW k a (st2 u 8 (upd (upd (upd (u 8) 0 c1) 1 w) 2 c1))) rfl (fun H locs hW => ?_)
              refine lv_iload hx hb dX0_changeBounds_67 (lv_at hl 0 rfl) ?_
              exact hQ _ _ _ _ _ _ hW dX0_changeBounds_69 (by subst hz_1; rw [m_X0_changeBounds_r, if_neg c_3, if_neg c_4, if_neg c_5, if_neg c_6, if_pos c_7, if_neg c_10, if_neg c_11]) (by subst hz_1; rw [m_X0_changeBounds_u, if_neg c_3, if_neg c_4, if_neg c_5, if_neg c_6, if_pos c_7, if_neg c_10, if_neg c_11])
          · refine lv_bipush (v := (-2)) hx hb dX0_changeBounds_31 (by decide +kernel) ?_
            exact hQ _ _ _ _ _ _ hW dX0_changeBounds_33 (by subst hz_1; rw [m_X0_changeBounds_r, if_neg c_3, if_neg c_4, if_neg c_5, if_neg c_6, if_neg c_7]) (by subst hz_1; rw [m_X0_changeBounds_u, if_neg c_3, if_neg c_4, if_neg c_5, if_neg c_6, if_neg c_7])
  · refine lv_iconst (v := (-1)) hx hb dX0_changeBounds_7 (by decide +kernel) ?_
    exact hQ _ _ _ _ _ _ hW dX0_changeBounds_8 (by subst hz_1; rw [m_X0_changeBounds_r, if_pos c_3]) (by subst hz_1; rw [m_X0_changeBounds_u, if_pos c_3])
set_option maxHeartbeats 4000000 in
theorem CM_X0_changeBounds {u : CS} {x : Int32} {c1 : Int32} {w : Int32} (h : CM u) : CM (m_X0_changeBounds_u u x c1 w) := by
  rw [m_X0_changeBounds_u]
  split
  · exact h
  · split
    · exact h
    · split
      · exact h
      · split
        · exact h
        · split
          · split
            · exact (CM_stc h (by decide) (by decide))
            · split
              · exact (CM_stc h (by decide) (by decide))
              · exact (CM_stc h (by decide) (by decide))
          · exact h
theorem CM_came {u : CS} {f : Nat → Int32} (h : CM u) (h1 : cn u < 400) (hf : f 3 = nI (cn u + 1)) : CM (st2 u 0 f) := by
  obtain ⟨a1, a2, a3, a4⟩ := h
  have e0 : st2 u 0 f 0 = f := rfl
  have e1 : st2 u 0 f 1 = u 1 := rfl
  have e2 : tn (f 3) = cn u + 1 := tn_of hf (by omega)
  unfold CM
  rw [show cn (st2 u 0 f) = cn u + 1 from e2, e0, e1]
  exact ⟨hf, by omega, a3, a4⟩
def m_X0_receive_r (u : CS) (f : Int32) : Int32 := if f < 0 then (-2) else if f ≤ nI 99 then (if cn u < 400 then (if f - f / (nI 3) * (nI 3) = nI 0 then (if u 6 5 < u 1 0 then (if u 6 6 = (-6) then nI (cn u) else nI (cn u)) else nI (cn u)) else if f - f / (nI 3) * (nI 3) = nI 1 then (if u 7 5 < u 1 0 then (if u 7 6 = (-6) then nI (cn u) else nI (cn u)) else nI (cn u)) else if u 8 5 < u 1 0 then (if u 8 6 = (-6) then nI (cn u) else nI (cn u)) else nI (cn u)) else (-4)) else (-2)
def m_X0_receive_u (u : CS) (f : Int32) : CS := if f < 0 then u else if f ≤ nI 99 then (if cn u < 400 then (if f - f / (nI 3) * (nI 3) = nI 0 then (if u 6 5 < u 1 0 then (if u 6 6 = (-6) then st2 (st2 (st2 (st2 (st2 u 0 (upd (u 0) 3 (nI (cn u + 1)))) 2 (upd (u 2) (cn u) f)) 3 (upd (u 3) (cn u) (u 0 2))) 4 (upd (u 4) (cn u) (nI 0))) 6 (upd (upd (u 6) 5 ((u 6 5) + (nI 1))) 6 (nI (cn u))) else st2 (st2 (st2 (st2 (st2 u 0 (upd (u 0) 3 (nI (cn u + 1)))) 2 (upd (u 2) (cn u) f)) 3 (upd (u 3) (cn u) (u 0 2))) 4 (upd (u 4) (cn u) (nI 0))) 6 (upd (u 6) 5 ((u 6 5) + (nI 1)))) else st2 (st2 (st2 (st2 (st2 u 0 (upd (u 0) 3 (nI (cn u + 1)))) 2 (upd (u 2) (cn u) f)) 3 (upd (u 3) (cn u) (u 0 2))) 4 (upd (u 4) (cn u) (nI 2))) 6 (upd (u 6) 9 ((u 6 9) + (nI 1)))) else if f - f / (nI 3) * (nI 3) = nI 1 then (if u 7 5 < u 1 0 then (if u 7 6 = (-6) then st2 (st2 (st2 (st2 (st2 u 0 (upd (u 0) 3 (nI (cn u + 1)))) 2 (upd (u 2) (cn u) f)) 3 (upd (u 3) (cn u) (u 0 2))) 4 (upd (u 4) (cn u) (nI 0))) 7 (upd (upd (u 7) 5 ((u 7 5) + (nI 1))) 6 (nI (cn u))) else st2 (st2 (st2 (st2 (st2 u 0 (upd (u 0) 3 (nI (cn u + 1)))) 2 (upd (u 2) (cn u) f)) 3 (upd (u 3) (cn u) (u 0 2))) 4 (upd (u 4) (cn u) (nI 0))) 7 (upd (u 7) 5 ((u 7 5) + (nI 1)))) else st2 (st2 (st2 (st2 (st2 u 0 (upd (u 0) 3 (nI (cn u + 1)))) 2 (upd (u 2) (cn u) f)) 3 (upd (u 3) (cn u) (u 0 2))) 4 (upd (u 4) (cn u) (nI 2))) 7 (upd (u 7) 9 ((u 7 9) + (nI 1)))) else if u 8 5 < u 1 0 then (if u 8 6 = (-6) then st2 (st2 (st2 (st2 (st2 u 0 (upd (u 0) 3 (nI (cn u + 1)))) 2 (upd (u 2) (cn u) f)) 3 (upd (u 3) (cn u) (u 0 2))) 4 (upd (u 4) (cn u) (nI 0))) 8 (upd (upd (u 8) 5 ((u 8 5) + (nI 1))) 6 (nI (cn u))) else st2 (st2 (st2 (st2 (st2 u 0 (upd (u 0) 3 (nI (cn u + 1)))) 2 (upd (u 2) (cn u) f)) 3 (upd (u 3) (cn u) (u 0 2))) 4 (upd (u 4) (cn u) (nI 0))) 8 (upd (u 8) 5 ((u 8 5) + (nI 1)))) else st2 (st2 (st2 (st2 (st2 u 0 (upd (u 0) 3 (nI (cn u + 1)))) 2 (upd (u 2) (cn u) f)) 3 (upd (u 3) (cn u) (u 0 2))) 4 (upd (u 4) (cn u) (nI 2))) 8 (upd (u 8) 9 ((u 8 9) + (nI 1)))) else u) else u
set_option maxHeartbeats 4000000 in
set_option maxRecDepth 100000 in
theorem c_X0_receive (l : Launch) (D : va_G) (k : Nat → ClassId) (a : Nat → Nat) (u : CS) (f : Int32) (hc : CM u)  : mI l yX0_receive (wsY yX0_receive cX0_receive 4 (some .int)) 0 D k [.ref (a 0), .int f] (cardW k a u) (cardW k a (m_X0_receive_u u f)) (m_X0_receive_r u f) := by
  refine mI_intro rfl (Nat.le_of_ble_eq_true rfl) (Or.inl rfl) ?_
  intro p e s m args below meth c A Q ls X hW hl hQ
  have hx := X.hx
  have hb := X.hb
  have hl : lv_has ls 4 [(0, .ref (a 0)), (1, .int f)] := hl
  have hc4 := hc.2.1
  refine lv_iload_n hx hb dX0_receive_0 rfl (lv_at hl 1 rfl) ?_
  refine lv_if_lt (tgt := 10) hx hb dX0_receive_1 (by decide) (fun c_1 => ?_) (fun c_1 => ?_)
  · refine lv_bipush (v := (-2)) hx hb dX0_receive_10 (by decide +kernel) ?_
    exact hQ _ _ _ _ _ _ hW dX0_receive_12 (by rw [m_X0_receive_r, if_pos c_1]) (by rw [m_X0_receive_u, if_pos c_1])
  · refine lv_iload_n hx hb dX0_receive_4 rfl (lv_at hl 1 rfl) ?_
    refine lv_bipush (v := nI 99) hx hb dX0_receive_5 (by decide +kernel) ?_
    refine lv_icmp_le (tgt := 13) hx hb dX0_receive_7 (by decide) (fun c_2 => ?_) (fun c_2 => ?_)
    · refine lv_aload_n hx hb dX0_receive_13 rfl (lv_at hl 0 rfl) ?_
      refine k_get X hW inG0 rfl 3 (by decide) fl_X0_28 rfl 0 rfl (v := .int (u 0 3)) rfl dX0_receive_14 ?_
      refine k_top (y := nI (cn u)) (hc.1) ?_
      refine lv_sipush (v := nI 400) hx hb dX0_receive_17 (by decide +kernel) ?_
      refine lv_icmp_lt (tgt := 26) hx hb dX0_receive_20 (by decide) (fun c_3 => ?_) (fun c_3 => ?_)
      · have c_3 : cn u < 400 := (nI_ltI (a := cn u) (b := 400) (by omega) (by omega)).mp c_3
        refine lv_aload_n hx hb dX0_receive_26 rfl (lv_at hl 0 rfl) ?_
        refine k_get X hW inG0 rfl 3 (by decide) fl_X0_28 rfl 0 rfl (v := .int (u 0 3)) rfl dX0_receive_27 ?_
        refine k_top (y := nI (cn u)) (hc.1) ?_
        refine lv_istore_n (lv' := [(2, .int (nI (cn u))), (0, .ref (a 0)), (1, .int f)]) hx hb dX0_receive_30 rfl hl (by decide) rfl (fun ls hl => ?_)
        refine lv_aload_n hx hb dX0_receive_31 rfl (lv_at hl 1 rfl) ?_
        refine lv_dup hx hb dX0_receive_32 rfl ?_
        refine k_get X hW inG0 rfl 3 (by decide) fl_X0_28 rfl 0 rfl (v := .int (u 0 3)) rfl dX0_receive_33 ?_
        refine k_top (y := nI (cn u)) (hc.1) ?_
        refine lv_iconst (v := nI 1) hx hb dX0_receive_36 (by decide +kernel) ?_
        refine lv_iadd hx hb dX0_receive_37 ?_
        refine k_top (y := nI (cn u + 1)) (nI_add _ _) ?_
        refine k_put X hW inG0 rfl tyX0_ok nmX0 3 (by decide) fl_X0_28 rfl rfl 0 rfl rfl rfl (Nat.le_of_ble_eq_true rfl) dX0_receive_38 (w' := cardW k a (st2 u 0 (upd (u 0) 3 (nI (cn u + 1))))) rfl (fun H locs hW => ?_)
        refine lv_aload_n hx hb dX0_receive_41 rfl (lv_at hl 1 rfl) ?_
        refine k_get X hW inG0 rfl 4 (by decide) fl_X0_31 rfl 0 rfl (v := .ref (a 3)) rfl dX0_receive_42 ?_
        refine lv_iload_n hx hb dX0_receive_45 rfl (lv_at hl 0 rfl) ?_
        refine lv_iload_n hx hb dX0_receive_46 rfl (lv_at hl 2 rfl) ?_
        refine k_iast X hW 3 rfl (j := (cn u)) rfl (by omega) (by decide) dX0_receive_47 (w' := cardW k a (st2 (st2 u 0 (upd (u 0) 3 (nI (cn u + 1)))) 2 (upd (u 2) (cn u) f))) rfl (fun H locs hW => ?_)
        refine lv_aload_n hx hb dX0_receive_48 rfl (lv_at hl 1 rfl) ?_
        refine k_get X hW inG0 rfl 5 (by decide) fl_X0_34 rfl 0 rfl (v := .ref (a 4)) rfl dX0_receive_49 ?_
        refine lv_iload_n hx hb dX0_receive_52 rfl (lv_at hl 0 rfl) ?_
        refine lv_aload_n hx hb dX0_receive_53 rfl (lv_at hl 1 rfl) ?_
        refine k_get X hW inG0 rfl 2 (by decide) fl_X0_24 rfl 0 rfl (v := .int (u 0 2)) rfl dX0_receive_54 ?_
        refine k_iast X hW 4 rfl (j := (cn u)) rfl (by omega) (by decide) dX0_receive_57 (w' := cardW k a (st2 (st2 (st2 u 0 (upd (u 0) 3 (nI (cn u + 1)))) 2 (upd (u 2) (cn u) f)) 3 (upd (u 3) (cn u) (u 0 2)))) rfl (fun H locs hW => ?_)
        refine lv_aload_n hx hb dX0_receive_58 rfl (lv_at hl 1 rfl) ?_
        refine k_get X hW inG0 rfl 1 (by decide) fl_X0_20 rfl 0 rfl (v := .ref (a 2)) rfl dX0_receive_59 ?_
        refine lv_iload_n hx hb dX0_receive_62 rfl (lv_at hl 2 rfl) ?_
        refine lv_iconst (v := nI 3) hx hb dX0_receive_63 (by decide +kernel) ?_
        refine lv_irem hx hb dX0_receive_64 (by decide +kernel) ?_
        rcases k_mod3 c_1 with h_4 | h_4 | h_4
        · refine k_top (y := nI 0) (h_4) ?_
          refine k_aald X hW 2 1 rfl rfl (j := 0) (b := a 7) rfl (by decide) (by decide) rfl dX0_receive_65 ?_
          refine lv_astore_n (lv' := [(3, .ref (a 7)), (2, .int (nI (cn u))), (0, .ref (a 0)), (1, .int f)]) hx hb dX0_receive_66 rfl hl (by decide) rfl (fun ls hl => ?_)
          refine lv_aload_n hx hb dX0_receive_67 rfl (lv_at hl 0 rfl) ?_
          refine k_getN X hW inG3 rfl 5 (by decide) fln_X0_76 rfl 7 rfl (v := .int (u 6 5)) rfl dX0_receive_68 ?_
          refine lv_aload_n hx hb dX0_receive_71 rfl (lv_at hl 2 rfl) ?_
          refine k_get X hW inG0 rfl 0 (by decide) fl_X0_13 rfl 0 rfl (v := .ref (a 1)) rfl dX0_receive_72 ?_
          refine lv_iconst (v := nI 0) hx hb dX0_receive_75 (by decide +kernel) ?_
          refine k_iald X hW 1 rfl (j := 0) (v := u 1 0) rfl (by decide) (by decide) rfl dX0_receive_76 ?_
          refine lv_icmp_lt (tgt := 99) hx hb dX0_receive_77 (by decide) (fun c_5 => ?_) (fun c_5 => ?_)
          · refine lv_aload_n hx hb dX0_receive_99 rfl (lv_at hl 2 rfl) ?_
            refine k_get X hW inG0 rfl 6 (by decide) fl_X0_37 rfl 0 rfl (v := .ref (a 5)) rfl dX0_receive_100 ?_
            refine lv_iload_n hx hb dX0_receive_103 rfl (lv_at hl 1 rfl) ?_
            refine lv_iconst (v := nI 0) hx hb dX0_receive_104 (by decide +kernel) ?_
            refine k_iast X hW 5 rfl (j := (cn u)) rfl (by omega) (by decide) dX0_receive_105 (w' := cardW k a (st2 (st2 (st2 (st2 u 0 (upd (u 0) 3 (nI (cn u + 1)))) 2 (upd (u 2) (cn u) f)) 3 (upd (u 3) (cn u) (u 0 2))) 4 (upd (u 4) (cn u) (nI 0)))) rfl (fun H locs hW => ?_)
            refine lv_aload_n hx hb dX0_receive_106 rfl (lv_at hl 0 rfl) ?_
            refine lv_dup hx hb dX0_receive_107 rfl ?_
            refine k_getN X hW inG3 rfl 5 (by decide) fln_X0_76 rfl 7 rfl (v := .int (u 6 5)) rfl dX0_receive_108 ?_
            refine lv_iconst (v := nI 1) hx hb dX0_receive_111 (by decide +kernel) ?_
            refine lv_iadd hx hb dX0_receive_112 ?_
            refine k_putN X hW inG3 rfl tyX3_ok nmX3 5 (by decide) fln_X0_76 rfl rfl 7 rfl rfl rfl (Nat.le_of_ble_eq_true rfl) dX0_receive_113 (w' := cardW k a (st2 (st2 (st2 (st2 (st2 u 0 (upd (u 0) 3 (nI (cn u + 1)))) 2 (upd (u 2) (cn u) f)) 3 (upd (u 3) (cn u) (u 0 2))) 4 (upd (u 4) (cn u) (nI 0))) 6 (upd (u 6) 5 ((u 6 5) + (nI 1))))) rfl (fun H locs hW => ?_)
            refine lv_aload_n hx hb dX0_receive_116 rfl (lv_at hl 0 rfl) ?_
            refine k_getN X hW inG3 rfl 6 (by decide) fln_X0_82 rfl 7 rfl (v := .int (u 6 6)) rfl dX0_receive_117 ?_
            refine lv_bipush (v := (-6)) hx hb dX0_receive_120 (by decide +kernel) ?_
            refine lv_icmp_ne (tgt := 130) hx hb dX0_receive_122 (by decide) (fun c_6 => ?_) (fun c_6 => ?_)
            · refine lv_iload_n hx hb dX0_receive_130 rfl (lv_at hl 1 rfl) ?_
              exact hQ _ _ _ _ _ _ hW dX0_receive_131 (by rw [m_X0_receive_r, if_neg c_1, if_pos c_2, if_pos c_3, if_pos h_4, if_pos c_5, if_neg c_6]) (by rw [m_X0_receive_u, if_neg c_1, if_pos c_2, if_pos c_3, if_pos h_4, if_pos c_5, if_neg c_6])
            · refine lv_aload_n hx hb dX0_receive_125 rfl (lv_at hl 0 rfl) ?_
              refine lv_iload_n hx hb dX0_receive_126 rfl (lv_at hl 1 rfl) ?_
              refine k_putN X hW inG3 rfl tyX3_ok nmX3 6 (by decide) fln_X0_82 rfl rfl 7 rfl rfl rfl (Nat.le_of_ble_eq_true rfl) dX0_receive_127 (w' := cardW k a (st2 (st2 (st2 (st2 (st2 u 0 (upd (u 0) 3 (nI (cn u + 1)))) 2 (upd (u 2) (cn u) f)) 3 (upd (u 3) (cn u) (u 0 2))) 4 (upd (u 4) (cn u) (nI 0))) 6 (upd (upd (u 6) 5 ((u 6 5) + (nI 1))) 6 (nI (cn u))))) rfl (fun H locs hW => ?_)
              refine lv_iload_n hx hb dX0_receive_130 rfl (lv_at hl 1 rfl) ?_
              exact hQ _ _ _ _ _ _ hW dX0_receive_131 (by rw [m_X0_receive_r, if_neg c_1, if_pos c_2, if_pos c_3, if_pos h_4, if_pos c_5, if_pos c_6]) (by rw [m_X0_receive_u, if_neg c_1, if_pos c_2, if_pos c_3, if_pos h_4, if_pos c_5, if_pos c_6])
          · refine lv_aload_n hx hb dX0_receive_80 rfl (lv_at hl 2 rfl) ?_
            refine k_get X hW inG0 rfl 6 (by decide) fl_X0_37 rfl 0 rfl (v := .ref (a 5)) rfl dX0_receive_81 ?_
            refine lv_iload_n hx hb dX0_receive_84 rfl (lv_at hl 1 rfl) ?_
            refine lv_iconst (v := nI 2) hx hb dX0_receive_85 (by decide +kernel) ?_
            refine k_iast X hW 5 rfl (j := (cn u)) rfl (by omega) (by decide) dX0_receive_86 (w' := cardW k a (st2 (st2 (st2 (st2 u 0 (upd (u 0) 3 (nI (cn u + 1)))) 2 (upd (u 2) (cn u) f)) 3 (upd (u 3) (cn u) (u 0 2))) 4 (upd (u 4) (cn u) (nI 2)))) rfl (fun H locs hW => ?_)
            refine lv_aload_n hx hb dX0_receive_87 rfl (lv_at hl 0 rfl) ?_
            refine lv_dup hx hb dX0_receive_88 rfl ?_
            refine k_getN X hW inG3 rfl 9 (by decide) fln_X0_79 rfl 7 rfl (v := .int (u 6 9)) rfl dX0_receive_89 ?_
            refine lv_iconst (v := nI 1) hx hb dX0_receive_92 (by decide +kernel) ?_
            refine lv_iadd hx hb dX0_receive_93 ?_
            refine k_putN X hW inG3 rfl tyX3_ok nmX3 9 (by decide) fln_X0_79 rfl rfl 7 rfl rfl rfl (Nat.le_of_ble_eq_true rfl) dX0_receive_94 (w' := cardW k a (st2 (st2 (st2 (st2 (st2 u 0 (upd (u 0) 3 (nI (cn u + 1)))) 2 (upd (u 2) (cn u) f)) 3 (upd (u 3) (cn u) (u 0 2))) 4 (upd (u 4) (cn u) (nI 2))) 6 (upd (u 6) 9 ((u 6 9) + (nI 1))))) rfl (fun H locs hW => ?_)
            refine lv_iload_n hx hb dX0_receive_97 rfl (lv_at hl 1 rfl) ?_
            exact hQ _ _ _ _ _ _ hW dX0_receive_98 (by rw [m_X0_receive_r, if_neg c_1, if_pos c_2, if_pos c_3, if_pos h_4, if_neg c_5]) (by rw [m_X0_receive_u, if_neg c_1, if_pos c_2, if_pos c_3, if_pos h_4, if_neg c_5])
        · have c_7 : ¬ f - f / (nI 3) * (nI 3) = nI 0 := by rw [h_4]; decide +kernel
          refine k_top (y := nI 1) (h_4) ?_
          refine k_aald X hW 2 1 rfl rfl (j := 1) (b := a 8) rfl (by decide) (by decide) rfl dX0_receive_65 ?_
          refine lv_astore_n (lv' := [(3, .ref (a 8)), (2, .int (nI (cn u))), (0, .ref (a 0)), (1, .int f)]) hx hb dX0_receive_66 rfl hl (by decide) rfl (fun ls hl => ?_)
          refine lv_aload_n hx hb dX0_receive_67 rfl (lv_at hl 0 rfl) ?_
          refine k_getN X hW inG3 rfl 5 (by decide) fln_X0_76 rfl 8 rfl (v := .int (u 7 5)) rfl dX0_receive_68 ?_
          refine lv_aload_n hx hb dX0_receive_71 rfl (lv_at hl 2 rfl) ?_
          refine k_get X hW inG0 rfl 0 (by decide) fl_X0_13 rfl 0 rfl (v := .ref (a 1)) rfl dX0_receive_72 ?_
          refine lv_iconst (v := nI 0) hx hb dX0_receive_75 (by decide +kernel) ?_
          refine k_iald X hW 1 rfl (j := 0) (v := u 1 0) rfl (by decide) (by decide) rfl dX0_receive_76 ?_
          refine lv_icmp_lt (tgt := 99) hx hb dX0_receive_77 (by decide) (fun c_8 => ?_) (fun c_8 => ?_)
          · refine lv_aload_n hx hb dX0_receive_99 rfl (lv_at hl 2 rfl) ?_
            refine k_get X hW inG0 rfl 6 (by decide) fl_X0_37 rfl 0 rfl (v := .ref (a 5)) rfl dX0_receive_100 ?_
            refine lv_iload_n hx hb dX0_receive_103 rfl (lv_at hl 1 rfl) ?_
            refine lv_iconst (v := nI 0) hx hb dX0_receive_104 (by decide +kernel) ?_
            refine k_iast X hW 5 rfl (j := (cn u)) rfl (by omega) (by decide) dX0_receive_105 (w' := cardW k a (st2 (st2 (st2 (st2 u 0 (upd (u 0) 3 (nI (cn u + 1)))) 2 (upd (u 2) (cn u) f)) 3 (upd (u 3) (cn u) (u 0 2))) 4 (upd (u 4) (cn u) (nI 0)))) rfl (fun H locs hW => ?_)
            refine lv_aload_n hx hb dX0_receive_106 rfl (lv_at hl 0 rfl) ?_
            refine lv_dup hx hb dX0_receive_107 rfl ?_
            refine k_getN X hW inG3 rfl 5 (by decide) fln_X0_76 rfl 8 rfl (v := .int (u 7 5)) rfl dX0_receive_108 ?_
            refine lv_iconst (v := nI 1) hx hb dX0_receive_111 (by decide +kernel) ?_
            refine lv_iadd hx hb dX0_receive_112 ?_
            refine k_putN X hW inG3 rfl tyX3_ok nmX3 5 (by decide) fln_X0_76 rfl rfl 8 rfl rfl rfl (Nat.le_of_ble_eq_true rfl) dX0_receive_113 (w' := cardW k a (st2 (st2 (st2 (st2 (st2 u 0 (upd (u 0) 3 (nI (cn u + 1)))) 2 (upd (u 2) (cn u) f)) 3 (upd (u 3) (cn u) (u 0 2))) 4 (upd (u 4) (cn u) (nI 0))) 7 (upd (u 7) 5 ((u 7 5) + (nI 1))))) rfl (fun H locs hW => ?_)
            refine lv_aload_n hx hb dX0_receive_116 rfl (lv_at hl 0 rfl) ?_
            refine k_getN X hW inG3 rfl 6 (by decide) fln_X0_82 rfl 8 rfl (v := .int (u 7 6)) rfl dX0_receive_117 ?_
            refine lv_bipush (v := (-6)) hx hb dX0_receive_120 (by decide +kernel) ?_
            refine lv_icmp_ne (tgt := 130) hx hb dX0_receive_122 (by decide) (fun c_9 => ?_) (fun c_9 => ?_)
            · refine lv_iload_n hx hb dX0_receive_130 rfl (lv_at hl 1 rfl) ?_
              exact hQ _ _ _ _ _ _ hW dX0_receive_131 (by rw [m_X0_receive_r, if_neg c_1, if_pos c_2, if_pos c_3, if_neg c_7, if_pos h_4, if_pos c_8, if_neg c_9]) (by rw [m_X0_receive_u, if_neg c_1, if_pos c_2, if_pos c_3, if_neg c_7, if_pos h_4, if_pos c_8, if_neg c_9])
            · refine lv_aload_n hx hb dX0_receive_125 rfl (lv_at hl 0 rfl) ?_
              refine lv_iload_n hx hb dX0_receive_126 rfl (lv_at hl 1 rfl) ?_
              refine k_putN X hW inG3 rfl tyX3_ok nmX3 6 (by decide) fln_X0_82 rfl rfl 8 rfl rfl rfl (Nat.le_of_ble_eq_true rfl) dX0_receive_127 (w' := cardW k a (st2 (st2 (st2 (st2 (st2 u 0 (upd (u 0) 3 (nI (cn u + 1)))) 2 (upd (u 2) (cn u) f)) 3 (upd (u 3) (cn u) (u 0 2))) 4 (upd (u 4) (cn u) (nI 0))) 7 (upd (upd (u 7) 5 ((u 7 5) + (nI 1))) 6 (nI (cn u))))) rfl (fun H locs hW => ?_)
              refine lv_iload_n hx hb dX0_receive_130 rfl (lv_at hl 1 rfl) ?_
              exact hQ _ _ _ _ _ _ hW dX0_receive_131 (by rw [m_X0_receive_r, if_neg c_1, if_pos c_2, if_pos c_3, if_neg c_7, if_pos h_4, if_pos c_8, if_pos c_9]) (by rw [m_X0_receive_u, if_neg c_1, if_pos c_2, if_pos c_3, if_neg c_7, if_pos h_4, if_pos c_8, if_pos c_9])
          · refine lv_aload_n hx hb dX0_receive_80 rfl (lv_at hl 2 rfl) ?_
            refine k_get X hW inG0 rfl 6 (by decide) fl_X0_37 rfl 0 rfl (v := .ref (a 5)) rfl dX0_receive_81 ?_
            refine lv_iload_n hx hb dX0_receive_84 rfl (lv_at hl 1 rfl) ?_
            refine lv_iconst (v := nI 2) hx hb dX0_receive_85 (by decide +kernel) ?_
            refine k_iast X hW 5 rfl (j := (cn u)) rfl (by omega) (by decide) dX0_receive_86 (w' := cardW k a (st2 (st2 (st2 (st2 u 0 (upd (u 0) 3 (nI (cn u + 1)))) 2 (upd (u 2) (cn u) f)) 3 (upd (u 3) (cn u) (u 0 2))) 4 (upd (u 4) (cn u) (nI 2)))) rfl (fun H locs hW => ?_)
            refine lv_aload_n hx hb dX0_receive_87 rfl (lv_at hl 0 rfl) ?_
            refine lv_dup hx hb dX0_receive_88 rfl ?_
            refine k_getN X hW inG3 rfl 9 (by decide) fln_X0_79 rfl 8 rfl (v := .int (u 7 9)) rfl dX0_receive_89 ?_
            refine lv_iconst (v := nI 1) hx hb dX0_receive_92 (by decide +kernel) ?_
            refine lv_iadd hx hb dX0_receive_93 ?_
            refine k_putN X hW inG3 rfl tyX3_ok nmX3 9 (by decide) fln_X0_79 rfl rfl 8 rfl rfl rfl (Nat.le_of_ble_eq_true rfl) dX0_receive_94 (w' := cardW k a (st2 (st2 (st2 (st2 (st2 u 0 (upd (u 0) 3 (nI (cn u + 1)))) 2 (upd (u 2) (cn u) f)) 3 (upd (u 3) (cn u) (u 0 2))) 4 (upd (u 4) (cn u) (nI 2))) 7 (upd (u 7) 9 ((u 7 9) + (nI 1))))) rfl (fun H locs hW => ?_)
            refine lv_iload_n hx hb dX0_receive_97 rfl (lv_at hl 1 rfl) ?_
            exact hQ _ _ _ _ _ _ hW dX0_receive_98 (by rw [m_X0_receive_r, if_neg c_1, if_pos c_2, if_pos c_3, if_neg c_7, if_pos h_4, if_neg c_8]) (by rw [m_X0_receive_u, if_neg c_1, if_pos c_2, if_pos c_3, if_neg c_7, if_pos h_4, if_neg c_8])
        · have c_10 : ¬ f - f / (nI 3) * (nI 3) = nI 0 := by rw [h_4]; decide +kernel
          have c_11 : ¬ f - f / (nI 3) * (nI 3) = nI 1 := by rw [h_4]; decide +kernel
          refine k_top (y := nI 2) (h_4) ?_
          refine k_aald X hW 2 1 rfl rfl (j := 2) (b := a 9) rfl (by decide) (by decide) rfl dX0_receive_65 ?_
          refine lv_astore_n (lv' := [(3, .ref (a 9)), (2, .int (nI (cn u))), (0, .ref (a 0)), (1, .int f)]) hx hb dX0_receive_66 rfl hl (by decide) rfl (fun ls hl => ?_)
          refine lv_aload_n hx hb dX0_receive_67 rfl (lv_at hl 0 rfl) ?_
          refine k_getN X hW inG3 rfl 5 (by decide) fln_X0_76 rfl 9 rfl (v := .int (u 8 5)) rfl dX0_receive_68 ?_
          refine lv_aload_n hx hb dX0_receive_71 rfl (lv_at hl 2 rfl) ?_
          refine k_get X hW inG0 rfl 0 (by decide) fl_X0_13 rfl 0 rfl (v := .ref (a 1)) rfl dX0_receive_72 ?_
          refine lv_iconst (v := nI 0) hx hb dX0_receive_75 (by decide +kernel) ?_
          refine k_iald X hW 1 rfl (j := 0) (v := u 1 0) rfl (by decide) (by decide) rfl dX0_receive_76 ?_
          refine lv_icmp_lt (tgt := 99) hx hb dX0_receive_77 (by decide) (fun c_12 => ?_) (fun c_12 => ?_)
          · refine lv_aload_n hx hb dX0_receive_99 rfl (lv_at hl 2 rfl) ?_
            refine k_get X hW inG0 rfl 6 (by decide) fl_X0_37 rfl 0 rfl (v := .ref (a 5)) rfl dX0_receive_100 ?_
            refine lv_iload_n hx hb dX0_receive_103 rfl (lv_at hl 1 rfl) ?_
            refine lv_iconst (v := nI 0) hx hb dX0_receive_104 (by decide +kernel) ?_
            refine k_iast X hW 5 rfl (j := (cn u)) rfl (by omega) (by decide) dX0_receive_105 (w' := cardW k a (st2 (st2 (st2 (st2 u 0 (upd (u 0) 3 (nI (cn u + 1)))) 2 (upd (u 2) (cn u) f)) 3 (upd (u 3) (cn u) (u 0 2))) 4 (upd (u 4) (cn u) (nI 0)))) rfl (fun H locs hW => ?_)
            refine lv_aload_n hx hb dX0_receive_106 rfl (lv_at hl 0 rfl) ?_
            refine lv_dup hx hb dX0_receive_107 rfl ?_
            refine k_getN X hW inG3 rfl 5 (by decide) fln_X0_76 rfl 9 rfl (v := .int (u 8 5)) rfl dX0_receive_108 ?_
            refine lv_iconst (v := nI 1) hx hb dX0_receive_111 (by decide +kernel) ?_
            refine lv_iadd hx hb dX0_receive_112 ?_
            refine k_putN X hW inG3 rfl tyX3_ok nmX3 5 (by decide) fln_X0_76 rfl rfl 9 rfl rfl rfl (Nat.le_of_ble_eq_true rfl) dX0_receive_113 (w' := cardW k a (st2 (st2 (st2 (st2 (st2 u 0 (upd (u 0) 3 (nI (cn u + 1)))) 2 (upd (u 2) (cn u) f)) 3 (upd (u 3) (cn u) (u 0 2))) 4 (upd (u 4) (cn u) (nI 0))) 8 (upd (u 8) 5 ((u 8 5) + (nI 1))))) rfl (fun H locs hW => ?_)
            refine lv_aload_n hx hb dX0_receive_116 rfl (lv_at hl 0 rfl) ?_
            refine k_getN X hW inG3 rfl 6 (by decide) fln_X0_82 rfl 9 rfl (v := .int (u 8 6)) rfl dX0_receive_117 ?_
            refine lv_bipush (v := (-6)) hx hb dX0_receive_120 (by decide +kernel) ?_
            refine lv_icmp_ne (tgt := 130) hx hb dX0_receive_122 (by decide) (fun c_13 => ?_) (fun c_13 => ?_)
            · refine lv_iload_n hx hb dX0_receive_130 rfl (lv_at hl 1 rfl) ?_
              exact hQ _ _ _ _ _ _ hW dX0_receive_131 (by rw [m_X0_receive_r, if_neg c_1, if_pos c_2, if_pos c_3, if_neg c_10, if_neg c_11, if_pos c_12, if_neg c_13]) (by rw [m_X0_receive_u, if_neg c_1, if_pos c_2, if_pos c_3, if_neg c_10, if_neg c_11, if_pos c_12, if_neg c_13])
            · refine lv_aload_n hx hb dX0_receive_125 rfl (lv_at hl 0 rfl) ?_
              refine lv_iload_n hx hb dX0_receive_126 rfl (lv_at hl 1 rfl) ?_
              refine k_putN X hW inG3 rfl tyX3_ok nmX3 6 (by decide) fln_X0_82 rfl rfl 9 rfl rfl rfl (Nat.le_of_ble_eq_true rfl) dX0_receive_127 (w' := cardW k a (st2 (st2 (st2 (st2 (st2 u 0 (upd (u 0) 3 (nI (cn u + 1)))) 2 (upd (u 2) (cn u) f)) 3 (upd (u 3) (cn u) (u 0 2))) 4 (upd (u 4) (cn u) (nI 0))) 8 (upd (upd (u 8) 5 ((u 8 5) + (nI 1))) 6 (nI (cn u))))) rfl (fun H locs hW => ?_)
              refine lv_iload_n hx hb dX0_receive_130 rfl (lv_at hl 1 rfl) ?_
              exact hQ _ _ _ _ _ _ hW dX0_receive_131 (by rw [m_X0_receive_r, if_neg c_1, if_pos c_2, if_pos c_3, if_neg c_10, if_neg c_11, if_pos c_12, if_pos c_13]) (by rw [m_X0_receive_u, if_neg c_1, if_pos c_2, if_pos c_3, if_neg c_10, if_neg c_11, if_pos c_12, if_pos c_13])
          · refine lv_aload_n hx hb dX0_receive_80 rfl (lv_at hl 2 rfl) ?_
            refine k_get X hW inG0 rfl 6 (by decide) fl_X0_37 rfl 0 rfl (v := .ref (a 5)) rfl dX0_receive_81 ?_
            refine lv_iload_n hx hb dX0_receive_84 rfl (lv_at hl 1 rfl) ?_
            refine lv_iconst (v := nI 2) hx hb dX0_receive_85 (by decide +kernel) ?_
            refine k_iast X hW 5 rfl (j := (cn u)) rfl (by omega) (by decide) dX0_receive_86 (w' := cardW k a (st2 (st2 (st2 (st2 u 0 (upd (u 0) 3 (nI (cn u + 1)))) 2 (upd (u 2) (cn u) f)) 3 (upd (u 3) (cn u) (u 0 2))) 4 (upd (u 4) (cn u) (nI 2)))) rfl (fun H locs hW => ?_)
            refine lv_aload_n hx hb dX0_receive_87 rfl (lv_at hl 0 rfl) ?_
            refine lv_dup hx hb dX0_receive_88 rfl ?_
            refine k_getN X hW inG3 rfl 9 (by decide) fln_X0_79 rfl 9 rfl (v := .int (u 8 9)) rfl dX0_receive_89 ?_
            refine lv_iconst (v := nI 1) hx hb dX0_receive_92 (by decide +kernel) ?_
            refine lv_iadd hx hb dX0_receive_93 ?_
            refine k_putN X hW inG3 rfl tyX3_ok nmX3 9 (by decide) fln_X0_79 rfl rfl 9 rfl rfl rfl (Nat.le_of_ble_eq_true rfl) dX0_receive_94 (w' := cardW k a (st2 (st2 (st2 (st2 (st2 u 0 (upd (u 0) 3 (nI (cn u + 1)))) 2 (upd (u 2) (cn u) f)) 3 (upd (u 3) (cn u) (u 0 2))) 4 (upd (u 4) (cn u) (nI 2))) 8 (upd (u 8) 9 ((u 8 9) + (nI 1))))) rfl (fun H locs hW => ?_)
            refine lv_iload_n hx hb dX0_receive_97 rfl (lv_at hl 1 rfl) ?_
            exact hQ _ _ _ _ _ _ hW dX0_receive_98 (by rw [m_X0_receive_r, if_neg c_1, if_pos c_2, if_pos c_3, if_neg c_10, if_neg c_11, if_neg c_12]) (by rw [m_X0_receive_u, if_neg c_1, if_pos c_2, if_pos c_3, if_neg c_10, if_neg c_11, if_neg c_12])
      · have c_3 : ¬ (cn u < 400) := fun h => c_3 ((nI_ltI (a := cn u) (b := 400) (by omega) (by omega)).mpr h)
        refine lv_bipush (v := (-4)) hx hb dX0_receive_23 (by decide +kernel) ?_
        exact hQ _ _ _ _ _ _ hW dX0_receive_25 (by rw [m_X0_receive_r, if_neg c_1, if_pos c_2, if_neg c_3]) (by rw [m_X0_receive_u, if_neg c_1, if_pos c_2, if_neg c_3])
    · refine lv_bipush (v := (-2)) hx hb dX0_receive_10 (by decide +kernel) ?_
      exact hQ _ _ _ _ _ _ hW dX0_receive_12 (by rw [m_X0_receive_r, if_neg c_1, if_neg c_2]) (by rw [m_X0_receive_u, if_neg c_1, if_neg c_2])
set_option maxHeartbeats 4000000 in
theorem CM_X0_receive {u : CS} {f : Int32} (h : CM u) : CM (m_X0_receive_u u f) := by
  rw [m_X0_receive_u]
  split
  · exact h
  · split
    · split
      · split
        · split
          · split
            · exact (CM_stc (CM_stc (CM_stc (CM_stc (CM_came h ‹_› rfl) (by decide) (by decide)) (by decide) (by decide)) (by decide) (by decide)) (by decide) (by decide))
            · exact (CM_stc (CM_stc (CM_stc (CM_stc (CM_came h ‹_› rfl) (by decide) (by decide)) (by decide) (by decide)) (by decide) (by decide)) (by decide) (by decide))
          · exact (CM_stc (CM_stc (CM_stc (CM_stc (CM_came h ‹_› rfl) (by decide) (by decide)) (by decide) (by decide)) (by decide) (by decide)) (by decide) (by decide))
        · split
          · split
            · split
              · exact (CM_stc (CM_stc (CM_stc (CM_stc (CM_came h ‹_› rfl) (by decide) (by decide)) (by decide) (by decide)) (by decide) (by decide)) (by decide) (by decide))
              · exact (CM_stc (CM_stc (CM_stc (CM_stc (CM_came h ‹_› rfl) (by decide) (by decide)) (by decide) (by decide)) (by decide) (by decide)) (by decide) (by decide))
            · exact (CM_stc (CM_stc (CM_stc (CM_stc (CM_came h ‹_› rfl) (by decide) (by decide)) (by decide) (by decide)) (by decide) (by decide)) (by decide) (by decide))
          · split
            · split
              · exact (CM_stc (CM_stc (CM_stc (CM_stc (CM_came h ‹_› rfl) (by decide) (by decide)) (by decide) (by decide)) (by decide) (by decide)) (by decide) (by decide))
              · exact (CM_stc (CM_stc (CM_stc (CM_stc (CM_came h ‹_› rfl) (by decide) (by decide)) (by decide) (by decide)) (by decide) (by decide)) (by decide) (by decide))
            · exact (CM_stc (CM_stc (CM_stc (CM_stc (CM_came h ‹_› rfl) (by decide) (by decide)) (by decide) (by decide)) (by decide) (by decide)) (by decide) (by decide))
      · exact h
    · exact h
def m_X0_changeMask_r (u : CS) (x : Int32) : Int32 := if (m_X4_isQueue_r x) = 0 then (-1) else if x = nI 0 then (if u 6 4 = 0 then nI 1 else nI 0) else if x = nI 1 then (if u 7 4 = 0 then nI 1 else nI 0) else if u 8 4 = 0 then nI 1 else nI 0
def m_X0_changeMask_u (u : CS) (x : Int32) : CS := if (m_X4_isQueue_r x) = 0 then u else if x = nI 0 then (if u 6 4 = 0 then st2 u 6 (upd (u 6) 4 (nI 1)) else st2 u 6 (upd (u 6) 4 (nI 0))) else if x = nI 1 then (if u 7 4 = 0 then st2 u 7 (upd (u 7) 4 (nI 1)) else st2 u 7 (upd (u 7) 4 (nI 0))) else if u 8 4 = 0 then st2 u 8 (upd (u 8) 4 (nI 1)) else st2 u 8 (upd (u 8) 4 (nI 0))
set_option maxHeartbeats 4000000 in
set_option maxRecDepth 100000 in
theorem c_X0_changeMask (l : Launch) (D : va_G) (k : Nat → ClassId) (a : Nat → Nat) (u : CS) (x : Int32)  : mI l yX0_changeMask (wsY yX0_changeMask cX0_changeMask 3 (some .int)) 1 D k [.ref (a 0), .int x] (cardW k a u) (cardW k a (m_X0_changeMask_u u x)) (m_X0_changeMask_r u x) := by
  refine mI_intro rfl (Nat.le_of_ble_eq_true rfl) (Or.inl rfl) ?_
  intro p e s m args below meth c A Q ls X hW hl hQ
  have hx := X.hx
  have hb := X.hb
  have hl : lv_has ls 3 [(0, .ref (a 0)), (1, .int x)] := hl
  refine lv_iload_n hx hb dX0_changeMask_0 rfl (lv_at hl 1 rfl) ?_
  obtain ⟨z_1, hz_1⟩ : ∃ zq, m_X4_isQueue_r x = zq := ⟨_, rfl⟩
  have hM_2 := (c_X4_isQueue l D k x)
  rw [hz_1] at hM_2
  refine kSNi (As := [.int x]) (rest := []) X hW hM_2 yw_X4_isQueue lkn_X0_63 ⟨Nat.le_of_ble_eq_true rfl, Nat.le_of_ble_eq_true rfl⟩ rfl hl.1 rfl (Nat.le_of_ble_eq_true rfl) ⟨Nat.zero_le _, Nat.zero_le _⟩ dX0_changeMask_1 (fun H locs hW => ?_)
  refine lv_if_ne (tgt := 9) hx hb dX0_changeMask_4 (by decide) (fun c_3 => ?_) (fun c_3 => ?_)
  · refine lv_aload_n hx hb dX0_changeMask_9 rfl (lv_at hl 0 rfl) ?_
    refine k_get X hW inG0 rfl 1 (by decide) fl_X0_20 rfl 0 rfl (v := .ref (a 2)) rfl dX0_changeMask_10 ?_
    refine lv_iload_n hx hb dX0_changeMask_13 rfl (lv_at hl 1 rfl) ?_
    rcases isq3 (x := x) (by rw [hz_1]; exact c_3) with h_4 | h_4 | h_4
    · refine k_top (y := nI 0) (h_4) ?_
      refine k_aald X hW 2 1 rfl rfl (j := 0) (b := a 7) rfl (by decide) (by decide) rfl dX0_changeMask_14 ?_
      refine lv_astore_n (lv' := [(2, .ref (a 7)), (0, .ref (a 0)), (1, .int x)]) hx hb dX0_changeMask_15 rfl hl (by decide) rfl (fun ls hl => ?_)
      refine lv_aload_n hx hb dX0_changeMask_16 rfl (lv_at hl 0 rfl) ?_
      refine lv_aload_n hx hb dX0_changeMask_17 rfl (lv_at hl 0 rfl) ?_
      refine k_getN X hW inG3 rfl 4 (by decide) fln_X0_85 rfl 7 rfl (v := .int (u 6 4)) rfl dX0_changeMask_18 ?_
      refine lv_if_ne (tgt := 28) hx hb dX0_changeMask_21 (by decide) (fun c_5 => ?_) (fun c_5 => ?_)
      · refine lv_iconst (v := nI 0) hx hb dX0_changeMask_28 (by decide +kernel) ?_
        refine k_putN X hW inG3 rfl tyX3_ok nmX3 4 (by decide) fln_X0_85 rfl rfl 7 rfl rfl rfl (Nat.le_of_ble_eq_true rfl) dX0_changeMask_29 (w' := cardW k a (st2 u 6 (upd (u 6) 4 (nI 0)))) rfl (fun H locs hW => ?_)
        refine lv_aload_n hx hb dX0_changeMask_32 rfl (lv_at hl 0 rfl) ?_
        refine k_getN X hW inG3 rfl 4 (by decide) fln_X0_85 rfl 7 rfl (v := .int (nI 0)) rfl dX0_changeMask_33 ?_
        refine lv_if_eq (tgt := 43) hx hb dX0_changeMask_36 (by decide) (fun _ => ?_) (fun c => absurd (by decide +kernel) c)
        refine lv_iconst (v := nI 0) hx hb dX0_changeMask_43 (by decide +kernel) ?_
        exact hQ _ _ _ _ _ _ hW dX0_changeMask_44 (by subst hz_1; rw [m_X0_changeMask_r, if_neg c_3, if_pos h_4, if_neg c_5]) (by subst hz_1; rw [m_X0_changeMask_u, if_neg c_3, if_pos h_4, if_neg c_5])
      · refine lv_iconst (v := nI 1) hx hb dX0_changeMask_24 (by decide +kernel) ?_
        refine lv_goto (tgt := 29) hx hb dX0_changeMask_25 (by decide) ?_
        refine k_putN X hW inG3 rfl tyX3_ok nmX3 4 (by decide) fln_X0_85 rfl rfl 7 rfl rfl rfl (Nat.le_of_ble_eq_true rfl) dX0_changeMask_29 (w' := cardW k a (st2 u 6 (upd (u 6) 4 (nI 1)))) rfl (fun H locs hW => ?_)
        refine lv_aload_n hx hb dX0_changeMask_32 rfl (lv_at hl 0 rfl) ?_
        refine k_getN X hW inG3 rfl 4 (by decide) fln_X0_85 rfl 7 rfl (v := .int (nI 1)) rfl dX0_changeMask_33 ?_
        refine lv_if_eq (tgt := 43) hx hb dX0_changeMask_36 (by decide) (fun c => absurd c (by decide +kernel)) (fun _ => ?_)
        refine lv_iconst (v := nI 1) hx hb dX0_changeMask_39 (by decide +kernel) ?_
        refine lv_goto (tgt := 44) hx hb dX0_changeMask_40 (by decide) ?_
        exact hQ _ _ _ _ _ _ hW dX0_changeMask_44 (by subst hz_1; rw [m_X0_changeMask_r, if_neg c_3, if_pos h_4, if_pos c_5]) (by subst hz_1; rw [m_X0_changeMask_u, if_neg c_3, if_pos h_4, if_pos c_5])
    · have c_8 : ¬ x = nI 0 := by rw [h_4]; decide +kernel
      refine k_top (y := nI 1) (h_4) ?_
      refine k_aald X hW 2 1 rfl rfl (j := 1) (b := a 8) rfl (by decide) (by decide) rfl dX0_changeMask_14 ?_
      refine lv_astore_n (lv' := [(2, .ref (a 8)), (0, .ref (a 0)), (1, .int x)]) hx hb dX0_changeMask_15 rfl hl (by decide) rfl (fun ls hl => ?_)
      refine lv_aload_n hx hb dX0_changeMask_16 rfl (lv_at hl 0 rfl) ?_
      refine lv_aload_n hx hb dX0_changeMask_17 rfl (lv_at hl 0 rfl) ?_
      refine k_getN X hW inG3 rfl 4 (by decide) fln_X0_85 rfl 8 rfl (v := .int (u 7 4)) rfl dX0_changeMask_18 ?_
      refine lv_if_ne (tgt := 28) hx hb dX0_changeMask_21 (by decide) (fun c_9 => ?_) (fun c_9 => ?_)
      · refine lv_iconst (v := nI 0) hx hb dX0_changeMask_28 (by decide +kernel) ?_
        refine k_putN X hW inG3 rfl tyX3_ok nmX3 4 (by decide) fln_X0_85 rfl rfl 8 rfl rfl rfl (Nat.le_of_ble_eq_true rfl) dX0_changeMask_29 (w' := cardW k a (st2 u 7 (upd (u 7) 4 (nI 0)))) rfl (fun H locs hW => ?_)
        refine lv_aload_n hx hb dX0_changeMask_32 rfl (lv_at hl 0 rfl) ?_
        refine k_getN X hW inG3 rfl 4 (by decide) fln_X0_85 rfl 8 rfl (v := .int (nI 0)) rfl dX0_changeMask_33 ?_
        refine lv_if_eq (tgt := 43) hx hb dX0_changeMask_36 (by decide) (fun _ => ?_) (fun c => absurd (by decide +kernel) c)
        refine lv_iconst (v := nI 0) hx hb dX0_changeMask_43 (by decide +kernel) ?_
        exact hQ _ _ _ _ _ _ hW dX0_changeMask_44 (by subst hz_1; rw [m_X0_changeMask_r, if_neg c_3, if_neg c_8, if_pos h_4, if_neg c_9]) (by subst hz_1; rw [m_X0_changeMask_u, if_neg c_3, if_neg c_8, if_pos h_4, if_neg c_9])
      · refine lv_iconst (v := nI 1) hx hb dX0_changeMask_24 (by decide +kernel) ?_
        refine lv_goto (tgt := 29) hx hb dX0_changeMask_25 (by decide) ?_
        refine k_putN X hW inG3 rfl tyX3_ok nmX3 4 (by decide) fln_X0_85 rfl rfl 8 rfl rfl rfl (Nat.le_of_ble_eq_true rfl) dX0_changeMask_29 (w' := cardW k a (st2 u 7 (upd (u 7) 4 (nI 1)))) rfl (fun H locs hW => ?_)
        refine lv_aload_n hx hb dX0_changeMask_32 rfl (lv_at hl 0 rfl) ?_
        refine k_getN X hW inG3 rfl 4 (by decide) fln_X0_85 rfl 8 rfl (v := .int (nI 1)) rfl dX0_changeMask_33 ?_
        refine lv_if_eq (tgt := 43) hx hb dX0_changeMask_36 (by decide) (fun c => absurd c (by decide +kernel)) (fun _ => ?_)
        refine lv_iconst (v := nI 1) hx hb dX0_changeMask_39 (by decide +kernel) ?_
        refine lv_goto (tgt := 44) hx hb dX0_changeMask_40 (by decide) ?_
        exact hQ _ _ _ _ _ _ hW dX0_changeMask_44 (by subst hz_1; rw [m_X0_changeMask_r, if_neg c_3, if_neg c_8, if_pos h_4, if_pos c_9]) (by subst hz_1; rw [m_X0_changeMask_u, if_neg c_3, if_neg c_8, if_pos h_4, if_pos c_9])
    · have c_12 : ¬ x = nI 0 := by rw [h_4]; decide +kernel
      have c_13 : ¬ x = nI 1 := by rw [h_4]; decide +kernel
      refine k_top (y := nI 2) (h_4) ?_
      refine k_aald X hW 2 1 rfl rfl (j := 2) (b := a 9) rfl (by decide) (by decide) rfl dX0_changeMask_14 ?_
      refine lv_astore_n (lv' := [(2, .ref (a 9)), (0, .ref (a 0)), (1, .int x)]) hx hb dX0_changeMask_15 rfl hl (by decide) rfl (fun ls hl => ?_)
      refine lv_aload_n hx hb dX0_changeMask_16 rfl (lv_at hl 0 rfl) ?_
      refine lv_aload_n hx hb dX0_changeMask_17 rfl (lv_at hl 0 rfl) ?_
      refine k_getN X hW inG3 rfl 4 (by decide) fln_X0_85 rfl 9 rfl (v := .int (u 8 4)) rfl dX0_changeMask_18 ?_
      refine lv_if_ne (tgt := 28) hx hb dX0_changeMask_21 (by decide) (fun c_14 => ?_) (fun c_14 => ?_)
      · refine lv_iconst (v := nI 0) hx hb dX0_changeMask_28 (by decide +kernel) ?_
        refine k_putN X hW inG3 rfl tyX3_ok nmX3 4 (by decide) fln_X0_85 rfl rfl 9 rfl rfl rfl (Nat.le_of_ble_eq_true rfl) dX0_changeMask_29 (w' := cardW k a (st2 u 8 (upd (u 8) 4 (nI 0)))) rfl (fun H locs hW => ?_)
        refine lv_aload_n hx hb dX0_changeMask_32 rfl (lv_at hl 0 rfl) ?_
        refine k_getN X hW inG3 rfl 4 (by decide) fln_X0_85 rfl 9 rfl (v := .int (nI 0)) rfl dX0_changeMask_33 ?_
        refine lv_if_eq (tgt := 43) hx hb dX0_changeMask_36 (by decide) (fun _ => ?_) (fun c => absurd (by decide +kernel) c)
        refine lv_iconst (v := nI 0) hx hb dX0_changeMask_43 (by decide +kernel) ?_
        exact hQ _ _ _ _ _ _ hW dX0_changeMask_44 (by subst hz_1; rw [m_X0_changeMask_r, if_neg c_3, if_neg c_12, if_neg c_13, if_neg c_14]) (by subst hz_1; rw [m_X0_changeMask_u, if_neg c_3, if_neg c_12, if_neg c_13, if_neg c_14])
      · refine lv_iconst (v := nI 1) hx hb dX0_changeMask_24 (by decide +kernel) ?_
        refine lv_goto (tgt := 29) hx hb dX0_changeMask_25 (by decide) ?_
        refine k_putN X hW inG3 rfl tyX3_ok nmX3 4 (by decide) fln_X0_85 rfl rfl 9 rfl rfl rfl (Nat.le_of_ble_eq_true rfl) dX0_changeMask_29 (w' := cardW k a (st2 u 8 (upd (u 8) 4 (nI 1)))) rfl (fun H locs hW => ?_)
        refine lv_aload_n hx hb dX0_changeMask_32 rfl (lv_at hl 0 rfl) ?_
        refine k_getN X hW inG3 rfl 4 (by decide) fln_X0_85 rfl 9 rfl (v := .int (nI 1)) rfl dX0_changeMask_33 ?_
        refine lv_if_eq (tgt := 43) hx hb dX0_changeMask_36 (by decide) (fun c => absurd c (by decide +kernel)) (fun _ => ?_)
        refine lv_iconst (v := nI 1) hx hb dX0_changeMask_39 (by decide +kernel) ?_
        refine lv_goto (tgt := 44) hx hb dX0_changeMask_40 (by decide) ?_
        exact hQ _ _ _ _ _ _ hW dX0_changeMask_44 (by subst hz_1; rw [m_X0_changeMask_r, if_neg c_3, if_neg c_12, if_neg c_13, if_pos c_14]) (by subst hz_1; rw [m_X0_changeMask_u, if_neg c_3, if_neg c_12, if_neg c_13, if_pos c_14])
  · refine lv_iconst (v := (-1)) hx hb dX0_changeMask_7 (by decide +kernel) ?_
    exact hQ _ _ _ _ _ _ hW dX0_changeMask_8 (by subst hz_1; rw [m_X0_changeMask_r, if_pos c_3]) (by subst hz_1; rw [m_X0_changeMask_u, if_pos c_3])
set_option maxHeartbeats 4000000 in
theorem CM_X0_changeMask {u : CS} {x : Int32} (h : CM u) : CM (m_X0_changeMask_u u x) := by
  rw [m_X0_changeMask_u]
  split
  · exact h
  · split
    · split
      · exact (CM_stc h (by decide) (by decide))
      · exact (CM_stc h (by decide) (by decide))
    · split
      · split
        · exact (CM_stc h (by decide) (by decide))
        · exact (CM_stc h (by decide) (by decide))
      · split
        · exact (CM_stc h (by decide) (by decide))
        · exact (CM_stc h (by decide) (by decide))
def m_X0_callByHand_r (u : CS) (x : Int32) : Int32 := if (m_X4_isQueue_r x) = 0 then (-1) else if x = nI 0 then (if (m_X3_isCalled_r (u 6)) = 0 then (if u 6 5 = 0 then (-5) else (m_X0_enterRow_0_u u) 6 3) else (-5)) else if x = nI 1 then (if (m_X3_isCalled_r (u 7)) = 0 then (if u 7 5 = 0 then (-5) else (m_X0_enterRow_1_u u) 7 3) else (-5)) else if (m_X3_isCalled_r (u 8)) = 0 then (if u 8 5 = 0 then (-5) else (m_X0_enterRow_2_u u) 8 3) else (-5)
def m_X0_callByHand_u (u : CS) (x : Int32) : CS := if (m_X4_isQueue_r x) = 0 then u else if x = nI 0 then (if (m_X3_isCalled_r (u 6)) = 0 then (if u 6 5 = 0 then u else (m_X0_enterRow_0_u u)) else u) else if x = nI 1 then (if (m_X3_isCalled_r (u 7)) = 0 then (if u 7 5 = 0 then u else (m_X0_enterRow_1_u u)) else u) else if (m_X3_isCalled_r (u 8)) = 0 then (if u 8 5 = 0 then u else (m_X0_enterRow_2_u u)) else u
set_option maxHeartbeats 4000000 in
set_option maxRecDepth 100000 in
theorem c_X0_callByHand (l : Launch) (D : va_G) (k : Nat → ClassId) (a : Nat → Nat) (u : CS) (x : Int32)  : mI l yX0_callByHand (wsY yX0_callByHand cX0_callByHand 3 (some .int)) 3 D k [.ref (a 0), .int x] (cardW k a u) (cardW k a (m_X0_callByHand_u u x)) (m_X0_callByHand_r u x) := by
  refine mI_intro rfl (Nat.le_of_ble_eq_true rfl) (Or.inl rfl) ?_
  intro p e s m args below meth c A Q ls X hW hl hQ
  have hx := X.hx
  have hb := X.hb
  have hl : lv_has ls 3 [(0, .ref (a 0)), (1, .int x)] := hl
  refine lv_iload_n hx hb dX0_callByHand_0 rfl (lv_at hl 1 rfl) ?_
  obtain ⟨z_1, hz_1⟩ : ∃ zq, m_X4_isQueue_r x = zq := ⟨_, rfl⟩
  have hM_2 := (c_X4_isQueue l D k x)
  rw [hz_1] at hM_2
  refine kSNi (As := [.int x]) (rest := []) X hW hM_2 yw_X4_isQueue lkn_X0_63 ⟨Nat.le_of_ble_eq_true rfl, Nat.le_of_ble_eq_true rfl⟩ rfl hl.1 rfl (Nat.le_of_ble_eq_true rfl) ⟨Nat.zero_le _, Nat.zero_le _⟩ dX0_callByHand_1 (fun H locs hW => ?_)
  refine lv_if_ne (tgt := 9) hx hb dX0_callByHand_4 (by decide) (fun c_3 => ?_) (fun c_3 => ?_)
  · refine lv_aload_n hx hb dX0_callByHand_9 rfl (lv_at hl 0 rfl) ?_
    refine k_get X hW inG0 rfl 1 (by decide) fl_X0_20 rfl 0 rfl (v := .ref (a 2)) rfl dX0_callByHand_10 ?_
    refine lv_iload_n hx hb dX0_callByHand_13 rfl (lv_at hl 1 rfl) ?_
    rcases isq3 (x := x) (by rw [hz_1]; exact c_3) with h_4 | h_4 | h_4
    · refine k_top (y := nI 0) (h_4) ?_
      refine k_aald X hW 2 1 rfl rfl (j := 0) (b := a 7) rfl (by decide) (by decide) rfl dX0_callByHand_14 ?_
      refine lv_astore_n (lv' := [(2, .ref (a 7)), (0, .ref (a 0)), (1, .int x)]) hx hb dX0_callByHand_15 rfl hl (by decide) rfl (fun ls hl => ?_)
      refine lv_aload_n hx hb dX0_callByHand_16 rfl (lv_at hl 0 rfl) ?_
      obtain ⟨z_5, hz_5⟩ : ∃ zq, m_X3_isCalled_r (u 6) = zq := ⟨_, rfl⟩
      have hM_6 := (c_X3_isCalled l D k (a 7) (u 6) )
      rw [hz_5] at hM_6
      refine kNi (As := []) (rest := []) X hW hM_6 yw_X3_isCalled lkn_X0_89 ⟨Nat.le_of_ble_eq_true rfl, Nat.le_of_ble_eq_true rfl⟩ (wr := [cO a u, cSe k a u, cQs k a, cFl k a u, cCa k a u, cHo k a u, cTa k a u, qC (a 8) (u 7), qC (a 9) (u 8)]) (w_idx (n := 10) [0, 1, 2, 3, 4, 5, 6, 8, 9, 7] rfl (by decide) rfl) (w' := cardW k a u) (w_idx (n := 10) [0, 1, 2, 3, 4, 5, 6, 9, 7, 8] rfl (by decide) rfl) (k_rcv X hW (ci := 3) (q0 := 7) rfl rfl) rfl hl.1 rfl (Nat.le_of_ble_eq_true rfl) ⟨Nat.zero_le _, Nat.zero_le _⟩ dX0_callByHand_17 (fun H locs hW => ?_)
      refine lv_if_ne (tgt := 30) hx hb dX0_callByHand_20 (by decide) (fun c_7 => ?_) (fun c_7 => ?_)
      · refine lv_bipush (v := (-5)) hx hb dX0_callByHand_30 (by decide +kernel) ?_
        exact hQ _ _ _ _ _ _ hW dX0_callByHand_32 (by subst hz_5; subst hz_1; rw [m_X0_callByHand_r, if_neg c_3, if_pos h_4, if_neg c_7]) (by subst hz_5; subst hz_1; rw [m_X0_callByHand_u, if_neg c_3, if_pos h_4, if_neg c_7])
      · refine lv_aload_n hx hb dX0_callByHand_23 rfl (lv_at hl 0 rfl) ?_
        refine k_getN X hW inG3 rfl 5 (by decide) fln_X0_76 rfl 7 rfl (v := .int (u 6 5)) rfl dX0_callByHand_24 ?_
        refine lv_if_ne (tgt := 33) hx hb dX0_callByHand_27 (by decide) (fun c_8 => ?_) (fun c_8 => ?_)
        · refine lv_aload_n hx hb dX0_callByHand_33 rfl (lv_at hl 1 rfl) ?_
          refine lv_aload_n hx hb dX0_callByHand_34 rfl (lv_at hl 0 rfl) ?_
          obtain ⟨z_9, hz_9⟩ : ∃ zq, m_X0_enterRow_0_u u = zq := ⟨_, rfl⟩
          have hM_10 := (c_X0_enterRow_0 l D k a u )
          rw [hz_9] at hM_10
          refine kVv (As := [.ref (a 7)]) (rest := []) X hW hM_10 yw_X0_enterRow lk_X0_93 ⟨Nat.le_of_ble_eq_true rfl, Nat.le_of_ble_eq_true rfl⟩ (wr := []) (List.Perm.refl _) (w' := cardW k a z_9) (List.Perm.refl _) (k_rcv X hW (ci := 0) (q0 := 0) rfl rfl) rfl hl.1 rfl (Nat.le_of_ble_eq_true rfl) ⟨Nat.zero_le _, Nat.zero_le _⟩ dX0_callByHand_35 (fun H locs hW => ?_)
          refine lv_aload_n hx hb dX0_callByHand_38 rfl (lv_at hl 0 rfl) ?_
          refine k_getN X hW inG3 rfl 3 (by decide) fln_X0_96 rfl 7 rfl (v := .int (z_9 6 3)) rfl dX0_callByHand_39 ?_
          exact hQ _ _ _ _ _ _ hW dX0_callByHand_42 (by subst hz_9; subst hz_5; subst hz_1; rw [m_X0_callByHand_r, if_neg c_3, if_pos h_4, if_pos c_7, if_neg c_8]) (by subst hz_9; subst hz_5; subst hz_1; rw [m_X0_callByHand_u, if_neg c_3, if_pos h_4, if_pos c_7, if_neg c_8])
        · refine lv_bipush (v := (-5)) hx hb dX0_callByHand_30 (by decide +kernel) ?_
          exact hQ _ _ _ _ _ _ hW dX0_callByHand_32 (by subst hz_5; subst hz_1; rw [m_X0_callByHand_r, if_neg c_3, if_pos h_4, if_pos c_7, if_pos c_8]) (by subst hz_5; subst hz_1; rw [m_X0_callByHand_u, if_neg c_3, if_pos h_4, if_pos c_7, if_pos c_8])
    · have c_11 : ¬ x = nI 0 := by rw [h_4]; decide +kernel
      refine k_top (y := nI 1) (h_4) ?_
      refine k_aald X hW 2 1 rfl rfl (j := 1) (b := a 8) rfl (by decide) (by decide) rfl dX0_callByHand_14 ?_
      refine lv_astore_n (lv' := [(2, .ref (a 8)), (0, .ref (a 0)), (1, .int x)]) hx hb dX0_callByHand_15 rfl hl (by decide) rfl (fun ls hl => ?_)
      refine lv_aload_n hx hb dX0_callByHand_16 rfl (lv_at hl 0 rfl) ?_
      obtain ⟨z_12, hz_12⟩ : ∃ zq, m_X3_isCalled_r (u 7) = zq := ⟨_, rfl⟩
      have hM_13 := (c_X3_isCalled l D k (a 8) (u 7) )
      rw [hz_12] at hM_13
      refine kNi (As := []) (rest := []) X hW hM_13 yw_X3_isCalled lkn_X0_89 ⟨Nat.le_of_ble_eq_true rfl, Nat.le_of_ble_eq_true rfl⟩ (wr := [cO a u, cSe k a u, cQs k a, cFl k a u, cCa k a u, cHo k a u, cTa k a u, qC (a 7) (u 6), qC (a 9) (u 8)]) (w_idx (n := 10) [0, 1, 2, 3, 4, 5, 6, 7, 9, 8] rfl (by decide) rfl) (w' := cardW k a u) (w_idx (n := 10) [0, 1, 2, 3, 4, 5, 6, 7, 9, 8] rfl (by decide) rfl) (k_rcv X hW (ci := 3) (q0 := 8) rfl rfl) rfl hl.1 rfl (Nat.le_of_ble_eq_true rfl) ⟨Nat.zero_le _, Nat.zero_le _⟩ dX0_callByHand_17 (fun H locs hW => ?_)
      refine lv_if_ne (tgt := 30) hx hb dX0_callByHand_20 (by decide) (fun c_14 => ?_) (fun c_14 => ?_)
      · refine lv_bipush (v := (-5)) hx hb dX0_callByHand_30 (by decide +kernel) ?_
        exact hQ _ _ _ _ _ _ hW dX0_callByHand_32 (by subst hz_12; subst hz_1; rw [m_X0_callByHand_r, if_neg c_3, if_neg c_11, if_pos h_4, if_neg c_14]) (by subst hz_12; subst hz_1; rw [m_X0_callByHand_u, if_neg c_3, if_neg c_11, if_pos h_4, if_neg c_14])
      · refine lv_aload_n hx hb dX0_callByHand_23 rfl (lv_at hl 0 rfl) ?_
        refine k_getN X hW inG3 rfl 5 (by decide) fln_X0_76 rfl 8 rfl (v := .int (u 7 5)) rfl dX0_callByHand_24 ?_
        refine lv_if_ne (tgt := 33) hx hb dX0_callByHand_27 (by decide) (fun c_15 => ?_) (fun c_15 => ?_)
        · refine lv_aload_n hx hb dX0_callByHand_33 rfl (lv_at hl 1 rfl) ?_
          refine lv_aload_n hx hb dX0_callByHand_34 rfl (lv_at hl 0 rfl) ?_
          obtain ⟨z_16, hz_16⟩ : ∃ zq, m_X0_enterRow_1_u u = zq := ⟨_, rfl⟩
          have hM_17 := (c_X0_enterRow_1 l D k a u )
          rw [hz_16] at hM_17
          refine kVv (As := [.ref (a 8)]) (rest := []) X hW hM_17 yw_X0_enterRow lk_X0_93 ⟨Nat.le_of_ble_eq_true rfl, Nat.le_of_ble_eq_true rfl⟩ (wr := []) (List.Perm.refl _) (w' := cardW k a z_16) (List.Perm.refl _) (k_rcv X hW (ci := 0) (q0 := 0) rfl rfl) rfl hl.1 rfl (Nat.le_of_ble_eq_true rfl) ⟨Nat.zero_le _, Nat.zero_le _⟩ dX0_callByHand_35 (fun H locs hW => ?_)
          refine lv_aload_n hx hb dX0_callByHand_38 rfl (lv_at hl 0 rfl) ?_
          refine k_getN X hW inG3 rfl 3 (by decide) fln_X0_96 rfl 8 rfl (v := .int (z_16 7 3)) rfl dX0_callByHand_39 ?_
          exact hQ _ _ _ _ _ _ hW dX0_callByHand_42 (by subst hz_16; subst hz_12; subst hz_1; rw [m_X0_callByHand_r, if_neg c_3, if_neg c_11, if_pos h_4, if_pos c_14, if_neg c_15]) (by subst hz_16; subst hz_12; subst hz_1; rw [m_X0_callByHand_u, if_neg c_3, if_neg c_11, if_pos h_4, if_pos c_14, if_neg c_15])
        · refine lv_bipush (v := (-5)) hx hb dX0_callByHand_30 (by decide +kernel) ?_
          exact hQ _ _ _ _ _ _ hW dX0_callByHand_32 (by subst hz_12; subst hz_1; rw [m_X0_callByHand_r, if_neg c_3, if_neg c_11, if_pos h_4, if_pos c_14, if_pos c_15]) (by subst hz_12; subst hz_1; rw [m_X0_callByHand_u, if_neg c_3, if_neg c_11, if_pos h_4, if_pos c_14, if_pos c_15])
    · have c_18 : ¬ x = nI 0 := by rw [h_4]; decide +kernel
      have c_19 : ¬ x = nI 1 := by rw [h_4]; decide +kernel
      refine k_top (y := nI 2) (h_4) ?_
      refine k_aald X hW 2 1 rfl rfl (j := 2) (b := a 9) rfl (by decide) (by decide) rfl dX0_callByHand_14 ?_
      refine lv_astore_n (lv' := [(2, .ref (a 9)), (0, .ref (a 0)), (1, .int x)]) hx hb dX0_callByHand_15 rfl hl (by decide) rfl (fun ls hl => ?_)
      refine lv_aload_n hx hb dX0_callByHand_16 rfl (lv_at hl 0 rfl) ?_
      obtain ⟨z_20, hz_20⟩ : ∃ zq, m_X3_isCalled_r (u 8) = zq := ⟨_, rfl⟩
      have hM_21 := (c_X3_isCalled l D k (a 9) (u 8) )
      rw [hz_20] at hM_21
      refine kNi (As := []) (rest := []) X hW hM_21 yw_X3_isCalled lkn_X0_89 ⟨Nat.le_of_ble_eq_true rfl, Nat.le_of_ble_eq_true rfl⟩ (wr := [cO a u, cSe k a u, cQs k a, cFl k a u, cCa k a u, cHo k a u, cTa k a u, qC (a 7) (u 6), qC (a 8) (u 7)]) (w_idx (n := 10) [0, 1, 2, 3, 4, 5, 6, 7, 8, 9] rfl (by decide) rfl) (w' := cardW k a u) (w_idx (n := 10) [0, 1, 2, 3, 4, 5, 6, 7, 8, 9] rfl (by decide) rfl) (k_rcv X hW (ci := 3) (q0 := 9) rfl rfl) rfl hl.1 rfl (Nat.le_of_ble_eq_true rfl) ⟨Nat.zero_le _, Nat.zero_le _⟩ dX0_callByHand_17 (fun H locs hW => ?_)
      refine lv_if_ne (tgt := 30) hx hb dX0_callByHand_20 (by decide) (fun c_22 => ?_) (fun c_22 => ?_)
      · refine lv_bipush (v := (-5)) hx hb dX0_callByHand_30 (by decide +kernel) ?_
        exact hQ _ _ _ _ _ _ hW dX0_callByHand_32 (by subst hz_20; subst hz_1; rw [m_X0_callByHand_r, if_neg c_3, if_neg c_18, if_neg c_19, if_neg c_22]) (by subst hz_20; subst hz_1; rw [m_X0_callByHand_u, if_neg c_3, if_neg c_18, if_neg c_19, if_neg c_22])
      · refine lv_aload_n hx hb dX0_callByHand_23 rfl (lv_at hl 0 rfl) ?_
        refine k_getN X hW inG3 rfl 5 (by decide) fln_X0_76 rfl 9 rfl (v := .int (u 8 5)) rfl dX0_callByHand_24 ?_
        refine lv_if_ne (tgt := 33) hx hb dX0_callByHand_27 (by decide) (fun c_23 => ?_) (fun c_23 => ?_)
        · refine lv_aload_n hx hb dX0_callByHand_33 rfl (lv_at hl 1 rfl) ?_
          refine lv_aload_n hx hb dX0_callByHand_34 rfl (lv_at hl 0 rfl) ?_
          obtain ⟨z_24, hz_24⟩ : ∃ zq, m_X0_enterRow_2_u u = zq := ⟨_, rfl⟩
          have hM_25 := (c_X0_enterRow_2 l D k a u )
          rw [hz_24] at hM_25
          refine kVv (As := [.ref (a 9)]) (rest := []) X hW hM_25 yw_X0_enterRow lk_X0_93 ⟨Nat.le_of_ble_eq_true rfl, Nat.le_of_ble_eq_true rfl⟩ (wr := []) (List.Perm.refl _) (w' := cardW k a z_24) (List.Perm.refl _) (k_rcv X hW (ci := 0) (q0 := 0) rfl rfl) rfl hl.1 rfl (Nat.le_of_ble_eq_true rfl) ⟨Nat.zero_le _, Nat.zero_le _⟩ dX0_callByHand_35 (fun H locs hW => ?_)
          refine lv_aload_n hx hb dX0_callByHand_38 rfl (lv_at hl 0 rfl) ?_
          refine k_getN X hW inG3 rfl 3 (by decide) fln_X0_96 rfl 9 rfl (v := .int (z_24 8 3)) rfl dX0_callByHand_39 ?_
          exact hQ _ _ _ _ _ _ hW dX0_callByHand_42 (by subst hz_24; subst hz_20; subst hz_1; rw [m_X0_callByHand_r, if_neg c_3, if_neg c_18, if_neg c_19, if_pos c_22, if_neg c_23]) (by subst hz_24; subst hz_20; subst hz_1; rw [m_X0_callByHand_u, if_neg c_3, if_neg c_18, if_neg c_19, if_pos c_22, if_neg c_23])
        · refine lv_bipush (v := (-5)) hx hb dX0_callByHand_30 (by decide +kernel) ?_
          exact hQ _ _ _ _ _ _ hW dX0_callByHand_32 (by subst hz_20; subst hz_1; rw [m_X0_callByHand_r, if_neg c_3, if_neg c_18, if_neg c_19, if_pos c_22, if_pos c_23]) (by subst hz_20; subst hz_1; rw [m_X0_callByHand_u, if_neg c_3, if_neg c_18, if_neg c_19, if_pos c_22, if_pos c_23])
  · refine lv_iconst (v := (-1)) hx hb dX0_callByHand_7 (by decide +kernel) ?_
    exact hQ _ _ _ _ _ _ hW dX0_callByHand_8 (by subst hz_1; rw [m_X0_callByHand_r, if_pos c_3]) (by subst hz_1; rw [m_X0_callByHand_u, if_pos c_3])
set_option maxHeartbeats 4000000 in
theorem CM_X0_callByHand {u : CS} {x : Int32} (h : CM u) : CM (m_X0_callByHand_u u x) := by
  rw [m_X0_callByHand_u]
  split
  · exact h
  · split
    · split
      · split
        · exact h
        · exact h
      · exact h
    · split
      · split
        · split
          · exact h
          · exact h
        · exact h
      · split
        · split
          · exact h
          · exact h
        · exact h
