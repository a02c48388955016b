set_option maxHeartbeats 4000000 in
set_option maxRecDepth 100000 in
theorem c_X4_restore (l : Launch) (D : va_G) (k : Nat → ClassId) (B : Nat → Nat) (A : Nat → Nat → Nat) (V : Nat → CS) (nx sz : Nat) (sv z g : Nat → Int32) (i : Nat) (hi : i < 2) (h0 : sv i = nI 1) (hn : nx < 7) (hs : sz ≤ 6) (hV : OKC (V 0)) (hU : OKC (V (2 + i))) : mI l yX4_restore (wsY yX4_restore cX4_restore 2 (some .int)) 3 D k [.ref (B 0), .int (nI i)] (bigW k B A V (nI nx) (nI sz) sv z g) (bigW k B A (bgV V nx (m_X0_copyFrom_u (V 0) (V (2 + i)))) (nI (kNx (m_X0_copyFrom_u (V 0) (V (2 + i)) 0 3) nx)) (nI (kSz (m_X0_copyFrom_u (V 0) (V (2 + i)) 0 3) sz)) sv z g) (m_X0_copyFrom_u (V 0) (V (2 + i)) 0 3) := by
  refine mI_intro rfl (Nat.le_of_ble_eq_true rfl) (Or.inl rfl) ?_
  intro p e s m args below meth c P Q ls X hW hl hQ
  have hx := X.hx
  have hb := X.hb
  have hl : lv_has ls 2 [(0, .ref (B 0)), (1, .int (nI i))] := hl
  have hM := c_X4_isSlot l D k (nI i)
  rw [slot_in hi] at hM
  refine lv_iload_n hx hb dX4_restore_0 rfl (lv_at hl 1 rfl) ?_
  refine kSi (As := [.int (nI i)]) (rest := []) X hW hM yw_X4_isSlot lk_X4_161 ⟨Nat.le_of_ble_eq_true rfl, Nat.le_of_ble_eq_true rfl⟩ rfl hl.1 rfl (Nat.le_of_ble_eq_true rfl) ⟨Nat.zero_le _, Nat.zero_le _⟩ dX4_restore_1 (fun H locs hW => ?_)
  refine lv_if_ne (tgt := 10) hx hb dX4_restore_4 (by decide) (fun _ => ?_) (fun c_1 => absurd c_1 (by decide +kernel))
  refine lv_aload_n hx hb dX4_restore_10 rfl (lv_at hl 0 rfl) ?_
  refine k_get X hW inG4 rfl 3 (by decide) fl_X4_23 rfl 0 rfl (v := .ref (B 2)) rfl dX4_restore_11 ?_
  refine lv_iload_n hx hb dX4_restore_14 rfl (lv_at hl 1 rfl) ?_
  refine k_zald X hW 2 rfl rfl hi (by decide) h0 dX4_restore_15 ?_
  refine lv_if_ne (tgt := 22) hx hb dX4_restore_16 (by decide) (fun _ => ?_) (fun c_1 => absurd c_1 (by decide +kernel))
  refine lv_aload_n hx hb dX4_restore_22 rfl (lv_at hl 0 rfl) ?_
  refine k_get X hW inG4 rfl 4 (by decide) fl_X4_30 rfl 0 rfl (v := .ref (B 3)) rfl dX4_restore_23 ?_
  refine lv_aload_n hx hb dX4_restore_26 rfl (lv_at hl 0 rfl) ?_
  refine k_get X hW inG4 rfl 0 (by decide) fl_X4_10 rfl 0 rfl (v := .ref (A 0 0)) rfl dX4_restore_27 ?_
  obtain ⟨V1, hV1⟩ : ∃ V1, setC V (4 + nx) (m_X0_copyFrom_u (V (4 + nx)) (V 0)) = V1 := ⟨_, rfl⟩
  have e1 : V1 0 = V 0 := by rw [← hV1]; exact setC_n (by omega)
  have e2 : V1 (2 + i) = V (2 + i) := by rw [← hV1]; exact setC_n (by omega)
  have hM1 := c_X1_prepare l D k B A V nx (nI sz) sv z g hn hV.1 hV.2.1 hV.2.2.1 hV.2.2.2
  rw [hV1] at hM1
  refine kNv (As := [.ref (A 0 0)]) (rest := []) (wr := []) X hW hM1 yw_X1_prepare lkn_X4_41 ⟨Nat.le_of_ble_eq_true rfl, Nat.le_of_ble_eq_true rfl⟩ (List.Perm.refl _) (List.Perm.refl _) (k_rcv X hW (ci := 1) (q0 := 3) rfl rfl) rfl hl.1 rfl (Nat.le_of_ble_eq_true rfl) ⟨Nat.zero_le _, Nat.zero_le _⟩ dX4_restore_30 (fun H locs hW => ?_)
  refine lv_aload_n hx hb dX4_restore_33 rfl (lv_at hl 0 rfl) ?_
  refine k_get X hW inG4 rfl 0 (by decide) fl_X4_10 rfl 0 rfl (v := .ref (A 0 0)) rfl dX4_restore_34 ?_
  refine lv_aload_n hx hb dX4_restore_37 rfl (lv_at hl 0 rfl) ?_
  refine k_get X hW inG4 rfl 2 (by decide) fl_X4_19 rfl 0 rfl (v := .ref (B 1)) rfl dX4_restore_38 ?_
  refine lv_iload_n hx hb dX4_restore_41 rfl (lv_at hl 1 rfl) ?_
  refine k_aald X hW 1 4 (b := A (2 + i) 0) rfl rfl rfl hi (by decide) rfl dX4_restore_42 ?_
  obtain ⟨u2, hu2⟩ : ∃ u2, m_X0_copyFrom_u (V 0) (V (2 + i)) = u2 := ⟨_, rfl⟩
  have hM2 := c_X0_copyFrom l D k (A 0) (A (2 + i)) (V 0) (V (2 + i)) hU.1 hU.2.1 hU.2.2.1 hU.2.2.2
  rw [hu2, ← e1, ← e2] at hM2
  refine kNv (As := [.ref (A (2 + i) 0)]) (rest := []) X hW hM2 yw_X0_copyFrom lkn_X4_122 ⟨Nat.le_of_ble_eq_true rfl, Nat.le_of_ble_eq_true rfl⟩ (big_pull2 (i := 0) (j := 2 + i) (by decide) (by omega) (by omega)) (big_push2 (by decide) (by omega) (by omega)) (big_rcv X hW (by decide)) rfl hl.1 rfl (Nat.le_of_ble_eq_true rfl) ⟨Nat.zero_le _, Nat.zero_le _⟩ dX4_restore_43 (fun H locs hW => ?_)
  refine lv_aload_n hx hb dX4_restore_46 rfl (lv_at hl 0 rfl) ?_
  refine k_get X hW inG4 rfl 4 (by decide) fl_X4_30 rfl 0 rfl (v := .ref (B 3)) rfl dX4_restore_47 ?_
  refine lv_aload_n hx hb dX4_restore_50 rfl (lv_at hl 0 rfl) ?_
  refine k_get X hW inG4 rfl 0 (by decide) fl_X4_10 rfl 0 rfl (v := .ref (A 0 0)) rfl dX4_restore_51 ?_
  refine k_getN X hW inG0 rfl 3 (by decide) fln_X4_95 rfl 7 rfl (v := .int (setC V1 0 u2 0 0 3)) rfl dX4_restore_54 ?_
  refine k_top (y := u2 0 3) (by rw [setC_i]) ?_
  refine kNi (As := [.int (u2 0 3)]) (rest := []) (wr := []) X hW (c_X1_keepIfDone l D k B A (setC V1 0 u2) nx sz sv z g (u2 0 3) hn hs) yw_X1_keepIfDone lkn_X4_49 ⟨Nat.le_of_ble_eq_true rfl, Nat.le_of_ble_eq_true rfl⟩ (List.Perm.refl _) (List.Perm.refl _) (k_rcv X hW (ci := 1) (q0 := 3) rfl rfl) rfl hl.1 rfl (Nat.le_of_ble_eq_true rfl) ⟨Nat.zero_le _, Nat.zero_le _⟩ dX4_restore_57 (fun H locs hW => ?_)
  exact hQ _ _ _ _ _ _ hW dX4_restore_60 (by rw [hu2]) (by rw [bgV, hV1, hu2]; rfl)
