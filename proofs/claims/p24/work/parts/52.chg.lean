/-- the cards behind a change: the state before is laid by, the card is the new one -/
def bgV (V : Nat → CS) (nx : Nat) (u : CS) : Nat → CS := setC (setC V (4 + nx) (m_X0_copyFrom_u (V (4 + nx)) (V 0))) 0 u
set_option maxHeartbeats 4000000 in
set_option maxRecDepth 100000 in
theorem c_X4_set (l : Launch) (D : va_G) (k : Nat → ClassId) (B : Nat → Nat) (A : Nat → Nat → Nat) (V : Nat → CS) (nx sz : Nat) (sv z g : Nat → Int32) (x v : Int32) (hn : nx < 7) (hs : sz ≤ 6) (hV : OKC (V 0)) : mI l yX4_set (wsY yX4_set cX4_set 3 (some .int)) 3 D k [.ref (B 0), .int x, .int v] (bigW k B A V (nI nx) (nI sz) sv z g) (bigW k B A (bgV V nx (m_X0_changeSetting_u (V 0) x v)) (nI (kNx (m_X0_changeSetting_r (V 0) x v) nx)) (nI (kSz (m_X0_changeSetting_r (V 0) x v) sz)) sv z g) (m_X0_changeSetting_r (V 0) x v) := by
  refine mI_intro rfl (Nat.le_of_ble_eq_true rfl) (Or.inl rfl) ?_
  intro p e s m args below meth c P Q ls X hW hl hQ
  have hx := X.hx
  have hb := X.hb
  have hl : lv_has ls 3 [(0, .ref (B 0)), (1, .int x), (2, .int v)] := hl
  refine lv_aload_n hx hb dX4_set_0 rfl (lv_at hl 0 rfl) ?_
  refine k_get X hW inG4 rfl 4 (by decide) fl_X4_30 rfl 0 rfl (v := .ref (B 3)) rfl dX4_set_1 ?_
  refine lv_aload_n hx hb dX4_set_4 rfl (lv_at hl 0 rfl) ?_
  refine k_get X hW inG4 rfl 0 (by decide) fl_X4_10 rfl 0 rfl (v := .ref (A 0 0)) rfl dX4_set_5 ?_
  obtain ⟨V1, hV1⟩ : ∃ V1, setC V (4 + nx) (m_X0_copyFrom_u (V (4 + nx)) (V 0)) = V1 := ⟨_, rfl⟩
  have e1 : V1 0 = V 0 := by rw [← hV1]; exact setC_n (by omega)
  have hM1 := c_X1_prepare l D k B A V nx (nI sz) sv z g hn hV.1 hV.2.1 hV.2.2.1 hV.2.2.2
  rw [hV1] at hM1
  refine kNv (As := [.ref (A 0 0)]) (rest := []) (wr := []) X hW hM1 yw_X1_prepare lkn_X4_41 ⟨Nat.le_of_ble_eq_true rfl, Nat.le_of_ble_eq_true rfl⟩ (List.Perm.refl _) (List.Perm.refl _) (k_rcv X hW (ci := 1) (q0 := 3) rfl rfl) rfl hl.1 rfl (Nat.le_of_ble_eq_true rfl) ⟨Nat.zero_le _, Nat.zero_le _⟩ dX4_set_8 (fun H locs hW => ?_)
  refine lv_aload_n hx hb dX4_set_11 rfl (lv_at hl 0 rfl) ?_
  refine k_get X hW inG4 rfl 4 (by decide) fl_X4_30 rfl 0 rfl (v := .ref (B 3)) rfl dX4_set_12 ?_
  refine lv_aload_n hx hb dX4_set_15 rfl (lv_at hl 0 rfl) ?_
  refine k_get X hW inG4 rfl 0 (by decide) fl_X4_10 rfl 0 rfl (v := .ref (A 0 0)) rfl dX4_set_16 ?_
  refine lv_iload_n hx hb dX4_set_19 rfl (lv_at hl 1 rfl) ?_
  refine lv_iload_n hx hb dX4_set_20 rfl (lv_at hl 2 rfl) ?_
  obtain ⟨u1, hu1⟩ : ∃ u1, m_X0_changeSetting_u (V 0) x v = u1 := ⟨_, rfl⟩
  obtain ⟨r1, hr1⟩ : ∃ r1, m_X0_changeSetting_r (V 0) x v = r1 := ⟨_, rfl⟩
  have hM2 := c_X0_changeSetting l D k (A 0) (V 0) x v
  rw [hu1, hr1, ← e1] at hM2
  refine kNi (As := [.int x, .int v]) (rest := [.ref (B 3)]) X hW hM2 yw_X0_changeSetting lkn_X4_45 ⟨Nat.le_of_ble_eq_true rfl, Nat.le_of_ble_eq_true rfl⟩ (big_pull (i := 0) (by decide)) (big_push (by decide)) (big_rcv X hW (by decide)) rfl hl.1 rfl (Nat.le_of_ble_eq_true rfl) ⟨Nat.zero_le _, Nat.zero_le _⟩ dX4_set_21 (fun H locs hW => ?_)
  refine kNi (As := [.int r1]) (rest := []) (wr := []) X hW (c_X1_keepIfDone l D k B A (setC V1 0 u1) nx sz sv z g r1 hn hs) yw_X1_keepIfDone lkn_X4_49 ⟨Nat.le_of_ble_eq_true rfl, Nat.le_of_ble_eq_true rfl⟩ (List.Perm.refl _) (List.Perm.refl _) (k_rcv X hW (ci := 1) (q0 := 3) rfl rfl) rfl hl.1 rfl (Nat.le_of_ble_eq_true rfl) ⟨Nat.zero_le _, Nat.zero_le _⟩ dX4_set_24 (fun H locs hW => ?_)
  exact hQ _ _ _ _ _ _ hW dX4_set_27 hr1.symm (by rw [bgV, hV1, hu1, hr1]; rfl)
set_option maxHeartbeats 4000000 in
set_option maxRecDepth 100000 in
theorem c_X4_bounds (l : Launch) (D : va_G) (k : Nat → ClassId) (B : Nat → Nat) (A : Nat → Nat → Nat) (V : Nat → CS) (nx sz : Nat) (sv z g : Nat → Int32) (q c2 w2 : Int32) (hn : nx < 7) (hs : sz ≤ 6) (hV : OKC (V 0)) : mI l yX4_bounds (wsY yX4_bounds cX4_bounds 4 (some .int)) 3 D k [.ref (B 0), .int q, .int c2, .int w2] (bigW k B A V (nI nx) (nI sz) sv z g) (bigW k B A (bgV V nx (m_X0_changeBounds_u (V 0) q c2 w2)) (nI (kNx (m_X0_changeBounds_r (V 0) q c2 w2) nx)) (nI (kSz (m_X0_changeBounds_r (V 0) q c2 w2) sz)) sv z g) (m_X0_changeBounds_r (V 0) q c2 w2) := by
  refine mI_intro rfl (Nat.le_of_ble_eq_true rfl) (Or.inl rfl) ?_
  intro p e s m args below meth c P Q ls X hW hl hQ
  have hx := X.hx
  have hb := X.hb
  have hl : lv_has ls 4 [(0, .ref (B 0)), (1, .int q), (2, .int c2), (3, .int w2)] := hl
  refine lv_aload_n hx hb dX4_bounds_0 rfl (lv_at hl 0 rfl) ?_
  refine k_get X hW inG4 rfl 4 (by decide) fl_X4_30 rfl 0 rfl (v := .ref (B 3)) rfl dX4_bounds_1 ?_
  refine lv_aload_n hx hb dX4_bounds_4 rfl (lv_at hl 0 rfl) ?_
  refine k_get X hW inG4 rfl 0 (by decide) fl_X4_10 rfl 0 rfl (v := .ref (A 0 0)) rfl dX4_bounds_5 ?_
  obtain ⟨V1, hV1⟩ : ∃ V1, setC V (4 + nx) (m_X0_copyFrom_u (V (4 + nx)) (V 0)) = V1 := ⟨_, rfl⟩
  have e1 : V1 0 = V 0 := by rw [← hV1]; exact setC_n (by omega)
  have hM1 := c_X1_prepare l D k B A V nx (nI sz) sv z g hn hV.1 hV.2.1 hV.2.2.1 hV.2.2.2
  rw [hV1] at hM1
  refine kNv (As := [.ref (A 0 0)]) (rest := []) (wr := []) X hW hM1 yw_X1_prepare lkn_X4_41 ⟨Nat.le_of_ble_eq_true rfl, Nat.le_of_ble_eq_true rfl⟩ (List.Perm.refl _) (List.Perm.refl _) (k_rcv X hW (ci := 1) (q0 := 3) rfl rfl) rfl hl.1 rfl (Nat.le_of_ble_eq_true rfl) ⟨Nat.zero_le _, Nat.zero_le _⟩ dX4_bounds_8 (fun H locs hW => ?_)
  refine lv_aload_n hx hb dX4_bounds_11 rfl (lv_at hl 0 rfl) ?_
  refine k_get X hW inG4 rfl 4 (by decide) fl_X4_30 rfl 0 rfl (v := .ref (B 3)) rfl dX4_bounds_12 ?_
  refine lv_aload_n hx hb dX4_bounds_15 rfl (lv_at hl 0 rfl) ?_
  refine k_get X hW inG4 rfl 0 (by decide) fl_X4_10 rfl 0 rfl (v := .ref (A 0 0)) rfl dX4_bounds_16 ?_
  refine lv_iload_n hx hb dX4_bounds_19 rfl (lv_at hl 1 rfl) ?_
  refine lv_iload_n hx hb dX4_bounds_20 rfl (lv_at hl 2 rfl) ?_
  refine lv_iload_n hx hb dX4_bounds_21 rfl (lv_at hl 3 rfl) ?_
  obtain ⟨u1, hu1⟩ : ∃ u1, m_X0_changeBounds_u (V 0) q c2 w2 = u1 := ⟨_, rfl⟩
  obtain ⟨r1, hr1⟩ : ∃ r1, m_X0_changeBounds_r (V 0) q c2 w2 = r1 := ⟨_, rfl⟩
  have hM2 := c_X0_changeBounds l D k (A 0) (V 0) q c2 w2
  rw [hu1, hr1, ← e1] at hM2
  refine kNi (As := [.int q, .int c2, .int w2]) (rest := [.ref (B 3)]) X hW hM2 yw_X0_changeBounds lkn_X4_53 ⟨Nat.le_of_ble_eq_true rfl, Nat.le_of_ble_eq_true rfl⟩ (big_pull (i := 0) (by decide)) (big_push (by decide)) (big_rcv X hW (by decide)) rfl hl.1 rfl (Nat.le_of_ble_eq_true rfl) ⟨Nat.zero_le _, Nat.zero_le _⟩ dX4_bounds_22 (fun H locs hW => ?_)
  refine kNi (As := [.int r1]) (rest := []) (wr := []) X hW (c_X1_keepIfDone l D k B A (setC V1 0 u1) nx sz sv z g r1 hn hs) yw_X1_keepIfDone lkn_X4_49 ⟨Nat.le_of_ble_eq_true rfl, Nat.le_of_ble_eq_true rfl⟩ (List.Perm.refl _) (List.Perm.refl _) (k_rcv X hW (ci := 1) (q0 := 3) rfl rfl) rfl hl.1 rfl (Nat.le_of_ble_eq_true rfl) ⟨Nat.zero_le _, Nat.zero_le _⟩ dX4_bounds_25 (fun H locs hW => ?_)
  exact hQ _ _ _ _ _ _ hW dX4_bounds_28 hr1.symm (by rw [bgV, hV1, hu1, hr1]; rfl)
set_option maxHeartbeats 4000000 in
set_option maxRecDepth 100000 in
theorem c_X4_come (l : Launch) (D : va_G) (k : Nat → ClassId) (B : Nat → Nat) (A : Nat → Nat → Nat) (V : Nat → CS) (nx sz : Nat) (sv z g : Nat → Int32) (x : Int32) (hn : nx < 7) (hs : sz ≤ 6) (hV : OKC (V 0)) : mI l yX4_come (wsY yX4_come cX4_come 2 (some .int)) 3 D k [.ref (B 0), .int x] (bigW k B A V (nI nx) (nI sz) sv z g) (bigW k B A (bgV V nx (m_X0_receive_u (V 0) x)) (nI (kNx (m_X0_receive_r (V 0) x) nx)) (nI (kSz (m_X0_receive_r (V 0) x) sz)) sv z g) (m_X0_receive_r (V 0) x) := by
  refine mI_intro rfl (Nat.le_of_ble_eq_true rfl) (Or.inl rfl) ?_
  intro p e s m args below meth c P Q ls X hW hl hQ
  have hx := X.hx
  have hb := X.hb
  have hl : lv_has ls 2 [(0, .ref (B 0)), (1, .int x)] := hl
  refine lv_aload_n hx hb dX4_come_0 rfl (lv_at hl 0 rfl) ?_
  refine k_get X hW inG4 rfl 4 (by decide) fl_X4_30 rfl 0 rfl (v := .ref (B 3)) rfl dX4_come_1 ?_
  refine lv_aload_n hx hb dX4_come_4 rfl (lv_at hl 0 rfl) ?_
  refine k_get X hW inG4 rfl 0 (by decide) fl_X4_10 rfl 0 rfl (v := .ref (A 0 0)) rfl dX4_come_5 ?_
  obtain ⟨V1, hV1⟩ : ∃ V1, setC V (4 + nx) (m_X0_copyFrom_u (V (4 + nx)) (V 0)) = V1 := ⟨_, rfl⟩
  have e1 : V1 0 = V 0 := by rw [← hV1]; exact setC_n (by omega)
  have hM1 := c_X1_prepare l D k B A V nx (nI sz) sv z g hn hV.1 hV.2.1 hV.2.2.1 hV.2.2.2
  rw [hV1] at hM1
  refine kNv (As := [.ref (A 0 0)]) (rest := []) (wr := []) X hW hM1 yw_X1_prepare lkn_X4_41 ⟨Nat.le_of_ble_eq_true rfl, Nat.le_of_ble_eq_true rfl⟩ (List.Perm.refl _) (List.Perm.refl _) (k_rcv X hW (ci := 1) (q0 := 3) rfl rfl) rfl hl.1 rfl (Nat.le_of_ble_eq_true rfl) ⟨Nat.zero_le _, Nat.zero_le _⟩ dX4_come_8 (fun H locs hW => ?_)
  refine lv_aload_n hx hb dX4_come_11 rfl (lv_at hl 0 rfl) ?_
  refine k_get X hW inG4 rfl 4 (by decide) fl_X4_30 rfl 0 rfl (v := .ref (B 3)) rfl dX4_come_12 ?_
  refine lv_aload_n hx hb dX4_come_15 rfl (lv_at hl 0 rfl) ?_
  refine k_get X hW inG4 rfl 0 (by decide) fl_X4_10 rfl 0 rfl (v := .ref (A 0 0)) rfl dX4_come_16 ?_
  refine lv_iload_n hx hb dX4_come_19 rfl (lv_at hl 1 rfl) ?_
  obtain ⟨u1, hu1⟩ : ∃ u1, m_X0_receive_u (V 0) x = u1 := ⟨_, rfl⟩
  obtain ⟨r1, hr1⟩ : ∃ r1, m_X0_receive_r (V 0) x = r1 := ⟨_, rfl⟩
  have hM2 := c_X0_receive l D k (A 0) (V 0) x hV.1
  rw [hu1, hr1, ← e1] at hM2
  refine kNi (As := [.int x]) (rest := [.ref (B 3)]) X hW hM2 yw_X0_receive lkn_X4_57 ⟨Nat.le_of_ble_eq_true rfl, Nat.le_of_ble_eq_true rfl⟩ (big_pull (i := 0) (by decide)) (big_push (by decide)) (big_rcv X hW (by decide)) rfl hl.1 rfl (Nat.le_of_ble_eq_true rfl) ⟨Nat.zero_le _, Nat.zero_le _⟩ dX4_come_20 (fun H locs hW => ?_)
  refine kNi (As := [.int r1]) (rest := []) (wr := []) X hW (c_X1_keepIfDone l D k B A (setC V1 0 u1) nx sz sv z g r1 hn hs) yw_X1_keepIfDone lkn_X4_49 ⟨Nat.le_of_ble_eq_true rfl, Nat.le_of_ble_eq_true rfl⟩ (List.Perm.refl _) (List.Perm.refl _) (k_rcv X hW (ci := 1) (q0 := 3) rfl rfl) rfl hl.1 rfl (Nat.le_of_ble_eq_true rfl) ⟨Nat.zero_le _, Nat.zero_le _⟩ dX4_come_23 (fun H locs hW => ?_)
  exact hQ _ _ _ _ _ _ hW dX4_come_26 hr1.symm (by rw [bgV, hV1, hu1, hr1]; rfl)
set_option maxHeartbeats 4000000 in
set_option maxRecDepth 100000 in
theorem c_X4_mask (l : Launch) (D : va_G) (k : Nat → ClassId) (B : Nat → Nat) (A : Nat → Nat → Nat) (V : Nat → CS) (nx sz : Nat) (sv z g : Nat → Int32) (q : Int32) (hn : nx < 7) (hs : sz ≤ 6) (hV : OKC (V 0)) : mI l yX4_mask (wsY yX4_mask cX4_mask 2 (some .int)) 3 D k [.ref (B 0), .int q] (bigW k B A V (nI nx) (nI sz) sv z g) (bigW k B A (bgV V nx (m_X0_changeMask_u (V 0) q)) (nI (kNx (m_X0_changeMask_r (V 0) q) nx)) (nI (kSz (m_X0_changeMask_r (V 0) q) sz)) sv z g) (m_X0_changeMask_r (V 0) q) := by
  refine mI_intro rfl (Nat.le_of_ble_eq_true rfl) (Or.inl rfl) ?_
  intro p e s m args below meth c P Q ls X hW hl hQ
  have hx := X.hx
  have hb := X.hb
  have hl : lv_has ls 2 [(0, .ref (B 0)), (1, .int q)] := hl
  refine lv_aload_n hx hb dX4_mask_0 rfl (lv_at hl 0 rfl) ?_
  refine k_get X hW inG4 rfl 4 (by decide) fl_X4_30 rfl 0 rfl (v := .ref (B 3)) rfl dX4_mask_1 ?_
  refine lv_aload_n hx hb dX4_mask_4 rfl (lv_at hl 0 rfl) ?_
  refine k_get X hW inG4 rfl 0 (by decide) fl_X4_10 rfl 0 rfl (v := .ref (A 0 0)) rfl dX4_mask_5 ?_
  obtain ⟨V1, hV1⟩ : ∃ V1, setC V (4 + nx) (m_X0_copyFrom_u (V (4 + nx)) (V 0)) = V1 := ⟨_, rfl⟩
  have e1 : V1 0 = V 0 := by rw [← hV1]; exact setC_n (by omega)
  have hM1 := c_X1_prepare l D k B A V nx (nI sz) sv z g hn hV.1 hV.2.1 hV.2.2.1 hV.2.2.2
  rw [hV1] at hM1
  refine kNv (As := [.ref (A 0 0)]) (rest := []) (wr := []) X hW hM1 yw_X1_prepare lkn_X4_41 ⟨Nat.le_of_ble_eq_true rfl, Nat.le_of_ble_eq_true rfl⟩ (List.Perm.refl _) (List.Perm.refl _) (k_rcv X hW (ci := 1) (q0 := 3) rfl rfl) rfl hl.1 rfl (Nat.le_of_ble_eq_true rfl) ⟨Nat.zero_le _, Nat.zero_le _⟩ dX4_mask_8 (fun H locs hW => ?_)
  refine lv_aload_n hx hb dX4_mask_11 rfl (lv_at hl 0 rfl) ?_
  refine k_get X hW inG4 rfl 4 (by decide) fl_X4_30 rfl 0 rfl (v := .ref (B 3)) rfl dX4_mask_12 ?_
  refine lv_aload_n hx hb dX4_mask_15 rfl (lv_at hl 0 rfl) ?_
  refine k_get X hW inG4 rfl 0 (by decide) fl_X4_10 rfl 0 rfl (v := .ref (A 0 0)) rfl dX4_mask_16 ?_
  refine lv_iload_n hx hb dX4_mask_19 rfl (lv_at hl 1 rfl) ?_
  obtain ⟨u1, hu1⟩ : ∃ u1, m_X0_changeMask_u (V 0) q = u1 := ⟨_, rfl⟩
  obtain ⟨r1, hr1⟩ : ∃ r1, m_X0_changeMask_r (V 0) q = r1 := ⟨_, rfl⟩
  have hM2 := c_X0_changeMask l D k (A 0) (V 0) q
  rw [hu1, hr1, ← e1] at hM2
  refine kNi (As := [.int q]) (rest := [.ref (B 3)]) X hW hM2 yw_X0_changeMask lkn_X4_60 ⟨Nat.le_of_ble_eq_true rfl, Nat.le_of_ble_eq_true rfl⟩ (big_pull (i := 0) (by decide)) (big_push (by decide)) (big_rcv X hW (by decide)) rfl hl.1 rfl (Nat.le_of_ble_eq_true rfl) ⟨Nat.zero_le _, Nat.zero_le _⟩ dX4_mask_20 (fun H locs hW => ?_)
  refine kNi (As := [.int r1]) (rest := []) (wr := []) X hW (c_X1_keepIfDone l D k B A (setC V1 0 u1) nx sz sv z g r1 hn hs) yw_X1_keepIfDone lkn_X4_49 ⟨Nat.le_of_ble_eq_true rfl, Nat.le_of_ble_eq_true rfl⟩ (List.Perm.refl _) (List.Perm.refl _) (k_rcv X hW (ci := 1) (q0 := 3) rfl rfl) rfl hl.1 rfl (Nat.le_of_ble_eq_true rfl) ⟨Nat.zero_le _, Nat.zero_le _⟩ dX4_mask_23 (fun H locs hW => ?_)
  exact hQ _ _ _ _ _ _ hW dX4_mask_26 hr1.symm (by rw [bgV, hV1, hu1, hr1]; rfl)
set_option maxHeartbeats 4000000 in
set_option maxRecDepth 100000 in
theorem c_X4_call (l : Launch) (D : va_G) (k : Nat → ClassId) (B : Nat → Nat) (A : Nat → Nat → Nat) (V : Nat → CS) (nx sz : Nat) (sv z g : Nat → Int32) (q : Int32) (hn : nx < 7) (hs : sz ≤ 6) (hV : OKC (V 0)) : mI l yX4_call (wsY yX4_call cX4_call 2 (some .int)) 4 D k [.ref (B 0), .int q] (bigW k B A V (nI nx) (nI sz) sv z g) (bigW k B A (bgV V nx (m_X0_callByHand_u (V 0) q)) (nI (kNx (m_X0_callByHand_r (V 0) q) nx)) (nI (kSz (m_X0_callByHand_r (V 0) q) sz)) sv z g) (m_X0_callByHand_r (V 0) q) := by
  refine mI_intro rfl (Nat.le_of_ble_eq_true rfl) (Or.inl rfl) ?_
  intro p e s m args below meth c P Q ls X hW hl hQ
  have hx := X.hx
  have hb := X.hb
  have hl : lv_has ls 2 [(0, .ref (B 0)), (1, .int q)] := hl
  refine lv_aload_n hx hb dX4_call_0 rfl (lv_at hl 0 rfl) ?_
  refine k_get X hW inG4 rfl 4 (by decide) fl_X4_30 rfl 0 rfl (v := .ref (B 3)) rfl dX4_call_1 ?_
  refine lv_aload_n hx hb dX4_call_4 rfl (lv_at hl 0 rfl) ?_
  refine k_get X hW inG4 rfl 0 (by decide) fl_X4_10 rfl 0 rfl (v := .ref (A 0 0)) rfl dX4_call_5 ?_
  obtain ⟨V1, hV1⟩ : ∃ V1, setC V (4 + nx) (m_X0_copyFrom_u (V (4 + nx)) (V 0)) = V1 := ⟨_, rfl⟩
  have e1 : V1 0 = V 0 := by rw [← hV1]; exact setC_n (by omega)
  have hM1 := c_X1_prepare l D k B A V nx (nI sz) sv z g hn hV.1 hV.2.1 hV.2.2.1 hV.2.2.2
  rw [hV1] at hM1
  refine kNv (As := [.ref (A 0 0)]) (rest := []) (wr := []) X hW hM1 yw_X1_prepare lkn_X4_41 ⟨Nat.le_of_ble_eq_true rfl, Nat.le_of_ble_eq_true rfl⟩ (List.Perm.refl _) (List.Perm.refl _) (k_rcv X hW (ci := 1) (q0 := 3) rfl rfl) rfl hl.1 rfl (Nat.le_of_ble_eq_true rfl) ⟨Nat.zero_le _, Nat.zero_le _⟩ dX4_call_8 (fun H locs hW => ?_)
  refine lv_aload_n hx hb dX4_call_11 rfl (lv_at hl 0 rfl) ?_
  refine k_get X hW inG4 rfl 4 (by decide) fl_X4_30 rfl 0 rfl (v := .ref (B 3)) rfl dX4_call_12 ?_
  refine lv_aload_n hx hb dX4_call_15 rfl (lv_at hl 0 rfl) ?_
  refine k_get X hW inG4 rfl 0 (by decide) fl_X4_10 rfl 0 rfl (v := .ref (A 0 0)) rfl dX4_call_16 ?_
  refine lv_iload_n hx hb dX4_call_19 rfl (lv_at hl 1 rfl) ?_
  obtain ⟨u1, hu1⟩ : ∃ u1, m_X0_callByHand_u (V 0) q = u1 := ⟨_, rfl⟩
  obtain ⟨r1, hr1⟩ : ∃ r1, m_X0_callByHand_r (V 0) q = r1 := ⟨_, rfl⟩
  have hM2 := c_X0_callByHand l D k (A 0) (V 0) q
  rw [hu1, hr1, ← e1] at hM2
  refine kNi (As := [.int q]) (rest := [.ref (B 3)]) X hW hM2 yw_X0_callByHand lkn_X4_63 ⟨Nat.le_of_ble_eq_true rfl, Nat.le_of_ble_eq_true rfl⟩ (big_pull (i := 0) (by decide)) (big_push (by decide)) (big_rcv X hW (by decide)) rfl hl.1 rfl (Nat.le_of_ble_eq_true rfl) ⟨Nat.zero_le _, Nat.zero_le _⟩ dX4_call_20 (fun H locs hW => ?_)
  refine kNi (As := [.int r1]) (rest := []) (wr := []) X hW (c_X1_keepIfDone l D k B A (setC V1 0 u1) nx sz sv z g r1 hn hs) yw_X1_keepIfDone lkn_X4_49 ⟨Nat.le_of_ble_eq_true rfl, Nat.le_of_ble_eq_true rfl⟩ (List.Perm.refl _) (List.Perm.refl _) (k_rcv X hW (ci := 1) (q0 := 3) rfl rfl) rfl hl.1 rfl (Nat.le_of_ble_eq_true rfl) ⟨Nat.zero_le _, Nat.zero_le _⟩ dX4_call_23 (fun H locs hW => ?_)
  exact hQ _ _ _ _ _ _ hW dX4_call_26 hr1.symm (by rw [bgV, hV1, hu1, hr1]; rfl)
set_option maxHeartbeats 4000000 in
set_option maxRecDepth 100000 in
theorem c_X4_pass (l : Launch) (D : va_G) (k : Nat → ClassId) (B : Nat → Nat) (A : Nat → Nat → Nat) (V : Nat → CS) (nx sz : Nat) (sv z g : Nat → Int32) (x : Int32) (hn : nx < 7) (hs : sz ≤ 6) (hV : OKC (V 0)) : mI l yX4_pass (wsY yX4_pass cX4_pass 2 (some .int)) 7 D k [.ref (B 0), .int x] (bigW k B A V (nI nx) (nI sz) sv z g) (bigW k B A (bgV V nx (m_X0_passTicks_u (V 0) x)) (nI (kNx (m_X0_passTicks_r (V 0) x) nx)) (nI (kSz (m_X0_passTicks_r (V 0) x) sz)) sv z g) (m_X0_passTicks_r (V 0) x) := by
  refine mI_intro rfl (Nat.le_of_ble_eq_true rfl) (Or.inl rfl) ?_
  intro p e s m args below meth c P Q ls X hW hl hQ
  have hx := X.hx
  have hb := X.hb
  have hl : lv_has ls 2 [(0, .ref (B 0)), (1, .int x)] := hl
  refine lv_aload_n hx hb dX4_pass_0 rfl (lv_at hl 0 rfl) ?_
  refine k_get X hW inG4 rfl 4 (by decide) fl_X4_30 rfl 0 rfl (v := .ref (B 3)) rfl dX4_pass_1 ?_
  refine lv_aload_n hx hb dX4_pass_4 rfl (lv_at hl 0 rfl) ?_
  refine k_get X hW inG4 rfl 0 (by decide) fl_X4_10 rfl 0 rfl (v := .ref (A 0 0)) rfl dX4_pass_5 ?_
  obtain ⟨V1, hV1⟩ : ∃ V1, setC V (4 + nx) (m_X0_copyFrom_u (V (4 + nx)) (V 0)) = V1 := ⟨_, rfl⟩
  have e1 : V1 0 = V 0 := by rw [← hV1]; exact setC_n (by omega)
  have hM1 := c_X1_prepare l D k B A V nx (nI sz) sv z g hn hV.1 hV.2.1 hV.2.2.1 hV.2.2.2
  rw [hV1] at hM1
  refine kNv (As := [.ref (A 0 0)]) (rest := []) (wr := []) X hW hM1 yw_X1_prepare lkn_X4_41 ⟨Nat.le_of_ble_eq_true rfl, Nat.le_of_ble_eq_true rfl⟩ (List.Perm.refl _) (List.Perm.refl _) (k_rcv X hW (ci := 1) (q0 := 3) rfl rfl) rfl hl.1 rfl (Nat.le_of_ble_eq_true rfl) ⟨Nat.zero_le _, Nat.zero_le _⟩ dX4_pass_8 (fun H locs hW => ?_)
  refine lv_aload_n hx hb dX4_pass_11 rfl (lv_at hl 0 rfl) ?_
  refine k_get X hW inG4 rfl 4 (by decide) fl_X4_30 rfl 0 rfl (v := .ref (B 3)) rfl dX4_pass_12 ?_
  refine lv_aload_n hx hb dX4_pass_15 rfl (lv_at hl 0 rfl) ?_
  refine k_get X hW inG4 rfl 0 (by decide) fl_X4_10 rfl 0 rfl (v := .ref (A 0 0)) rfl dX4_pass_16 ?_
  refine lv_iload_n hx hb dX4_pass_19 rfl (lv_at hl 1 rfl) ?_
  obtain ⟨u1, hu1⟩ : ∃ u1, m_X0_passTicks_u (V 0) x = u1 := ⟨_, rfl⟩
  obtain ⟨r1, hr1⟩ : ∃ r1, m_X0_passTicks_r (V 0) x = r1 := ⟨_, rfl⟩
  have hM2 := c_X0_passTicks l D k (A 0) (V 0) x hV.1
  rw [hu1, hr1, ← e1] at hM2
  refine kNi (As := [.int x]) (rest := [.ref (B 3)]) X hW hM2 yw_X0_passTicks lkn_X4_66 ⟨Nat.le_of_ble_eq_true rfl, Nat.le_of_ble_eq_true rfl⟩ (big_pull (i := 0) (by decide)) (big_push (by decide)) (big_rcv X hW (by decide)) rfl hl.1 rfl (Nat.le_of_ble_eq_true rfl) ⟨Nat.zero_le _, Nat.zero_le _⟩ dX4_pass_20 (fun H locs hW => ?_)
  refine kNi (As := [.int r1]) (rest := []) (wr := []) X hW (c_X1_keepIfDone l D k B A (setC V1 0 u1) nx sz sv z g r1 hn hs) yw_X1_keepIfDone lkn_X4_49 ⟨Nat.le_of_ble_eq_true rfl, Nat.le_of_ble_eq_true rfl⟩ (List.Perm.refl _) (List.Perm.refl _) (k_rcv X hW (ci := 1) (q0 := 3) rfl rfl) rfl hl.1 rfl (Nat.le_of_ble_eq_true rfl) ⟨Nat.zero_le _, Nat.zero_le _⟩ dX4_pass_23 (fun H locs hW => ?_)
  exact hQ _ _ _ _ _ _ hW dX4_pass_26 hr1.symm (by rw [bgV, hV1, hu1, hr1]; rfl)
