theorem slot_in {i : Nat} (hi : i < 2) : m_X4_isSlot_r (nI i) = nI 1 := by
  rcases (by omega : i = 0 ∨ i = 1) with rfl | rfl <;> decide +kernel
theorem slot_of {x : Int32} (h : ¬ m_X4_isSlot_r x = nI 0) : ∃ i, i < 2 ∧ x = nI i := by
  unfold m_X4_isSlot_r at h
  by_cases h0 : x < 0
  · rw [if_pos h0] at h; exact absurd rfl h
  · rw [if_neg h0] at h
    obtain ⟨j, hj, rfl⟩ := nI_of h0
    by_cases h1 : nI 2 ≤ nI j
    · rw [if_pos h1] at h; exact absurd rfl h
    · refine ⟨j, ?_, rfl⟩
      rw [Int32.le_iff_toInt_le, nI_toInt (by decide), nI_toInt hj] at h1
      omega
set_option maxHeartbeats 4000000 in
set_option maxRecDepth 100000 in
theorem c_X4_save0 (l : Launch) (D : va_G) (k : Nat → ClassId) (B : Nat → Nat) (A : Nat → Nat → Nat) (V : Nat → CS) (nx sz : Int32) (sv z g : Nat → Int32) (x : Int32) (h0 : m_X4_isSlot_r x = nI 0) : mI l yX4_save (wsY yX4_save cX4_save 2 (some .int)) 2 D k [.ref (B 0), .int x] (bigW k B A V nx sz sv z g) (bigW k B A V nx sz sv z g) (-2) := by
  refine mI_intro rfl (Nat.le_of_ble_eq_true rfl) (Or.inl rfl) ?_
  intro p e s m args below meth c P Q ls X hW hl hQ
  have hx := X.hx
  have hb := X.hb
  have hl : lv_has ls 2 [(0, .ref (B 0)), (1, .int x)] := hl
  have hM := c_X4_isSlot l D k x
  rw [h0] at hM
  refine lv_iload_n hx hb dX4_save_0 rfl (lv_at hl 1 rfl) ?_
  refine kSi (As := [.int x]) (rest := []) X hW hM yw_X4_isSlot lk_X4_161 ⟨Nat.le_of_ble_eq_true rfl, Nat.le_of_ble_eq_true rfl⟩ rfl hl.1 rfl (Nat.le_of_ble_eq_true rfl) ⟨Nat.zero_le _, Nat.zero_le _⟩ dX4_save_1 (fun H locs hW => ?_)
  refine lv_if_ne (tgt := 10) hx hb dX4_save_4 (by decide) (fun c_1 => absurd rfl c_1) (fun _ => ?_)
  refine lv_bipush (v := (-2)) hx hb dX4_save_7 (by decide +kernel) ?_
  exact hQ _ _ _ _ _ _ hW dX4_save_9 rfl rfl
set_option maxHeartbeats 4000000 in
set_option maxRecDepth 100000 in
theorem c_X4_save (l : Launch) (D : va_G) (k : Nat → ClassId) (B : Nat → Nat) (A : Nat → Nat → Nat) (V : Nat → CS) (nx sz : Int32) (sv z g : Nat → Int32) (i : Nat) (hi : i < 2) (hV : OKC (V 0)) : mI l yX4_save (wsY yX4_save cX4_save 2 (some .int)) 2 D k [.ref (B 0), .int (nI i)] (bigW k B A V nx sz sv z g) (bigW k B A (setC V (2 + i) (m_X0_copyFrom_u (V (2 + i)) (V 0))) nx sz (upd sv i (nI 1)) z g) (V 0 0 3) := by
  refine mI_intro rfl (Nat.le_of_ble_eq_true rfl) (Or.inl rfl) ?_
  intro p e s m args below meth c P Q ls X hW hl hQ
  have hx := X.hx
  have hb := X.hb
  have hl : lv_has ls 2 [(0, .ref (B 0)), (1, .int (nI i))] := hl
  have hM := c_X4_isSlot l D k (nI i)
  rw [slot_in hi] at hM
  refine lv_iload_n hx hb dX4_save_0 rfl (lv_at hl 1 rfl) ?_
  refine kSi (As := [.int (nI i)]) (rest := []) X hW hM yw_X4_isSlot lk_X4_161 ⟨Nat.le_of_ble_eq_true rfl, Nat.le_of_ble_eq_true rfl⟩ rfl hl.1 rfl (Nat.le_of_ble_eq_true rfl) ⟨Nat.zero_le _, Nat.zero_le _⟩ dX4_save_1 (fun H locs hW => ?_)
  refine lv_if_ne (tgt := 10) hx hb dX4_save_4 (by decide) (fun _ => ?_) (fun c_1 => absurd c_1 (by decide +kernel))
  refine lv_aload_n hx hb dX4_save_10 rfl (lv_at hl 0 rfl) ?_
  refine k_get X hW inG4 rfl 2 (by decide) fl_X4_19 rfl 0 rfl (v := .ref (B 1)) rfl dX4_save_11 ?_
  refine lv_iload_n hx hb dX4_save_14 rfl (lv_at hl 1 rfl) ?_
  refine k_aald X hW 1 4 (b := A (2 + i) 0) rfl rfl rfl hi (by decide) rfl dX4_save_15 ?_
  refine lv_aload_n hx hb dX4_save_16 rfl (lv_at hl 0 rfl) ?_
  refine k_get X hW inG4 rfl 0 (by decide) fl_X4_10 rfl 0 rfl (v := .ref (A 0 0)) rfl dX4_save_17 ?_
  obtain ⟨u1, hu1⟩ : ∃ u1, m_X0_copyFrom_u (V (2 + i)) (V 0) = u1 := ⟨_, rfl⟩
  have hM2 := c_X0_copyFrom l D k (A (2 + i)) (A 0) (V (2 + i)) (V 0) hV.1 hV.2.1 hV.2.2.1 hV.2.2.2
  rw [hu1] at hM2
  refine kNv (As := [.ref (A 0 0)]) (rest := []) X hW hM2 yw_X0_copyFrom lkn_X4_122 ⟨Nat.le_of_ble_eq_true rfl, Nat.le_of_ble_eq_true rfl⟩ (big_pull2 (i := 2 + i) (j := 0) (by omega) (by decide) (by omega)) (big_push2 (by omega) (by decide) (by omega)) (big_rcv X hW (by omega)) rfl hl.1 rfl (Nat.le_of_ble_eq_true rfl) ⟨Nat.zero_le _, Nat.zero_le _⟩ dX4_save_20 (fun H locs hW => ?_)
  refine lv_aload_n hx hb dX4_save_23 rfl (lv_at hl 0 rfl) ?_
  refine k_get X hW inG4 rfl 3 (by decide) fl_X4_23 rfl 0 rfl (v := .ref (B 2)) rfl dX4_save_24 ?_
  refine lv_iload_n hx hb dX4_save_27 rfl (lv_at hl 1 rfl) ?_
  refine lv_iconst (v := nI 1) hx hb dX4_save_28 (by decide +kernel) ?_
  refine k_zast X hW 2 rfl rfl hi (by decide) (x' := nI 1) rfl dX4_save_29 (w' := bigW k B A (setC V (2 + i) u1) nx sz (upd sv i (nI 1)) z g) rfl (fun H locs hW => ?_)
  refine lv_aload_n hx hb dX4_save_30 rfl (lv_at hl 0 rfl) ?_
  refine k_get X hW inG4 rfl 0 (by decide) fl_X4_10 rfl 0 rfl (v := .ref (A 0 0)) rfl dX4_save_31 ?_
  have e0 : setC V (2 + i) u1 0 = V 0 := setC_n (by omega)
  refine k_getN X hW inG0 rfl 3 (by decide) fln_X4_95 rfl 7 rfl (v := .int (setC V (2 + i) u1 0 0 3)) rfl dX4_save_34 ?_
  exact hQ _ _ _ _ _ _ hW dX4_save_37 (by rw [e0]) (by rw [hu1])
