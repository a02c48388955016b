set_option maxHeartbeats 4000000 in
set_option maxRecDepth 100000 in
theorem c_X4_restore0 (l : Launch) (D : va_G) (k : Nat → ClassId) (B : Nat → Nat) (A : Nat → Nat → Nat) (V : Nat → CS) (nx sz : Int32) (sv z g : Nat → Int32) (x : Int32) (h0 : m_X4_isSlot_r x = nI 0) : mI l yX4_restore (wsY yX4_restore cX4_restore 2 (some .int)) 3 D k [.ref (B 0), .int x] (bigW k B A V nx sz sv z g) (bigW k B A V nx sz sv z g) (-2) := by
  refine mI_intro rfl (Nat.le_of_ble_eq_true rfl) (Or.inl rfl) ?_
  intro p e s m args below meth c P Q ls X hW hl hQ
  have hx := X.hx
  have hb := X.hb
  have hl : lv_has ls 2 [(0, .ref (B 0)), (1, .int x)] := hl
  have hM := c_X4_isSlot l D k x
  rw [h0] at hM
  refine lv_iload_n hx hb dX4_restore_0 rfl (lv_at hl 1 rfl) ?_
  refine kSi (As := [.int x]) (rest := []) X hW hM yw_X4_isSlot lk_X4_161 ⟨Nat.le_of_ble_eq_true rfl, Nat.le_of_ble_eq_true rfl⟩ rfl hl.1 rfl (Nat.le_of_ble_eq_true rfl) ⟨Nat.zero_le _, Nat.zero_le _⟩ dX4_restore_1 (fun H locs hW => ?_)
  refine lv_if_ne (tgt := 10) hx hb dX4_restore_4 (by decide) (fun c_1 => absurd rfl c_1) (fun _ => ?_)
  refine lv_bipush (v := (-2)) hx hb dX4_restore_7 (by decide +kernel) ?_
  exact hQ _ _ _ _ _ _ hW dX4_restore_9 rfl rfl
set_option maxHeartbeats 4000000 in
set_option maxRecDepth 100000 in
theorem c_X4_restore1 (l : Launch) (D : va_G) (k : Nat → ClassId) (B : Nat → Nat) (A : Nat → Nat → Nat) (V : Nat → CS) (nx sz : Int32) (sv z g : Nat → Int32) (i : Nat) (hi : i < 2) (h0 : sv i = nI 0) : mI l yX4_restore (wsY yX4_restore cX4_restore 2 (some .int)) 3 D k [.ref (B 0), .int (nI i)] (bigW k B A V nx sz sv z g) (bigW k B A V nx sz sv z g) (-5) := by
  refine mI_intro rfl (Nat.le_of_ble_eq_true rfl) (Or.inl rfl) ?_
  intro p e s m args below meth c P Q ls X hW hl hQ
  have hx := X.hx
  have hb := X.hb
  have hl : lv_has ls 2 [(0, .ref (B 0)), (1, .int (nI i))] := hl
  have hM := c_X4_isSlot l D k (nI i)
  rw [slot_in hi] at hM
  refine lv_iload_n hx hb dX4_restore_0 rfl (lv_at hl 1 rfl) ?_
  refine kSi (As := [.int (nI i)]) (rest := []) X hW hM yw_X4_isSlot lk_X4_161 ⟨Nat.le_of_ble_eq_true rfl, Nat.le_of_ble_eq_true rfl⟩ rfl hl.1 rfl (Nat.le_of_ble_eq_true rfl) ⟨Nat.zero_le _, Nat.zero_le _⟩ dX4_restore_1 (fun H locs hW => ?_)
  refine lv_if_ne (tgt := 10) hx hb dX4_restore_4 (by decide) (fun _ => ?_) (fun c_1 => absurd c_1 (by decide +kernel))
  refine lv_aload_n hx hb dX4_restore_10 rfl (lv_at hl 0 rfl) ?_
  refine k_get X hW inG4 rfl 3 (by decide) fl_X4_23 rfl 0 rfl (v := .ref (B 2)) rfl dX4_restore_11 ?_
  refine lv_iload_n hx hb dX4_restore_14 rfl (lv_at hl 1 rfl) ?_
  refine k_zald X hW 2 rfl rfl hi (by decide) h0 dX4_restore_15 ?_
  refine lv_if_ne (tgt := 22) hx hb dX4_restore_16 (by decide) (fun c_1 => absurd rfl c_1) (fun _ => ?_)
  refine lv_bipush (v := (-5)) hx hb dX4_restore_19 (by decide +kernel) ?_
  exact hQ _ _ _ _ _ _ hW dX4_restore_21 rfl rfl
