set_option maxHeartbeats 4000000 in
set_option maxRecDepth 100000 in
theorem c_X4_put (l : Launch) (D : va_G) (k : Nat → ClassId) (B : Nat → Nat) (A : Nat → Nat → Nat) (V : Nat → CS) (nx sz : Int32) (sv z g : Nat → Int32) (x : Int64) (hp : PD z) : mI l yX4_put (wsY yX4_put cX4_put 3 (some .int)) 2 D k [.ref (B 0), .long x] (bigW k B A V nx sz sv z g) (bigW k B A V nx sz sv (m_X2_append_z z x) (m_X2_append_g z g x)) (m_X2_append_r z x) := by
  refine mI_intro rfl (Nat.le_of_ble_eq_true rfl) (Or.inl rfl) ?_
  intro p e s m args below meth c P Q ls X hW hl hQ
  have hx := X.hx
  have hb := X.hb
  have hl : lv_has ls 3 [(0, .ref (B 0)), (1, .long x)] := hl
  refine lv_aload_n hx hb dX4_put_0 rfl (lv_at hl 0 rfl) ?_
  refine k_get X hW inG4 rfl 5 (by decide) fl_X4_37 rfl 0 rfl (v := .ref (B 5)) rfl dX4_put_1 ?_
  refine lv_lload_n hx hb dX4_put_4 rfl (lv_at hl 1 rfl) ?_
  refine kNi (As := [.long x]) (rest := []) X hW (c_X2_append l D k (B 5) (B 6) z g x hp) yw_X2_append lkn_X4_134 ⟨Nat.le_of_ble_eq_true rfl, Nat.le_of_ble_eq_true rfl⟩ big_pullP big_pushP (k_rcv X hW (ci := 2) (q0 := 5) rfl rfl) rfl hl.1 rfl (Nat.le_of_ble_eq_true rfl) ⟨Nat.zero_le _, Nat.zero_le _⟩ dX4_put_5 (fun H locs hW => ?_)
  exact hQ _ _ _ _ _ _ hW dX4_put_8 rfl rfl
set_option maxHeartbeats 4000000 in
set_option maxRecDepth 100000 in
theorem c_X4_wipe (l : Launch) (D : va_G) (k : Nat → ClassId) (B : Nat → Nat) (A : Nat → Nat → Nat) (V : Nat → CS) (nx sz : Int32) (sv z g : Nat → Int32)  (hp : PD z) : mI l yX4_wipe (wsY yX4_wipe cX4_wipe 1 (some .int)) 1 D k [.ref (B 0)] (bigW k B A V nx sz sv z g) (bigW k B A V nx sz sv (m_X2_clear_z z) (g)) (m_X2_clear_r z) := by
  refine mI_intro rfl (Nat.le_of_ble_eq_true rfl) (Or.inl rfl) ?_
  intro p e s m args below meth c P Q ls X hW hl hQ
  have hx := X.hx
  have hb := X.hb
  have hl : lv_has ls 1 [(0, .ref (B 0))] := hl
  refine lv_aload_n hx hb dX4_wipe_0 rfl (lv_at hl 0 rfl) ?_
  refine k_get X hW inG4 rfl 5 (by decide) fl_X4_37 rfl 0 rfl (v := .ref (B 5)) rfl dX4_wipe_1 ?_
  refine kNi (As := []) (rest := []) X hW (c_X2_clear l D k (B 5) (B 6) z g hp) yw_X2_clear lkn_X4_138 ⟨Nat.le_of_ble_eq_true rfl, Nat.le_of_ble_eq_true rfl⟩ big_pullP big_pushP (k_rcv X hW (ci := 2) (q0 := 5) rfl rfl) rfl hl.1 rfl (Nat.le_of_ble_eq_true rfl) ⟨Nat.zero_le _, Nat.zero_le _⟩ dX4_wipe_4 (fun H locs hW => ?_)
  exact hQ _ _ _ _ _ _ hW dX4_wipe_7 rfl rfl
