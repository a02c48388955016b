set_option maxHeartbeats 4000000 in
set_option maxRecDepth 100000 in
theorem c_X4_put (l : Launch) (D : va_G) (k : Nat → ClassId) (B : Nat → Nat) (A : Nat → Nat → Nat) (V : Nat → CS) (nx sz : Int32) (sv z g : Nat → Int32) (x : Int64) (hp : PD z) : mI l yX4_put (wsY yX4_put cX4_put 3 (some .int)) 2 D k [.ref (B 0), .long x] (bigW k B A V nx sz sv z g) (bigW k B A V nx sz sv (m_X2_append_z z x) (m_X2_append_g z g x)) (m_X2_append_r z x) := by
  refine mI_intro rfl (Nat.le_of_ble_eq_true rfl) (Or.inl rfl) ?_
  intro p e s m args below meth c P Q ls X hW hl hQ
  have hx := X.hx
  have hb := X.hb
  have hl : lv_has ls 3 [(0, .ref (B 0)), (1, .long x)] := hl
  refine lv_aload_n hx hb dX4_put_0 rfl (lv_at hl 0 rfl) ?_
  refine k_get X hW inG4 rfl 5 (by decide) fl_X4_37 rfl 0 rfl (v := .ref (B 5)) rfl dX4_put_1 ?_
  refine lv_lload_n hx hb dX4_put_4 rfl (lv_at hl 1 rfl) ?_
  refine kNi (As := [.long x]) (rest := []) X hW (c_X2_append l D k (B 5) (B 6) z g x hp) yw_X2_append lkn_X4_134 ⟨Nat.le_of_ble_eq_true rfl, Nat.le_of_ble_eq_true rfl⟩ big_pullP big_pushP (k_rcv X hW (ci := 2) (q0 := 5) rfl rfl) rfl hl.1 rfl (Nat.le_of_ble_eq_true rfl) ⟨Nat.zero_le _, Nat.zero_le _⟩ dX4_put_5 (fun H locs hW => ?_)
  exact hQ _ _ _ _ _ _ hW dX4_put_8 rfl rfl
set_option maxHeartbeats 4000000 in
set_option maxRecDepth 100000 in
theorem c_X4_wipe (l : Launch) (D : va_G) (k : Nat → ClassId) (B : Nat → Nat) (A : Nat → Nat → Nat) (V : Nat → CS) (nx sz : Int32) (sv z g : Nat → Int32)  (hp : PD z) : mI l yX4_wipe (wsY yX4_wipe cX4_wipe 1 (some .int)) 1 D k [.ref (B 0)] (bigW k B A V nx sz sv z g) (bigW k B A V nx sz sv (m_X2_clear_z z) (g)) (m_X2_clear_r z) := by
  refine mI_intro rfl (Nat.le_of_ble_eq_true rfl) (Or.inl rfl) ?_
  intro p e s m args below meth c P Q ls X hW hl hQ
  have hx := X.hx
  have hb := X.hb
  have hl : lv_has ls 1 [(0, .ref (B 0))] := hl
  refine lv_aload_n hx hb dX4_wipe_0 rfl (lv_at hl 0 rfl) ?_
  refine k_get X hW inG4 rfl 5 (by decide) fl_X4_37 rfl 0 rfl (v := .ref (B 5)) rfl dX4_wipe_1 ?_
  refine kNi (As := []) (rest := []) X hW (c_X2_clear l D k (B 5) (B 6) z g hp) yw_X2_clear lkn_X4_138 ⟨Nat.le_of_ble_eq_true rfl, Nat.le_of_ble_eq_true rfl⟩ big_pullP big_pushP (k_rcv X hW (ci := 2) (q0 := 5) rfl rfl) rfl hl.1 rfl (Nat.le_of_ble_eq_true rfl) ⟨Nat.zero_le _, Nat.zero_le _⟩ dX4_wipe_4 (fun H locs hW => ?_)
  exact hQ _ _ _ _ _ _ hW dX4_wipe_7 rfl rfl
set_option maxHeartbeats 4000000 in
set_option maxRecDepth 100000 in
theorem c_X4_fault (l : Launch) (D : va_G) (k : Nat → ClassId) (B : Nat → Nat) (A : Nat → Nat → Nat) (V : Nat → CS) (nx sz : Int32) (sv z g : Nat → Int32)  (hp : PD z) : mI l yX4_fault (wsY yX4_fault cX4_fault 1 (some .int)) 6 D k [.ref (B 0)] (bigW k B A V nx sz sv z g) (bigW k B A V nx sz sv (m_X2_firstFault_z z g) (g)) (m_X2_firstFault_r z g) := by
  refine mI_intro rfl (Nat.le_of_ble_eq_true rfl) (Or.inl rfl) ?_
  intro p e s m args below meth c P Q ls X hW hl hQ
  have hx := X.hx
  have hb := X.hb
  have hl : lv_has ls 1 [(0, .ref (B 0))] := hl
  refine lv_aload_n hx hb dX4_fault_0 rfl (lv_at hl 0 rfl) ?_
  refine k_get X hW inG4 rfl 5 (by decide) fl_X4_37 rfl 0 rfl (v := .ref (B 5)) rfl dX4_fault_1 ?_
  refine kNi (As := []) (rest := []) X hW (c_X2_firstFault l D k (B 5) (B 6) z g hp) yw_X2_firstFault lkn_X4_141 ⟨Nat.le_of_ble_eq_true rfl, Nat.le_of_ble_eq_true rfl⟩ big_pullP big_pushP (k_rcv X hW (ci := 2) (q0 := 5) rfl rfl) rfl hl.1 rfl (Nat.le_of_ble_eq_true rfl) ⟨Nat.zero_le _, Nat.zero_le _⟩ dX4_fault_4 (fun H locs hW => ?_)
  exact hQ _ _ _ _ _ _ hW dX4_fault_7 rfl rfl
set_option maxHeartbeats 4000000 in
set_option maxRecDepth 100000 in
theorem c_X4_undo0 (l : Launch) (D : va_G) (k : Nat → ClassId) (B : Nat → Nat) (A : Nat → Nat → Nat) (V : Nat → CS) (nx : Nat) (sv z g : Nat → Int32)   : mI l yX4_undo (wsY yX4_undo cX4_undo 1 (some .int)) 3 D k [.ref (B 0)] (bigW k B A V (nI nx) (nI 0) sv z g) (bigW k B A V (nI nx) (nI 0) sv z g) (-5) := by
  refine mI_intro rfl (Nat.le_of_ble_eq_true rfl) (Or.inl rfl) ?_
  intro p e s m args below meth c P Q ls X hW hl hQ
  have hx := X.hx
  have hb := X.hb
  have hl : lv_has ls 1 [(0, .ref (B 0))] := hl
  refine lv_aload_n hx hb dX4_undo_0 rfl (lv_at hl 0 rfl) ?_
  refine k_get X hW inG4 rfl 4 (by decide) fl_X4_30 rfl 0 rfl (v := .ref (B 3)) rfl dX4_undo_1 ?_
  refine lv_aload_n hx hb dX4_undo_4 rfl (lv_at hl 0 rfl) ?_
  refine k_get X hW inG4 rfl 0 (by decide) fl_X4_10 rfl 0 rfl (v := .ref (A 0 0)) rfl dX4_undo_5 ?_
  refine kNi (As := [.ref (A 0 0)]) (rest := []) (wr := []) X hW (c_X1_goBack0 l D k B A V nx sv z g) yw_X1_goBack lkn_X4_157 ⟨Nat.le_of_ble_eq_true rfl, Nat.le_of_ble_eq_true rfl⟩ (List.Perm.refl _) (List.Perm.refl _) (k_rcv X hW (ci := 1) (q0 := 3) rfl rfl) rfl hl.1 rfl (Nat.le_of_ble_eq_true rfl) ⟨Nat.zero_le _, Nat.zero_le _⟩ dX4_undo_8 (fun H locs hW => ?_)
  exact hQ _ _ _ _ _ _ hW dX4_undo_11 rfl rfl
set_option maxHeartbeats 4000000 in
set_option maxRecDepth 100000 in
theorem c_X4_undo (l : Launch) (D : va_G) (k : Nat → ClassId) (B : Nat → Nat) (A : Nat → Nat → Nat) (V : Nat → CS) (nx sz : Nat) (sv z g : Nat → Int32)  (hn : nx < 7) (h0 : 0 < sz) (hs : sz ≤ 6) (hV : OKC (V (4 + kBx nx))) : mI l yX4_undo (wsY yX4_undo cX4_undo 1 (some .int)) 3 D k [.ref (B 0)] (bigW k B A V (nI nx) (nI sz) sv z g) (bigW k B A (setC V 0 (m_X0_copyFrom_u (V 0) (V (4 + kBx nx)))) (nI (kBx nx)) (nI (sz - 1)) sv z g) (nI (sz - 1)) := by
  refine mI_intro rfl (Nat.le_of_ble_eq_true rfl) (Or.inl rfl) ?_
  intro p e s m args below meth c P Q ls X hW hl hQ
  have hx := X.hx
  have hb := X.hb
  have hl : lv_has ls 1 [(0, .ref (B 0))] := hl
  refine lv_aload_n hx hb dX4_undo_0 rfl (lv_at hl 0 rfl) ?_
  refine k_get X hW inG4 rfl 4 (by decide) fl_X4_30 rfl 0 rfl (v := .ref (B 3)) rfl dX4_undo_1 ?_
  refine lv_aload_n hx hb dX4_undo_4 rfl (lv_at hl 0 rfl) ?_
  refine k_get X hW inG4 rfl 0 (by decide) fl_X4_10 rfl 0 rfl (v := .ref (A 0 0)) rfl dX4_undo_5 ?_
  refine kNi (As := [.ref (A 0 0)]) (rest := []) (wr := []) X hW (c_X1_goBack l D k B A V nx sz sv z g hn h0 hs hV) yw_X1_goBack lkn_X4_157 ⟨Nat.le_of_ble_eq_true rfl, Nat.le_of_ble_eq_true rfl⟩ (List.Perm.refl _) (List.Perm.refl _) (k_rcv X hW (ci := 1) (q0 := 3) rfl rfl) rfl hl.1 rfl (Nat.le_of_ble_eq_true rfl) ⟨Nat.zero_le _, Nat.zero_le _⟩ dX4_undo_8 (fun H locs hW => ?_)
  exact hQ _ _ _ _ _ _ hW dX4_undo_11 rfl rfl
