set_option maxHeartbeats 4000000 in
set_option maxRecDepth 100000 in
theorem c_X1_prepare (l : Launch) (D : va_G) (k : Nat → ClassId) (B : Nat → Nat) (A : Nat → Nat → Nat) (V : Nat → CS) (nx : Nat) (sz : Int32) (sv z g : Nat → Int32) (hn : nx < 7) (hc : CM (V 0)) (hb0 : BB (V 0 6 4)) (hb1 : BB (V 0 7 4)) (hb2 : BB (V 0 8 4)) : mV l yX1_prepare (wsY yX1_prepare cX1_prepare 2 none) 2 D k [.ref (B 3), .ref (A 0 0)] (bigW k B A V (nI nx) sz sv z g) (bigW k B A (setC V (4 + nx) (m_X0_copyFrom_u (V (4 + nx)) (V 0))) (nI nx) sz sv z g) := by
  refine mV_intro rfl (Nat.le_of_ble_eq_true rfl) ?_
  intro p e s m args below meth c P Q ls X hW hl hQ
  have hx := X.hx
  have hb := X.hb
  have hl : lv_has ls 2 [(0, .ref (B 3)), (1, .ref (A 0 0))] := hl
  refine lv_aload_n hx hb dX1_prepare_0 rfl (lv_at hl 0 rfl) ?_
  refine k_get X hW inG1 rfl 0 (by decide) fl_X1_13 rfl 3 rfl (v := .ref (B 4)) rfl dX1_prepare_1 ?_
  refine lv_aload_n hx hb dX1_prepare_4 rfl (lv_at hl 0 rfl) ?_
  refine k_get X hW inG1 rfl 1 (by decide) fl_X1_17 rfl 3 rfl (v := .int (nI nx)) rfl dX1_prepare_5 ?_
  refine k_aald X hW 4 4 (b := A (4 + nx) 0) rfl rfl rfl hn (by decide) rfl dX1_prepare_8 ?_
  refine lv_aload_n hx hb dX1_prepare_9 rfl (lv_at hl 1 rfl) ?_
  refine kNv (As := [.ref (A 0 0)]) (rest := []) X hW (c_X0_copyFrom l D k (A (4 + nx)) (A 0) (V (4 + nx)) (V 0) hc hb0 hb1 hb2) yw_X0_copyFrom lkn_X1_25 ⟨Nat.le_of_ble_eq_true rfl, Nat.le_of_ble_eq_true rfl⟩ (big_pull2 (i := 4 + nx) (j := 0) (by omega) (by decide) (by omega)) (big_push2 (by omega) (by decide) (by omega)) (big_rcv X hW (by omega)) rfl hl.1 rfl (Nat.le_of_ble_eq_true rfl) ⟨Nat.zero_le _, Nat.zero_le _⟩ dX1_prepare_10 (fun H locs hW => ?_)
  exact hQ _ _ _ _ _ hW dX1_prepare_13 rfl
