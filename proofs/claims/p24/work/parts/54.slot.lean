def m_X4_isSlot_r (x : Int32) : Int32 := if x < 0 then nI 0 else if nI 2 ≤ x then nI 0 else nI 1
set_option maxHeartbeats 4000000 in
set_option maxRecDepth 100000 in
theorem c_X4_isSlot (l : Launch) (D : va_G) (k : Nat → ClassId)   (x : Int32)  : mI l yX4_isSlot (wsY yX4_isSlot cX4_isSlot 1 (some .boolean)) 0 D k [.int x] [] [] (m_X4_isSlot_r x) := by
  refine mI_intro rfl (Nat.le_of_ble_eq_true rfl) (Or.inr ⟨rfl, by rw [m_X4_isSlot_r]; exact (nb_ite rfl (nb_ite rfl rfl))⟩) ?_
  intro p e s m args below meth c A Q ls X hW hl hQ
  have hx := X.hx
  have hb := X.hb
  have hl : lv_has ls 1 [(0, .int x)] := hl
  refine lv_iload_n hx hb dX4_isSlot_0 rfl (lv_at hl 0 rfl) ?_
  refine lv_if_lt (tgt := 13) hx hb dX4_isSlot_1 (by decide) (fun c_1 => ?_) (fun c_1 => ?_)
  · refine lv_iconst (v := nI 0) hx hb dX4_isSlot_13 (by decide +kernel) ?_
    exact hQ _ _ _ _ _ _ hW dX4_isSlot_14 (by rw [m_X4_isSlot_r, if_pos c_1]) rfl
  · refine lv_iload_n hx hb dX4_isSlot_4 rfl (lv_at hl 0 rfl) ?_
    refine lv_iconst (v := nI 2) hx hb dX4_isSlot_5 (by decide +kernel) ?_
    refine lv_icmp_ge (tgt := 13) hx hb dX4_isSlot_6 (by decide) (fun c_2 => ?_) (fun c_2 => ?_)
    · refine lv_iconst (v := nI 0) hx hb dX4_isSlot_13 (by decide +kernel) ?_
      exact hQ _ _ _ _ _ _ hW dX4_isSlot_14 (by rw [m_X4_isSlot_r, if_neg c_1, if_pos c_2]) rfl
    · refine lv_iconst (v := nI 1) hx hb dX4_isSlot_9 (by decide +kernel) ?_
      refine lv_goto (tgt := 14) hx hb dX4_isSlot_10 (by decide) ?_
      exact hQ _ _ _ _ _ _ hW dX4_isSlot_14 (by rw [m_X4_isSlot_r, if_neg c_1, if_neg c_2]) rfl
