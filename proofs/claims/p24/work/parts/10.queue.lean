def m_X3_isCalled_r (q : Nat → Int32) : Int32 := if q 3 = (-1) then nI 0 else nI 1
set_option maxHeartbeats 4000000 in
set_option maxRecDepth 100000 in
theorem c_X3_isCalled (l : Launch) (D : va_G) (k : Nat → ClassId) (b : Nat) (q : Nat → Int32)   : mI l yX3_isCalled (wsY yX3_isCalled cX3_isCalled 1 (some .boolean)) 0 D k [.ref b] [qC b q] [qC b q] (m_X3_isCalled_r q) := by
  refine mI_intro rfl (Nat.le_of_ble_eq_true rfl) (Or.inr ⟨rfl, by rw [m_X3_isCalled_r]; exact (nb_ite rfl rfl)⟩) ?_
  intro p e s m args below meth c A Q ls X hW hl hQ
  have hx := X.hx
  have hb := X.hb
  have hl : lv_has ls 1 [(0, .ref b)] := hl
  refine lv_aload_n hx hb dX3_isCalled_0 rfl (lv_at hl 0 rfl) ?_
  refine k_get X hW inG3 rfl 3 (by decide) fl_X3_21 rfl 0 rfl (v := .int (q 3)) rfl dX3_isCalled_1 ?_
  refine lv_iconst (v := (-1)) hx hb dX3_isCalled_4 (by decide +kernel) ?_
  refine lv_icmp_eq (tgt := 12) hx hb dX3_isCalled_5 (by decide) (fun c_1 => ?_) (fun c_1 => ?_)
  · refine lv_iconst (v := nI 0) hx hb dX3_isCalled_12 (by decide +kernel) ?_
    exact hQ _ _ _ _ _ _ hW dX3_isCalled_13 (by rw [m_X3_isCalled_r, if_pos c_1]) rfl
  · refine lv_iconst (v := nI 1) hx hb dX3_isCalled_8 (by decide +kernel) ?_
    refine lv_goto (tgt := 13) hx hb dX3_isCalled_9 (by decide) ?_
    exact hQ _ _ _ _ _ _ hW dX3_isCalled_13 (by rw [m_X3_isCalled_r, if_neg c_1]) rfl
def m_X3_noteTaken_q (q : Nat → Int32) (t : Int32) : Nat → Int32 := if t ≤ q 11 then upd (upd (upd (upd (upd q 5 ((q 5) - (nI 1))) 8 ((q 8) + (nI 1))) 12 ((q 12) + (nI 1))) 10 ((q 10) + t)) 11 (q 11) else upd (upd (upd (upd (upd q 5 ((q 5) - (nI 1))) 8 ((q 8) + (nI 1))) 12 ((q 12) + (nI 1))) 10 ((q 10) + t)) 11 t
set_option maxHeartbeats 4000000 in
set_option maxRecDepth 100000 in
theorem c_X3_noteTaken (l : Launch) (D : va_G) (k : Nat → ClassId) (b : Nat) (q : Nat → Int32) (t : Int32)  : mV l yX3_noteTaken (wsY yX3_noteTaken cX3_noteTaken 2 none) 1 D k [.ref b, .int t] [qC b q] [qC b (m_X3_noteTaken_q q t)] := by
  refine mV_intro rfl (Nat.le_of_ble_eq_true rfl) ?_
  intro p e s m args below meth c A Q ls X hW hl hQ
  have hx := X.hx
  have hb := X.hb
  have hl : lv_has ls 2 [(0, .ref b), (1, .int t)] := hl
  refine lv_aload_n hx hb dX3_noteTaken_0 rfl (lv_at hl 0 rfl) ?_
  refine lv_dup hx hb dX3_noteTaken_1 rfl ?_
  refine k_get X hW inG3 rfl 5 (by decide) fl_X3_28 rfl 0 rfl (v := .int (q 5)) rfl dX3_noteTaken_2 ?_
  refine lv_iconst (v := nI 1) hx hb dX3_noteTaken_5 (by decide +kernel) ?_
  refine lv_isub hx hb dX3_noteTaken_6 ?_
  refine k_put X hW inG3 rfl tyX3_ok nmX3 5 (by decide) fl_X3_28 rfl rfl 0 rfl rfl rfl (Nat.le_of_ble_eq_true rfl) dX3_noteTaken_7 (w' := [qC b (upd q 5 ((q 5) - (nI 1)))]) rfl (fun H locs hW => ?_)
  refine lv_aload_n hx hb dX3_noteTaken_10 rfl (lv_at hl 0 rfl) ?_
  refine lv_dup hx hb dX3_noteTaken_11 rfl ?_
  refine k_get X hW inG3 rfl 8 (by decide) fl_X3_37 rfl 0 rfl (v := .int (q 8)) rfl dX3_noteTaken_12 ?_
  refine lv_iconst (v := nI 1) hx hb dX3_noteTaken_15 (by decide +kernel) ?_
  refine lv_iadd hx hb dX3_noteTaken_16 ?_
  refine k_put X hW inG3 rfl tyX3_ok nmX3 8 (by decide) fl_X3_37 rfl rfl 0 rfl rfl rfl (Nat.le_of_ble_eq_true rfl) dX3_noteTaken_17 (w' := [qC b (upd (upd q 5 ((q 5) - (nI 1))) 8 ((q 8) + (nI 1)))]) rfl (fun H locs hW => ?_)
  refine lv_aload_n hx hb dX3_noteTaken_20 rfl (lv_at hl 0 rfl) ?_
  refine lv_dup hx hb dX3_noteTaken_21 rfl ?_
  refine k_get X hW inG3 rfl 12 (by decide) fl_X3_49 rfl 0 rfl (v := .int (q 12)) rfl dX3_noteTaken_22 ?_
  refine lv_iconst (v := nI 1) hx hb dX3_noteTaken_25 (by decide +kernel) ?_
  refine lv_iadd hx hb dX3_noteTaken_26 ?_
  refine k_put X hW inG3 rfl tyX3_ok nmX3 12 (by decide) fl_X3_49 rfl rfl 0 rfl rfl rfl (Nat.le_of_ble_eq_true rfl) dX3_noteTaken_27 (w' := [qC b (upd (upd (upd q 5 ((q 5) - (nI 1))) 8 ((q 8) + (nI 1))) 12 ((q 12) + (nI 1)))]) rfl (fun H locs hW => ?_)
  refine lv_aload_n hx hb dX3_noteTaken_30 rfl (lv_at hl 0 rfl) ?_
  refine lv_dup hx hb dX3_noteTaken_31 rfl ?_
  refine k_get X hW inG3 rfl 10 (by decide) fl_X3_43 rfl 0 rfl (v := .int (q 10)) rfl dX3_noteTaken_32 ?_
  refine lv_iload_n hx hb dX3_noteTaken_35 rfl (lv_at hl 1 rfl) ?_
  refine lv_iadd hx hb dX3_noteTaken_36 ?_
  refine k_put X hW inG3 rfl tyX3_ok nmX3 10 (by decide) fl_X3_43 rfl rfl 0 rfl rfl rfl (Nat.le_of_ble_eq_true rfl) dX3_noteTaken_37 (w' := [qC b (upd (upd (upd (upd q 5 ((q 5) - (nI 1))) 8 ((q 8) + (nI 1))) 12 ((q 12) + (nI 1))) 10 ((q 10) + t))]) rfl (fun H locs hW => ?_)
  refine lv_aload_n hx hb dX3_noteTaken_40 rfl (lv_at hl 0 rfl) ?_
  refine lv_iload_n hx hb dX3_noteTaken_41 rfl (lv_at hl 1 rfl) ?_
  refine lv_aload_n hx hb dX3_noteTaken_42 rfl (lv_at hl 0 rfl) ?_
  refine k_get X hW inG3 rfl 11 (by decide) fl_X3_46 rfl 0 rfl (v := .int (q 11)) rfl dX3_noteTaken_43 ?_
  refine lv_icmp_le (tgt := 53) hx hb dX3_noteTaken_46 (by decide) (fun c_1 => ?_) (fun c_1 => ?_)
  · refine lv_aload_n hx hb dX3_noteTaken_53 rfl (lv_at hl 0 rfl) ?_
    refine k_get X hW inG3 rfl 11 (by decide) fl_X3_46 rfl 0 rfl (v := .int (q 11)) rfl dX3_noteTaken_54 ?_
    refine k_put X hW inG3 rfl tyX3_ok nmX3 11 (by decide) fl_X3_46 rfl rfl 0 rfl rfl rfl (Nat.le_of_ble_eq_true rfl) dX3_noteTaken_57 (w' := [qC b (upd (upd (upd (upd (upd q 5 ((q 5) - (nI 1))) 8 ((q 8) + (nI 1))) 12 ((q 12) + (nI 1))) 10 ((q 10) + t)) 11 (q 11))]) rfl (fun H locs hW => ?_)
    exact hQ _ _ _ _ _ hW dX3_noteTaken_60 (by rw [m_X3_noteTaken_q, if_pos c_1])
  · refine lv_iload_n hx hb dX3_noteTaken_49 rfl (lv_at hl 1 rfl) ?_
    refine lv_goto (tgt := 57) hx hb dX3_noteTaken_50 (by decide) ?_
    refine k_put X hW inG3 rfl tyX3_ok nmX3 11 (by decide) fl_X3_46 rfl rfl 0 rfl rfl rfl (Nat.le_of_ble_eq_true rfl) dX3_noteTaken_57 (w' := [qC b (upd (upd (upd (upd (upd q 5 ((q 5) - (nI 1))) 8 ((q 8) + (nI 1))) 12 ((q 12) + (nI 1))) 10 ((q 10) + t)) 11 t)]) rfl (fun H locs hW => ?_)
    exact hQ _ _ _ _ _ hW dX3_noteTaken_60 (by rw [m_X3_noteTaken_q, if_neg c_1])
def m_X3_becomeIdle_q (q : Nat → Int32) (fo : Int32) : Nat → Int32 := if fo = 0 then upd q 12 (nI 0) else if q 12 ≤ (nI 2) * (q 2) then (if q 2 ≤ (nI 2) * (q 12) then upd q 12 (nI 0) else upd (upd q 2 (if (q 2) / (nI 2) < nI 1 then nI 1 else (q 2) / (nI 2))) 12 (nI 0)) else upd (upd q 2 (if nI 32 < (nI 2) * (q 2) then nI 32 else (nI 2) * (q 2))) 12 (nI 0)
set_option maxHeartbeats 4000000 in
set_option maxRecDepth 100000 in
theorem c_X3_becomeIdle (l : Launch) (D : va_G) (k : Nat → ClassId) (b : Nat) (q : Nat → Int32) (fo : Int32)  : mV l yX3_becomeIdle (wsY yX3_becomeIdle cX3_becomeIdle 2 none) 1 D k [.ref b, .int fo] [qC b q] [qC b (m_X3_becomeIdle_q q fo)] := by
  refine mV_intro rfl (Nat.le_of_ble_eq_true rfl) ?_
  intro p e s m args below meth c A Q ls X hW hl hQ
  have hx := X.hx
  have hb := X.hb
  have hl : lv_has ls 2 [(0, .ref b), (1, .int fo)] := hl
  refine lv_iload_n hx hb dX3_becomeIdle_0 rfl (lv_at hl 1 rfl) ?_
  refine lv_if_eq (tgt := 35) hx hb dX3_becomeIdle_1 (by decide) (fun c_1 => ?_) (fun c_1 => ?_)
  · refine lv_iload_n hx hb dX3_becomeIdle_35 rfl (lv_at hl 1 rfl) ?_
    refine lv_if_eq (tgt := 66) hx hb dX3_becomeIdle_36 (by decide) (fun c_2 => ?_) (fun c_2 => ?_)
    · refine lv_aload_n hx hb dX3_becomeIdle_66 rfl (lv_at hl 0 rfl) ?_
      refine lv_iconst (v := nI 0) hx hb dX3_becomeIdle_67 (by decide +kernel) ?_
      refine k_put X hW inG3 rfl tyX3_ok nmX3 12 (by decide) fl_X3_49 rfl rfl 0 rfl rfl rfl (Nat.le_of_ble_eq_true rfl) dX3_becomeIdle_68 (w' := [qC b (upd q 12 (nI 0))]) rfl (fun H locs hW => ?_)
      exact hQ _ _ _ _ _ hW dX3_becomeIdle_71 (by rw [m_X3_becomeIdle_q, if_pos c_1])
    · exact absurd c_1 c_2
  · refine lv_aload_n hx hb dX3_becomeIdle_4 rfl (lv_at hl 0 rfl) ?_
    refine k_get X hW inG3 rfl 12 (by decide) fl_X3_49 rfl 0 rfl (v := .int (q 12)) rfl dX3_becomeIdle_5 ?_
    refine lv_iconst (v := nI 2) hx hb dX3_becomeIdle_8 (by decide +kernel) ?_
    refine lv_aload_n hx hb dX3_becomeIdle_9 rfl (lv_at hl 0 rfl) ?_
    refine k_get X hW inG3 rfl 2 (by decide) fl_X3_18 rfl 0 rfl (v := .int (q 2)) rfl dX3_becomeIdle_10 ?_
    refine lv_imul hx hb dX3_becomeIdle_13 ?_
    refine lv_icmp_le (tgt := 35) hx hb dX3_becomeIdle_14 (by decide) (fun c_3 => ?_) (fun c_3 => ?_)
    · refine lv_iload_n hx hb dX3_becomeIdle_35 rfl (lv_at hl 1 rfl) ?_
      refine lv_if_eq (tgt := 66) hx hb dX3_becomeIdle_36 (by decide) (fun c_4 => ?_) (fun c_4 => ?_)
      · exact absurd c_4 c_1
      · refine lv_iconst (v := nI 2) hx hb dX3_becomeIdle_39 (by decide +kernel) ?_
        refine lv_aload_n hx hb dX3_becomeIdle_40 rfl (lv_at hl 0 rfl) ?_
        refine k_get X hW inG3 rfl 12 (by decide) fl_X3_49 rfl 0 rfl (v := .int (q 12)) rfl dX3_becomeIdle_41 ?_
        refine lv_imul hx hb dX3_becomeIdle_44 ?_
        refine lv_aload_n hx hb dX3_becomeIdle_45 rfl (lv_at hl 0 rfl) ?_
        refine k_get X hW inG3 rfl 2 (by decide) fl_X3_18 rfl 0 rfl (v := .int (q 2)) rfl dX3_becomeIdle_46 ?_
        refine lv_icmp_ge (tgt := 66) hx hb dX3_becomeIdle_49 (by decide) (fun c_5 => ?_) (fun c_5 => ?_)
        · refine lv_aload_n hx hb dX3_becomeIdle_66 rfl (lv_at hl 0 rfl) ?_
          refine lv_iconst (v := nI 0) hx hb dX3_becomeIdle_67 (by decide +kernel) ?_
          refine k_put X hW inG3 rfl tyX3_ok nmX3 12 (by decide) fl_X3_49 rfl rfl 0 rfl rfl rfl (Nat.le_of_ble_eq_true rfl) dX3_becomeIdle_68 (w' := [qC b (upd q 12 (nI 0))]) rfl (fun H locs hW => ?_)
          exact hQ _ _ _ _ _ hW dX3_becomeIdle_71 (by rw [m_X3_becomeIdle_q, if_neg c_1, if_pos c_3, if_pos c_5])
        · refine lv_aload_n hx hb dX3_becomeIdle_52 rfl (lv_at hl 0 rfl) ?_
          refine lv_aload_n hx hb dX3_becomeIdle_53 rfl (lv_at hl 0 rfl) ?_
          refine k_get X hW inG3 rfl 2 (by decide) fl_X3_18 rfl 0 rfl (v := .int (q 2)) rfl dX3_becomeIdle_54 ?_
          refine lv_iconst (v := nI 2) hx hb dX3_becomeIdle_57 (by decide +kernel) ?_
          refine lv_idiv hx hb dX3_becomeIdle_58 (by decide +kernel) ?_
          refine lv_iconst (v := nI 1) hx hb dX3_becomeIdle_59 (by decide +kernel) ?_
          refine va_mmax hx hb (by rw [X.hml]; exact hl.1.symm) X.hown (X.wd lk_X3_58) (X.wd st_max) (X.wd ini_Math) (X.wd cd_max) (Nat.le_of_ble_eq_true rfl) (Nat.le_of_ble_eq_true rfl) (Nat.zero_le _) (Nat.zero_le _) dX3_becomeIdle_60 ?_
          refine k_put X hW inG3 rfl tyX3_ok nmX3 2 (by decide) fl_X3_18 rfl rfl 0 rfl rfl rfl (Nat.le_of_ble_eq_true rfl) dX3_becomeIdle_63 (w' := [qC b (upd q 2 (if (q 2) / (nI 2) < nI 1 then nI 1 else (q 2) / (nI 2)))]) rfl (fun H locs hW => ?_)
          refine lv_aload_n hx hb dX3_becomeIdle_66 rfl (lv_at hl 0 rfl) ?_
          refine lv_iconst (v := nI 0) hx hb dX3_becomeIdle_67 (by decide +kernel) ?_
          refine k_put X hW inG3 rfl tyX3_ok nmX3 12 (by decide) fl_X3_49 rfl rfl 0 rfl rfl rfl (Nat.le_of_ble_eq_true rfl) dX3_becomeIdle_68 (w' := [qC b (upd (upd q 2 (if (q 2) / (nI 2) < nI 1 then nI 1 else (q 2) / (nI 2))) 12 (nI 0))]) rfl (fun H locs hW => ?_)
          exact hQ _ _ _ _ _ hW dX3_becomeIdle_71 (by rw [m_X3_becomeIdle_q, if_neg c_1, if_pos c_3, if_neg c_5])
    · refine lv_aload_n hx hb dX3_becomeIdle_17 rfl (lv_at hl 0 rfl) ?_
      refine lv_iconst (v := nI 2) hx hb dX3_becomeIdle_18 (by decide +kernel) ?_
      refine lv_aload_n hx hb dX3_becomeIdle_19 rfl (lv_at hl 0 rfl) ?_
      refine k_get X hW inG3 rfl 2 (by decide) fl_X3_18 rfl 0 rfl (v := .int (q 2)) rfl dX3_becomeIdle_20 ?_
      refine lv_imul hx hb dX3_becomeIdle_23 ?_
      refine lv_bipush (v := nI 32) hx hb dX3_becomeIdle_24 (by decide +kernel) ?_
      refine va_mmin hx hb (by rw [X.hml]; exact hl.1.symm) X.hown (X.wd lk_X3_52) (X.wd st_min) (X.wd ini_Math) (X.wd cd_min) (Nat.le_of_ble_eq_true rfl) (Nat.le_of_ble_eq_true rfl) (Nat.zero_le _) (Nat.zero_le _) dX3_becomeIdle_26 ?_
      refine k_put X hW inG3 rfl tyX3_ok nmX3 2 (by decide) fl_X3_18 rfl rfl 0 rfl rfl rfl (Nat.le_of_ble_eq_true rfl) dX3_becomeIdle_29 (w' := [qC b (upd q 2 (if nI 32 < (nI 2) * (q 2) then nI 32 else (nI 2) * (q 2)))]) rfl (fun H locs hW => ?_)
      refine lv_goto (tgt := 66) hx hb dX3_becomeIdle_32 (by decide) ?_
      refine lv_aload_n hx hb dX3_becomeIdle_66 rfl (lv_at hl 0 rfl) ?_
      refine lv_iconst (v := nI 0) hx hb dX3_becomeIdle_67 (by decide +kernel) ?_
      refine k_put X hW inG3 rfl tyX3_ok nmX3 12 (by decide) fl_X3_49 rfl rfl 0 rfl rfl rfl (Nat.le_of_ble_eq_true rfl) dX3_becomeIdle_68 (w' := [qC b (upd (upd q 2 (if nI 32 < (nI 2) * (q 2) then nI 32 else (nI 2) * (q 2))) 12 (nI 0))]) rfl (fun H locs hW => ?_)
      exact hQ _ _ _ _ _ hW dX3_becomeIdle_71 (by rw [m_X3_becomeIdle_q, if_neg c_1, if_neg c_3])
def m_X3_fact_r (q : Nat → Int32) (x : Int32) : Int32 := if x = nI 0 then q 0 else if x = nI 1 then q 1 else if x = nI 2 then q 2 else if x = nI 3 then q 5 else if x = nI 4 then (if (m_X3_isCalled_r q) = 0 then nI 0 else nI 1) else if x = nI 5 then (if q 4 = 0 then nI 0 else nI 1) else if x = nI 6 then q 7 else if x = nI 7 then q 8 else if x = nI 8 then q 9 else if x = nI 9 then q 10 else if x = nI 10 then q 11 else if x = nI 11 then q 12 else if x = nI 12 then q 6 else (-2)
set_option maxHeartbeats 4000000 in
set_option maxRecDepth 100000 in
theorem c_X3_fact (l : Launch) (D : va_G) (k : Nat → ClassId) (b : Nat) (q : Nat → Int32) (x : Int32)  : mI l yX3_fact (wsY yX3_fact cX3_fact 2 (some .int)) 1 D k [.ref b, .int x] [qC b q] [qC b q] (m_X3_fact_r q x) := by
  refine mI_intro rfl (Nat.le_of_ble_eq_true rfl) (Or.inl rfl) ?_
  intro p e s m args below meth c A Q ls X hW hl hQ
  have hx := X.hx
  have hb := X.hb
  have hl : lv_has ls 2 [(0, .ref b), (1, .int x)] := hl
  refine lv_iload_n hx hb dX3_fact_0 rfl (lv_at hl 1 rfl) ?_
  by_cases c_2 : x = nI 0
  · refine lv_tableIn (off := 67) (tgt := 68) hx hb dX3_fact_1 (by rw [c_2]; decide +kernel) (by rw [c_2]; decide +kernel) (by rw [c_2]; decide +kernel) (by decide) ?_
    refine lv_aload_n hx hb dX3_fact_68 rfl (lv_at hl 0 rfl) ?_
    refine k_get X hW inG3 rfl 0 (by decide) fl_X3_9 rfl 0 rfl (v := .int (q 0)) rfl dX3_fact_69 ?_
    exact hQ _ _ _ _ _ _ hW dX3_fact_72 (by rw [m_X3_fact_r, if_pos c_2]) rfl
  by_cases c_3 : x = nI 1
  · refine lv_tableIn (off := 72) (tgt := 73) hx hb dX3_fact_1 (by rw [c_3]; decide +kernel) (by rw [c_3]; decide +kernel) (by rw [c_3]; decide +kernel) (by decide) ?_
    refine lv_aload_n hx hb dX3_fact_73 rfl (lv_at hl 0 rfl) ?_
    refine k_get X hW inG3 rfl 1 (by decide) fl_X3_15 rfl 0 rfl (v := .int (q 1)) rfl dX3_fact_74 ?_
    exact hQ _ _ _ _ _ _ hW dX3_fact_77 (by rw [m_X3_fact_r, if_neg c_2, if_pos c_3]) rfl
  by_cases c_4 : x = nI 2
  · refine lv_tableIn (off := 77) (tgt := 78) hx hb dX3_fact_1 (by rw [c_4]; decide +kernel) (by rw [c_4]; decide +kernel) (by rw [c_4]; decide +kernel) (by decide) ?_
    refine lv_aload_n hx hb dX3_fact_78 rfl (lv_at hl 0 rfl) ?_
    refine k_get X hW inG3 rfl 2 (by decide) fl_X3_18 rfl 0 rfl (v := .int (q 2)) rfl dX3_fact_79 ?_
    exact hQ _ _ _ _ _ _ hW dX3_fact_82 (by rw [m_X3_fact_r, if_neg c_2, if_neg c_3, if_pos c_4]) rfl
  by_cases c_5 : x = nI 3
  · refine lv_tableIn (off := 82) (tgt := 83) hx hb dX3_fact_1 (by rw [c_5]; decide +kernel) (by rw [c_5]; decide +kernel) (by rw [c_5]; decide +kernel) (by decide) ?_
    refine lv_aload_n hx hb dX3_fact_83 rfl (lv_at hl 0 rfl) ?_
    refine k_get X hW inG3 rfl 5 (by decide) fl_X3_28 rfl 0 rfl (v := .int (q 5)) rfl dX3_fact_84 ?_
    exact hQ _ _ _ _ _ _ hW dX3_fact_87 (by rw [m_X3_fact_r, if_neg c_2, if_neg c_3, if_neg c_4, if_pos c_5]) rfl
  by_cases c_6 : x = nI 4
  · refine lv_tableIn (off := 87) (tgt := 88) hx hb dX3_fact_1 (by rw [c_6]; decide +kernel) (by rw [c_6]; decide +kernel) (by rw [c_6]; decide +kernel) (by decide) ?_
    refine lv_aload_n hx hb dX3_fact_88 rfl (lv_at hl 0 rfl) ?_
    obtain ⟨z_7, hz_7⟩ : ∃ zq, m_X3_isCalled_r q = zq := ⟨_, rfl⟩
    have hM_8 := (c_X3_isCalled l D k b q )
    rw [hz_7] at hM_8
    refine kVi (As := []) (rest := []) X hW hM_8 yw_X3_isCalled lk_X3_61 ⟨Nat.le_of_ble_eq_true rfl, Nat.le_of_ble_eq_true rfl⟩ (wr := []) (List.Perm.refl _) (w' := [qC b q]) (List.Perm.refl _) (k_rcv X hW (ci := 3) (q0 := 0) rfl rfl) rfl hl.1 rfl (Nat.le_of_ble_eq_true rfl) ⟨Nat.zero_le _, Nat.zero_le _⟩ dX3_fact_89 (fun H locs hW => ?_)
    refine lv_if_eq (tgt := 99) hx hb dX3_fact_92 (by decide) (fun c_9 => ?_) (fun c_9 => ?_)
    · refine lv_iconst (v := nI 0) hx hb dX3_fact_99 (by decide +kernel) ?_
      exact hQ _ _ _ _ _ _ hW dX3_fact_100 (by subst hz_7; rw [m_X3_fact_r, if_neg c_2, if_neg c_3, if_neg c_4, if_neg c_5, if_pos c_6, if_pos c_9]) rfl
    · refine lv_iconst (v := nI 1) hx hb dX3_fact_95 (by decide +kernel) ?_
      refine lv_goto (tgt := 100) hx hb dX3_fact_96 (by decide) ?_
      exact hQ _ _ _ _ _ _ hW dX3_fact_100 (by subst hz_7; rw [m_X3_fact_r, if_neg c_2, if_neg c_3, if_neg c_4, if_neg c_5, if_pos c_6, if_neg c_9]) rfl
  by_cases c_10 : x = nI 5
  · refine lv_tableIn (off := 100) (tgt := 101) hx hb dX3_fact_1 (by rw [c_10]; decide +kernel) (by rw [c_10]; decide +kernel) (by rw [c_10]; decide +kernel) (by decide) ?_
    refine lv_aload_n hx hb dX3_fact_101 rfl (lv_at hl 0 rfl) ?_
    refine k_get X hW inG3 rfl 4 (by decide) fl_X3_24 rfl 0 rfl (v := .int (q 4)) rfl dX3_fact_102 ?_
    refine lv_if_eq (tgt := 112) hx hb dX3_fact_105 (by decide) (fun c_11 => ?_) (fun c_11 => ?_)
    · refine lv_iconst (v := nI 0) hx hb dX3_fact_112 (by decide +kernel) ?_
      exact hQ _ _ _ _ _ _ hW dX3_fact_113 (by rw [m_X3_fact_r, if_neg c_2, if_neg c_3, if_neg c_4, if_neg c_5, if_neg c_6, if_pos c_10, if_pos c_11]) rfl
    · refine lv_iconst (v := nI 1) hx hb dX3_fact_108 (by decide +kernel) ?_
      refine lv_goto (tgt := 113) hx hb dX3_fact_109 (by decide) ?_
      exact hQ _ _ _ _ _ _ hW dX3_fact_113 (by rw [m_X3_fact_r, if_neg c_2, if_neg c_3, if_neg c_4, if_neg c_5, if_neg c_6, if_pos c_10, if_neg c_11]) rfl
  by_cases c_12 : x = nI 6
  · refine lv_tableIn (off := 113) (tgt := 114) hx hb dX3_fact_1 (by rw [c_12]; decide +kernel) (by rw [c_12]; decide +kernel) (by rw [c_12]; decide +kernel) (by decide) ?_
    refine lv_aload_n hx hb dX3_fact_114 rfl (lv_at hl 0 rfl) ?_
    refine k_get X hW inG3 rfl 7 (by decide) fl_X3_34 rfl 0 rfl (v := .int (q 7)) rfl dX3_fact_115 ?_
    exact hQ _ _ _ _ _ _ hW dX3_fact_118 (by rw [m_X3_fact_r, if_neg c_2, if_neg c_3, if_neg c_4, if_neg c_5, if_neg c_6, if_neg c_10, if_pos c_12]) rfl
  by_cases c_13 : x = nI 7
  · refine lv_tableIn (off := 118) (tgt := 119) hx hb dX3_fact_1 (by rw [c_13]; decide +kernel) (by rw [c_13]; decide +kernel) (by rw [c_13]; decide +kernel) (by decide) ?_
    refine lv_aload_n hx hb dX3_fact_119 rfl (lv_at hl 0 rfl) ?_
    refine k_get X hW inG3 rfl 8 (by decide) fl_X3_37 rfl 0 rfl (v := .int (q 8)) rfl dX3_fact_120 ?_
    exact hQ _ _ _ _ _ _ hW dX3_fact_123 (by rw [m_X3_fact_r, if_neg c_2, if_neg c_3, if_neg c_4, if_neg c_5, if_neg c_6, if_neg c_10, if_neg c_12, if_pos c_13]) rfl
  by_cases c_14 : x = nI 8
  · refine lv_tableIn (off := 123) (tgt := 124) hx hb dX3_fact_1 (by rw [c_14]; decide +kernel) (by rw [c_14]; decide +kernel) (by rw [c_14]; decide +kernel) (by decide) ?_
    refine lv_aload_n hx hb dX3_fact_124 rfl (lv_at hl 0 rfl) ?_
    refine k_get X hW inG3 rfl 9 (by decide) fl_X3_40 rfl 0 rfl (v := .int (q 9)) rfl dX3_fact_125 ?_
    exact hQ _ _ _ _ _ _ hW dX3_fact_128 (by rw [m_X3_fact_r, if_neg c_2, if_neg c_3, if_neg c_4, if_neg c_5, if_neg c_6, if_neg c_10, if_neg c_12, if_neg c_13, if_pos c_14]) rfl
  by_cases c_15 : x = nI 9
  · refine lv_tableIn (off := 128) (tgt := 129) hx hb dX3_fact_1 (by rw [c_15]; decide +kernel) (by rw [c_15]; decide +kernel) (by rw [c_15]; decide +kernel) (by decide) ?_
    refine lv_aload_n hx hb dX3_fact_129 rfl (lv_at hl 0 rfl) ?_
    refine k_get X hW inG3 rfl 10 (by decide) fl_X3_43 rfl 0 rfl (v := .int (q 10)) rfl dX3_fact_130 ?_
    exact hQ _ _ _ _ _ _ hW dX3_fact_133 (by rw [m_X3_fact_r, if_neg c_2, if_neg c_3, if_neg c_4, if_neg c_5, if_neg c_6, if_neg c_10, if_neg c_12, if_neg c_13, if_neg c_14, if_pos c_15]) rfl
  by_cases c_16 : x = nI 10
  · refine lv_tableIn (off := 133) (tgt := 134) hx hb dX3_fact_1 (by rw [c_16]; decide +kernel) (by rw [c_16]; decide +kernel) (by rw [c_16]; decide +kernel) (by decide) ?_
    refine lv_aload_n hx hb dX3_fact_134 rfl (lv_at hl 0 rfl) ?_
    refine k_get X hW inG3 rfl 11 (by decide) fl_X3_46 rfl 0 rfl (v := .int (q 11)) rfl dX3_fact_135 ?_
    exact hQ _ _ _ _ _ _ hW dX3_fact_138 (by rw [m_X3_fact_r, if_neg c_2, if_neg c_3, if_neg c_4, if_neg c_5, if_neg c_6, if_neg c_10, if_neg c_12, if_neg c_13, if_neg c_14, if_neg c_15, if_pos c_16]) rfl
  by_cases c_17 : x = nI 11
  · refine lv_tableIn (off := 138) (tgt := 139) hx hb dX3_fact_1 (by rw [c_17]; decide +kernel) (by rw [c_17]; decide +kernel) (by rw [c_17]; decide +kernel) (by decide) ?_
    refine lv_aload_n hx hb dX3_fact_139 rfl (lv_at hl 0 rfl) ?_
    refine k_get X hW inG3 rfl 12 (by decide) fl_X3_49 rfl 0 rfl (v := .int (q 12)) rfl dX3_fact_140 ?_
    exact hQ _ _ _ _ _ _ hW dX3_fact_143 (by rw [m_X3_fact_r, if_neg c_2, if_neg c_3, if_neg c_4, if_neg c_5, if_neg c_6, if_neg c_10, if_neg c_12, if_neg c_13, if_neg c_14, if_neg c_15, if_neg c_16, if_pos c_17]) rfl
  by_cases c_18 : x = nI 12
  · refine lv_tableIn (off := 143) (tgt := 144) hx hb dX3_fact_1 (by rw [c_18]; decide +kernel) (by rw [c_18]; decide +kernel) (by rw [c_18]; decide +kernel) (by decide) ?_
    refine lv_aload_n hx hb dX3_fact_144 rfl (lv_at hl 0 rfl) ?_
    refine k_get X hW inG3 rfl 6 (by decide) fl_X3_31 rfl 0 rfl (v := .int (q 6)) rfl dX3_fact_145 ?_
    exact hQ _ _ _ _ _ _ hW dX3_fact_148 (by rw [m_X3_fact_r, if_neg c_2, if_neg c_3, if_neg c_4, if_neg c_5, if_neg c_6, if_neg c_10, if_neg c_12, if_neg c_13, if_neg c_14, if_neg c_15, if_neg c_16, if_neg c_17, if_pos c_18]) rfl
  refine lv_tableOut (tgt := 149) hx hb dX3_fact_1 (k_sw12 c_2 c_3 c_4 c_5 c_6 c_10 c_12 c_13 c_14 c_15 c_16 c_17 c_18) (by decide) ?_
  refine lv_bipush (v := (-2)) hx hb dX3_fact_149 (by decide +kernel) ?_
  exact hQ _ _ _ _ _ _ hW dX3_fact_151 (by rw [m_X3_fact_r, if_neg c_2, if_neg c_3, if_neg c_4, if_neg c_5, if_neg c_6, if_neg c_10, if_neg c_12, if_neg c_13, if_neg c_14, if_neg c_15, if_neg c_16, if_neg c_17, if_neg c_18]) rfl
def m_X3_copyFrom_q (q : Nat → Int32) (o : Nat → Int32) : Nat → Int32 := upd (upd (upd (upd (upd (upd (upd (upd (upd (upd (upd (upd (upd q 0 (o 0)) 1 (o 1)) 2 (o 2)) 3 (o 3)) 4 (o 4)) 5 (o 5)) 6 (o 6)) 7 (o 7)) 8 (o 8)) 9 (o 9)) 10 (o 10)) 11 (o 11)) 12 (o 12)
set_option maxHeartbeats 4000000 in
set_option maxRecDepth 100000 in
theorem c_X3_copyFrom (l : Launch) (D : va_G) (k : Nat → ClassId) (b b2 : Nat) (q : Nat → Int32) (o : Nat → Int32)  (hm : BB (o 4)) : mV l yX3_copyFrom (wsY yX3_copyFrom cX3_copyFrom 2 none) 0 D k [.ref b, .ref b2] [qC b q, qC b2 o] [qC b (m_X3_copyFrom_q q o), qC b2 o] := by
  refine mV_intro rfl (Nat.le_of_ble_eq_true rfl) ?_
  intro p e s m args below meth c A Q ls X hW hl hQ
  have hx := X.hx
  have hb := X.hb
  have hl : lv_has ls 2 [(0, .ref b), (1, .ref b2)] := hl
  refine lv_aload_n hx hb dX3_copyFrom_0 rfl (lv_at hl 0 rfl) ?_
  refine lv_aload_n hx hb dX3_copyFrom_1 rfl (lv_at hl 1 rfl) ?_
  refine k_get X hW inG3 rfl 0 (by decide) fl_X3_9 rfl 1 rfl (v := .int (o 0)) rfl dX3_copyFrom_2 ?_
  refine k_put X hW inG3 rfl tyX3_ok nmX3 0 (by decide) fl_X3_9 rfl rfl 0 rfl rfl rfl (Nat.le_of_ble_eq_true rfl) dX3_copyFrom_5 (w' := [qC b (upd q 0 (o 0)), qC b2 o]) rfl (fun H locs hW => ?_)
  refine lv_aload_n hx hb dX3_copyFrom_8 rfl (lv_at hl 0 rfl) ?_
  refine lv_aload_n hx hb dX3_copyFrom_9 rfl (lv_at hl 1 rfl) ?_
  refine k_get X hW inG3 rfl 1 (by decide) fl_X3_15 rfl 1 rfl (v := .int (o 1)) rfl dX3_copyFrom_10 ?_
  refine k_put X hW inG3 rfl tyX3_ok nmX3 1 (by decide) fl_X3_15 rfl rfl 0 rfl rfl rfl (Nat.le_of_ble_eq_true rfl) dX3_copyFrom_13 (w' := [qC b (upd (upd q 0 (o 0)) 1 (o 1)), qC b2 o]) rfl (fun H locs hW => ?_)
  refine lv_aload_n hx hb dX3_copyFrom_16 rfl (lv_at hl 0 rfl) ?_
  refine lv_aload_n hx hb dX3_copyFrom_17 rfl (lv_at hl 1 rfl) ?_
  refine k_get X hW inG3 rfl 2 (by decide) fl_X3_18 rfl 1 rfl (v := .int (o 2)) rfl dX3_copyFrom_18 ?_
  refine k_put X hW inG3 rfl tyX3_ok nmX3 2 (by decide) fl_X3_18 rfl rfl 0 rfl rfl rfl (Nat.le_of_ble_eq_true rfl) dX3_copyFrom_21 (w' := [qC b (upd (upd (upd q 0 (o 0)) 1 (o 1)) 2 (o 2)), qC b2 o]) rfl (fun H locs hW => ?_)
  refine lv_aload_n hx hb dX3_copyFrom_24 rfl (lv_at hl 0 rfl) ?_
  refine lv_aload_n hx hb dX3_copyFrom_25 rfl (lv_at hl 1 rfl) ?_
  refine k_get X hW inG3 rfl 3 (by decide) fl_X3_21 rfl 1 rfl (v := .int (o 3)) rfl dX3_copyFrom_26 ?_
  refine k_put X hW inG3 rfl tyX3_ok nmX3 3 (by decide) fl_X3_21 rfl rfl 0 rfl rfl rfl (Nat.le_of_ble_eq_true rfl) dX3_copyFrom_29 (w' := [qC b (upd (upd (upd (upd q 0 (o 0)) 1 (o 1)) 2 (o 2)) 3 (o 3)), qC b2 o]) rfl (fun H locs hW => ?_)
  refine lv_aload_n hx hb dX3_copyFrom_32 rfl (lv_at hl 0 rfl) ?_
  refine lv_aload_n hx hb dX3_copyFrom_33 rfl (lv_at hl 1 rfl) ?_
  refine k_get X hW inG3 rfl 4 (by decide) fl_X3_24 rfl 1 rfl (v := .int (o 4)) rfl dX3_copyFrom_34 ?_
  refine k_put X hW inG3 rfl tyX3_ok nmX3 4 (by decide) fl_X3_24 rfl rfl 0 rfl hm.nar hm.fit (Nat.le_of_ble_eq_true rfl) dX3_copyFrom_37 (w' := [qC b (upd (upd (upd (upd (upd q 0 (o 0)) 1 (o 1)) 2 (o 2)) 3 (o 3)) 4 (o 4)), qC b2 o]) rfl (fun H locs hW => ?_)
  refine lv_aload_n hx hb dX3_copyFrom_40 rfl (lv_at hl 0 rfl) ?_
  refine lv_aload_n hx hb dX3_copyFrom_41 rfl (lv_at hl 1 rfl) ?_
  refine k_get X hW inG3 rfl 5 (by decide) fl_X3_28 rfl 1 rfl (v := .int (o 5)) rfl dX3_copyFrom_42 ?_
  refine k_put X hW inG3 rfl tyX3_ok nmX3 5 (by decide) fl_X3_28 rfl rfl 0 rfl rfl rfl (Nat.le_of_ble_eq_true rfl) dX3_copyFrom_45 (w' := [qC b (upd (upd (upd (upd (upd (upd q 0 (o 0)) 1 (o 1)) 2 (o 2)) 3 (o 3)) 4 (o 4)) 5 (o 5)), qC b2 o]) rfl (fun H locs hW => ?_)
  refine lv_aload_n hx hb dX3_copyFrom_48 rfl (lv_at hl 0 rfl) ?_
  refine lv_aload_n hx hb dX3_copyFrom_49 rfl (lv_at hl 1 rfl) ?_
  refine k_get X hW inG3 rfl 6 (by decide) fl_X3_31 rfl 1 rfl (v := .int (o 6)) rfl dX3_copyFrom_50 ?_
  refine k_put X hW inG3 rfl tyX3_ok nmX3 6 (by decide) fl_X3_31 rfl rfl 0 rfl rfl rfl (Nat.le_of_ble_eq_true rfl) dX3_copyFrom_53 (w' := [qC b (upd (upd (upd (upd (upd (upd (upd q 0 (o 0)) 1 (o 1)) 2 (o 2)) 3 (o 3)) 4 (o 4)) 5 (o 5)) 6 (o 6)), qC b2 o]) rfl (fun H locs hW => ?_)
  refine lv_aload_n hx hb dX3_copyFrom_56 rfl (lv_at hl 0 rfl) ?_
  refine lv_aload_n hx hb dX3_copyFrom_57 rfl (lv_at hl 1 rfl) ?_
  refine k_get X hW inG3 rfl 7 (by decide) fl_X3_34 rfl 1 rfl (v := .int (o 7)) rfl dX3_copyFrom_58 ?_
  refine k_put X hW inG3 rfl tyX3_ok nmX3 7 (by decide) fl_X3_34 rfl rfl 0 rfl rfl rfl (Nat.le_of_ble_eq_true rfl) dX3_copyFrom_61 (w' := [qC b (upd (upd (upd (upd (upd (upd (upd (upd q 0 (o 0)) 1 (o 1)) 2 (o 2)) 3 (o 3)) 4 (o 4)) 5 (o 5)) 6 (o 6)) 7 (o 7)), qC b2 o]) rfl (fun H locs hW => ?_)
  refine lv_aload_n hx hb dX3_copyFrom_64 rfl (lv_at hl 0 rfl) ?_
  refine lv_aload_n hx hb dX3_copyFrom_65 rfl (lv_at hl 1 rfl) ?_
  refine k_get X hW inG3 rfl 8 (by decide) fl_X3_37 rfl 1 rfl (v := .int (o 8)) rfl dX3_copyFrom_66 ?_
  refine k_put X hW inG3 rfl tyX3_ok nmX3 8 (by decide) fl_X3_37 rfl rfl 0 rfl rfl rfl (Nat.le_of_ble_eq_true rfl) dX3_copyFrom_69 (w' := [qC b (upd (upd (upd (upd (upd (upd (upd (upd (upd q 0 (o 0)) 1 (o 1)) 2 (o 2)) 3 (o 3)) 4 (o 4)) 5 (o 5)) 6 (o 6)) 7 (o 7)) 8 (o 8)), qC b2 o]) rfl (fun H locs hW => ?_)
  refine lv_aload_n hx hb dX3_copyFrom_72 rfl (lv_at hl 0 rfl) ?_
  refine lv_aload_n hx hb dX3_copyFrom_73 rfl (lv_at hl 1 rfl) ?_
  refine k_get X hW inG3 rfl 9 (by decide) fl_X3_40 rfl 1 rfl (v := .int (o 9)) rfl dX3_copyFrom_74 ?_
  refine k_put X hW inG3 rfl tyX3_ok nmX3 9 (by decide) fl_X3_40 rfl rfl 0 rfl rfl rfl (Nat.le_of_ble_eq_true rfl) dX3_copyFrom_77 (w' := [qC b (upd (upd (upd (upd (upd (upd (upd (upd (upd (upd q 0 (o 0)) 1 (o 1)) 2 (o 2)) 3 (o 3)) 4 (o 4)) 5 (o 5)) 6 (o 6)) 7 (o 7)) 8 (o 8)) 9 (o 9)), qC b2 o]) rfl (fun H locs hW => ?_)
  refine lv_aload_n hx hb dX3_copyFrom_80 rfl (lv_at hl 0 rfl) ?_
  refine lv_aload_n hx hb dX3_copyFrom_81 rfl (lv_at hl 1 rfl) ?_
  refine k_get X hW inG3 rfl 10 (by decide) fl_X3_43 rfl 1 rfl (v := .int (o 10)) rfl dX3_copyFrom_82 ?_
  refine k_put X hW inG3 rfl tyX3_ok nmX3 10 (by decide) fl_X3_43 rfl rfl 0 rfl rfl rfl (Nat.le_of_ble_eq_true rfl) dX3_copyFrom_85 (w' := [qC b (upd (upd (upd (upd (upd (upd (upd (upd (upd (upd (upd q 0 (o 0)) 1 (o 1)) 2 (o 2)) 3 (o 3)) 4 (o 4)) 5 (o 5)) 6 (o 6)) 7 (o 7)) 8 (o 8)) 9 (o 9)) 10 (o 10)), qC b2 o]) rfl (fun H locs hW => ?_)
  refine lv_aload_n hx hb dX3_copyFrom_88 rfl (lv_at hl 0 rfl) ?_
  refine lv_aload_n hx hb dX3_copyFrom_89 rfl (lv_at hl 1 rfl) ?_
  refine k_get X hW inG3 rfl 11 (by decide) fl_X3_46 rfl 1 rfl (v := .int (o 11)) rfl dX3_copyFrom_90 ?_
  refine k_put X hW inG3 rfl tyX3_ok nmX3 11 (by decide) fl_X3_46 rfl rfl 0 rfl rfl rfl (Nat.le_of_ble_eq_true rfl) dX3_copyFrom_93 (w' := [qC b (upd (upd (upd (upd (upd (upd (upd (upd (upd (upd (upd (upd q 0 (o 0)) 1 (o 1)) 2 (o 2)) 3 (o 3)) 4 (o 4)) 5 (o 5)) 6 (o 6)) 7 (o 7)) 8 (o 8)) 9 (o 9)) 10 (o 10)) 11 (o 11)), qC b2 o]) rfl (fun H locs hW => ?_)
  refine lv_aload_n hx hb dX3_copyFrom_96 rfl (lv_at hl 0 rfl) ?_
  refine lv_aload_n hx hb dX3_copyFrom_97 rfl (lv_at hl 1 rfl) ?_
  refine k_get X hW inG3 rfl 12 (by decide) fl_X3_49 rfl 1 rfl (v := .int (o 12)) rfl dX3_copyFrom_98 ?_
  refine k_put X hW inG3 rfl tyX3_ok nmX3 12 (by decide) fl_X3_49 rfl rfl 0 rfl rfl rfl (Nat.le_of_ble_eq_true rfl) dX3_copyFrom_101 (w' := [qC b (upd (upd (upd (upd (upd (upd (upd (upd (upd (upd (upd (upd (upd q 0 (o 0)) 1 (o 1)) 2 (o 2)) 3 (o 3)) 4 (o 4)) 5 (o 5)) 6 (o 6)) 7 (o 7)) 8 (o 8)) 9 (o 9)) 10 (o 10)) 11 (o 11)) 12 (o 12)), qC b2 o]) rfl (fun H locs hW => ?_)
  exact hQ _ _ _ _ _ hW dX3_copyFrom_104 (by rw [m_X3_copyFrom_q])
def m_X3_emptyLike_q (q : Nat → Int32) (o : Nat → Int32) : Nat → Int32 := upd (upd (upd (upd (upd (upd (upd (upd (upd (upd (upd (upd (upd q 0 (o 0)) 1 (o 1)) 2 (o 0)) 3 (-1)) 4 (nI 0)) 5 (nI 0)) 6 (-6)) 7 (nI 0)) 8 (nI 0)) 9 (nI 0)) 10 (nI 0)) 11 (-6)) 12 (nI 0)
set_option maxHeartbeats 4000000 in
set_option maxRecDepth 100000 in
theorem c_X3_emptyLike (l : Launch) (D : va_G) (k : Nat → ClassId) (b b2 : Nat) (q : Nat → Int32) (o : Nat → Int32)   : mV l yX3_emptyLike (wsY yX3_emptyLike cX3_emptyLike 2 none) 0 D k [.ref b, .ref b2] [qC b q, qC b2 o] [qC b (m_X3_emptyLike_q q o), qC b2 o] := by
  refine mV_intro rfl (Nat.le_of_ble_eq_true rfl) ?_
  intro p e s m args below meth c A Q ls X hW hl hQ
  have hx := X.hx
  have hb := X.hb
  have hl : lv_has ls 2 [(0, .ref b), (1, .ref b2)] := hl
  refine lv_aload_n hx hb dX3_emptyLike_0 rfl (lv_at hl 0 rfl) ?_
  refine lv_aload_n hx hb dX3_emptyLike_1 rfl (lv_at hl 1 rfl) ?_
  refine k_get X hW inG3 rfl 0 (by decide) fl_X3_9 rfl 1 rfl (v := .int (o 0)) rfl dX3_emptyLike_2 ?_
  refine k_put X hW inG3 rfl tyX3_ok nmX3 0 (by decide) fl_X3_9 rfl rfl 0 rfl rfl rfl (Nat.le_of_ble_eq_true rfl) dX3_emptyLike_5 (w' := [qC b (upd q 0 (o 0)), qC b2 o]) rfl (fun H locs hW => ?_)
  refine lv_aload_n hx hb dX3_emptyLike_8 rfl (lv_at hl 0 rfl) ?_
  refine lv_aload_n hx hb dX3_emptyLike_9 rfl (lv_at hl 1 rfl) ?_
  refine k_get X hW inG3 rfl 1 (by decide) fl_X3_15 rfl 1 rfl (v := .int (o 1)) rfl dX3_emptyLike_10 ?_
  refine k_put X hW inG3 rfl tyX3_ok nmX3 1 (by decide) fl_X3_15 rfl rfl 0 rfl rfl rfl (Nat.le_of_ble_eq_true rfl) dX3_emptyLike_13 (w' := [qC b (upd (upd q 0 (o 0)) 1 (o 1)), qC b2 o]) rfl (fun H locs hW => ?_)
  refine lv_aload_n hx hb dX3_emptyLike_16 rfl (lv_at hl 0 rfl) ?_
  refine lv_aload_n hx hb dX3_emptyLike_17 rfl (lv_at hl 1 rfl) ?_
  refine k_get X hW inG3 rfl 0 (by decide) fl_X3_9 rfl 1 rfl (v := .int (o 0)) rfl dX3_emptyLike_18 ?_
  refine k_put X hW inG3 rfl tyX3_ok nmX3 2 (by decide) fl_X3_18 rfl rfl 0 rfl rfl rfl (Nat.le_of_ble_eq_true rfl) dX3_emptyLike_21 (w' := [qC b (upd (upd (upd q 0 (o 0)) 1 (o 1)) 2 (o 0)), qC b2 o]) rfl (fun H locs hW => ?_)
  refine lv_aload_n hx hb dX3_emptyLike_24 rfl (lv_at hl 0 rfl) ?_
  refine lv_iconst (v := (-1)) hx hb dX3_emptyLike_25 (by decide +kernel) ?_
  refine k_put X hW inG3 rfl tyX3_ok nmX3 3 (by decide) fl_X3_21 rfl rfl 0 rfl rfl rfl (Nat.le_of_ble_eq_true rfl) dX3_emptyLike_26 (w' := [qC b (upd (upd (upd (upd q 0 (o 0)) 1 (o 1)) 2 (o 0)) 3 (-1)), qC b2 o]) rfl (fun H locs hW => ?_)
  refine lv_aload_n hx hb dX3_emptyLike_29 rfl (lv_at hl 0 rfl) ?_
  refine lv_iconst (v := nI 0) hx hb dX3_emptyLike_30 (by decide +kernel) ?_
  refine k_put X hW inG3 rfl tyX3_ok nmX3 4 (by decide) fl_X3_24 rfl rfl 0 rfl rfl rfl (Nat.le_of_ble_eq_true rfl) dX3_emptyLike_31 (w' := [qC b (upd (upd (upd (upd (upd q 0 (o 0)) 1 (o 1)) 2 (o 0)) 3 (-1)) 4 (nI 0)), qC b2 o]) rfl (fun H locs hW => ?_)
  refine lv_aload_n hx hb dX3_emptyLike_34 rfl (lv_at hl 0 rfl) ?_
  refine lv_iconst (v := nI 0) hx hb dX3_emptyLike_35 (by decide +kernel) ?_
  refine k_put X hW inG3 rfl tyX3_ok nmX3 5 (by decide) fl_X3_28 rfl rfl 0 rfl rfl rfl (Nat.le_of_ble_eq_true rfl) dX3_emptyLike_36 (w' := [qC b (upd (upd (upd (upd (upd (upd q 0 (o 0)) 1 (o 1)) 2 (o 0)) 3 (-1)) 4 (nI 0)) 5 (nI 0)), qC b2 o]) rfl (fun H locs hW => ?_)
  refine lv_aload_n hx hb dX3_emptyLike_39 rfl (lv_at hl 0 rfl) ?_
  refine lv_bipush (v := (-6)) hx hb dX3_emptyLike_40 (by decide +kernel) ?_
  refine k_put X hW inG3 rfl tyX3_ok nmX3 6 (by decide) fl_X3_31 rfl rfl 0 rfl rfl rfl (Nat.le_of_ble_eq_true rfl) dX3_emptyLike_42 (w' := [qC b (upd (upd (upd (upd (upd (upd (upd q 0 (o 0)) 1 (o 1)) 2 (o 0)) 3 (-1)) 4 (nI 0)) 5 (nI 0)) 6 (-6)), qC b2 o]) rfl (fun H locs hW => ?_)
  refine lv_aload_n hx hb dX3_emptyLike_45 rfl (lv_at hl 0 rfl) ?_
  refine lv_iconst (v := nI 0) hx hb dX3_emptyLike_46 (by decide +kernel) ?_
  refine k_put X hW inG3 rfl tyX3_ok nmX3 7 (by decide) fl_X3_34 rfl rfl 0 rfl rfl rfl (Nat.le_of_ble_eq_true rfl) dX3_emptyLike_47 (w' := [qC b (upd (upd (upd (upd (upd (upd (upd (upd q 0 (o 0)) 1 (o 1)) 2 (o 0)) 3 (-1)) 4 (nI 0)) 5 (nI 0)) 6 (-6)) 7 (nI 0)), qC b2 o]) rfl (fun H locs hW => ?_)
  refine lv_aload_n hx hb dX3_emptyLike_50 rfl (lv_at hl 0 rfl) ?_
  refine lv_iconst (v := nI 0) hx hb dX3_emptyLike_51 (by decide +kernel) ?_
  refine k_put X hW inG3 rfl tyX3_ok nmX3 8 (by decide) fl_X3_37 rfl rfl 0 rfl rfl rfl (Nat.le_of_ble_eq_true rfl) dX3_emptyLike_52 (w' := [qC b (upd (upd (upd (upd (upd (upd (upd (upd (upd q 0 (o 0)) 1 (o 1)) 2 (o 0)) 3 (-1)) 4 (nI 0)) 5 (nI 0)) 6 (-6)) 7 (nI 0)) 8 (nI 0)), qC b2 o]) rfl (fun H locs hW => ?_)
  refine lv_aload_n hx hb dX3_emptyLike_55 rfl (lv_at hl 0 rfl) ?_
  refine lv_iconst (v := nI 0) hx hb dX3_emptyLike_56 (by decide +kernel) ?_
  refine k_put X hW inG3 rfl tyX3_ok nmX3 9 (by decide) fl_X3_40 rfl rfl 0 rfl rfl rfl (Nat.le_of_ble_eq_true rfl) dX3_emptyLike_57 (w' := [qC b (upd (upd (upd (upd (upd (upd (upd (upd (upd (upd q 0 (o 0)) 1 (o 1)) 2 (o 0)) 3 (-1)) 4 (nI 0)) 5 (nI 0)) 6 (-6)) 7 (nI 0)) 8 (nI 0)) 9 (nI 0)), qC b2 o]) rfl (fun H locs hW => ?_)
  refine lv_aload_n hx hb dX3_emptyLike_60 rfl (lv_at hl 0 rfl) ?_
  refine lv_iconst (v := nI 0) hx hb dX3_emptyLike_61 (by decide +kernel) ?_
  refine k_put X hW inG3 rfl tyX3_ok nmX3 10 (by decide) fl_X3_43 rfl rfl 0 rfl rfl rfl (Nat.le_of_ble_eq_true rfl) dX3_emptyLike_62 (w' := [qC b (upd (upd (upd (upd (upd (upd (upd (upd (upd (upd (upd q 0 (o 0)) 1 (o 1)) 2 (o 0)) 3 (-1)) 4 (nI 0)) 5 (nI 0)) 6 (-6)) 7 (nI 0)) 8 (nI 0)) 9 (nI 0)) 10 (nI 0)), qC b2 o]) rfl (fun H locs hW => ?_)
  refine lv_aload_n hx hb dX3_emptyLike_65 rfl (lv_at hl 0 rfl) ?_
  refine lv_bipush (v := (-6)) hx hb dX3_emptyLike_66 (by decide +kernel) ?_
  refine k_put X hW inG3 rfl tyX3_ok nmX3 11 (by decide) fl_X3_46 rfl rfl 0 rfl rfl rfl (Nat.le_of_ble_eq_true rfl) dX3_emptyLike_68 (w' := [qC b (upd (upd (upd (upd (upd (upd (upd (upd (upd (upd (upd (upd q 0 (o 0)) 1 (o 1)) 2 (o 0)) 3 (-1)) 4 (nI 0)) 5 (nI 0)) 6 (-6)) 7 (nI 0)) 8 (nI 0)) 9 (nI 0)) 10 (nI 0)) 11 (-6)), qC b2 o]) rfl (fun H locs hW => ?_)
  refine lv_aload_n hx hb dX3_emptyLike_71 rfl (lv_at hl 0 rfl) ?_
  refine lv_iconst (v := nI 0) hx hb dX3_emptyLike_72 (by decide +kernel) ?_
  refine k_put X hW inG3 rfl tyX3_ok nmX3 12 (by decide) fl_X3_49 rfl rfl 0 rfl rfl rfl (Nat.le_of_ble_eq_true rfl) dX3_emptyLike_73 (w' := [qC b (upd (upd (upd (upd (upd (upd (upd (upd (upd (upd (upd (upd (upd q 0 (o 0)) 1 (o 1)) 2 (o 0)) 3 (-1)) 4 (nI 0)) 5 (nI 0)) 6 (-6)) 7 (nI 0)) 8 (nI 0)) 9 (nI 0)) 10 (nI 0)) 11 (-6)) 12 (nI 0)), qC b2 o]) rfl (fun H locs hW => ?_)
  exact hQ _ _ _ _ _ hW dX3_emptyLike_76 (by rw [m_X3_emptyLike_q])
