def m_X4_of_r (u : CS) (x w : Int32) : Int32 := if m_X4_isQueue_r x = 0 then (-1) else m_X3_fact_r (u (6 + tn x)) w
set_option maxHeartbeats 4000000 in
set_option maxRecDepth 100000 in
theorem c_X4_of (l : Launch) (D : va_G) (k : Nat → ClassId) (B : Nat → Nat) (A : Nat → Nat → Nat) (V : Nat → CS) (nx sz : Int32) (sv z g : Nat → Int32) (x w : Int32)  : mI l yX4_of (wsY yX4_of cX4_of 3 (some .int)) 2 D k [.ref (B 0), .int x, .int w] (bigW k B A V nx sz sv z g) (bigW k B A V nx sz sv z g) (m_X4_of_r (V 0) x w) := by
  refine mI_intro rfl (Nat.le_of_ble_eq_true rfl) (Or.inl rfl) ?_
  intro p e s m args below meth c P Q ls X hW hl hQ
  have hx := X.hx
  have hb := X.hb
  have hl : lv_has ls 3 [(0, .ref (B 0)), (1, .int x), (2, .int w)] := hl
  refine lv_iload_n hx hb dX4_of_0 rfl (lv_at hl 1 rfl) ?_
  refine kSi (As := [.int x]) (rest := []) X hW (c_X4_isQueue l D k x) yw_X4_isQueue lk_X4_69 ⟨Nat.le_of_ble_eq_true rfl, Nat.le_of_ble_eq_true rfl⟩ rfl hl.1 rfl (Nat.le_of_ble_eq_true rfl) ⟨Nat.zero_le _, Nat.zero_le _⟩ dX4_of_1 (fun H locs hW => ?_)
  refine lv_if_ne (tgt := 9) hx hb dX4_of_4 (by decide) (fun c_1 => ?_) (fun c_1 => ?_)
  · obtain ⟨j, hj, rfl⟩ := isqj c_1
    refine lv_aload_n hx hb dX4_of_9 rfl (lv_at hl 0 rfl) ?_
    refine k_get X hW inG4 rfl 0 (by decide) fl_X4_10 rfl 0 rfl (v := .ref (A 0 0)) rfl dX4_of_10 ?_
    refine k_getN X hW inG0 rfl 1 (by decide) fln_X4_73 rfl 7 rfl (v := .ref (A 0 2)) rfl dX4_of_13 ?_
    refine lv_iload_n hx hb dX4_of_16 rfl (lv_at hl 1 rfl) ?_
    refine k_aald X hW 9 1 rfl rfl (j := j) (b := A 0 (7 + j)) rfl hj (by decide) rfl dX4_of_17 ?_
    refine lv_iload_n hx hb dX4_of_18 rfl (lv_at hl 2 rfl) ?_
    obtain ⟨wr, hp⟩ := pull1 (big_memQ (k := k) (B := B) (A := A) (V := V) (nx := nx) (sz := sz) (sv := sv) (z := z) (g := g) (i := 0) (by decide) hj)
    refine kNi (As := [.int w]) (rest := []) X hW (c_X3_fact l D k (A 0 (7 + j)) (V 0 (6 + j)) w) yw_X3_fact lkn_X4_77 ⟨Nat.le_of_ble_eq_true rfl, Nat.le_of_ble_eq_true rfl⟩ hp hp.symm (big_rcvQ X hW (by decide) hj) rfl hl.1 rfl (Nat.le_of_ble_eq_true rfl) ⟨Nat.zero_le _, Nat.zero_le _⟩ dX4_of_19 (fun H locs hW => ?_)
    exact hQ _ _ _ _ _ _ hW dX4_of_22 (by rw [m_X4_of_r, if_neg c_1, tn_of rfl (by omega)]) rfl
  · refine lv_iconst (v := (-1)) hx hb dX4_of_7 (by decide +kernel) ?_
    exact hQ _ _ _ _ _ _ hW dX4_of_8 (by rw [m_X4_of_r, if_pos c_1]) rfl
def m_X4_frame_r (u : CS) (x w : Int32) : Int32 := if m_X0_hasFrame_r u x = 0 then (-1) else m_X0_frameFact_r u (tn x) w
set_option maxHeartbeats 4000000 in
set_option maxRecDepth 100000 in
theorem c_X4_frame (l : Launch) (D : va_G) (k : Nat → ClassId) (B : Nat → Nat) (A : Nat → Nat → Nat) (V : Nat → CS) (nx sz : Int32) (sv z g : Nat → Int32) (x w : Int32) (hV : CM (V 0)) : mI l yX4_frame (wsY yX4_frame cX4_frame 3 (some .int)) 2 D k [.ref (B 0), .int x, .int w] (bigW k B A V nx sz sv z g) (bigW k B A V nx sz sv z g) (m_X4_frame_r (V 0) x w) := by
  refine mI_intro rfl (Nat.le_of_ble_eq_true rfl) (Or.inl rfl) ?_
  intro p e s m args below meth c P Q ls X hW hl hQ
  have hx := X.hx
  have hb := X.hb
  have hl : lv_has ls 3 [(0, .ref (B 0)), (1, .int x), (2, .int w)] := hl
  refine lv_aload_n hx hb dX4_frame_0 rfl (lv_at hl 0 rfl) ?_
  refine k_get X hW inG4 rfl 0 (by decide) fl_X4_10 rfl 0 rfl (v := .ref (A 0 0)) rfl dX4_frame_1 ?_
  refine lv_iload_n hx hb dX4_frame_4 rfl (lv_at hl 1 rfl) ?_
  obtain ⟨wr, hp⟩ := pull1 (big_mem (k := k) (B := B) (A := A) (V := V) (nx := nx) (sz := sz) (sv := sv) (z := z) (g := g) (i := 0) (by decide))
  refine kNi (As := [.int x]) (rest := []) X hW (c_X0_hasFrame l D k (A 0) (V 0) x) yw_X0_hasFrame lkn_X4_82 ⟨Nat.le_of_ble_eq_true rfl, Nat.le_of_ble_eq_true rfl⟩ hp hp.symm (big_rcv X hW (by decide)) rfl hl.1 rfl (Nat.le_of_ble_eq_true rfl) ⟨Nat.zero_le _, Nat.zero_le _⟩ dX4_frame_5 (fun H locs hW => ?_)
  refine lv_if_ne (tgt := 13) hx hb dX4_frame_8 (by decide) (fun c_1 => ?_) (fun c_1 => ?_)
  · obtain ⟨j, hj, hjc, rfl⟩ := hfj hV c_1
    refine lv_aload_n hx hb dX4_frame_13 rfl (lv_at hl 0 rfl) ?_
    refine k_get X hW inG4 rfl 0 (by decide) fl_X4_10 rfl 0 rfl (v := .ref (A 0 0)) rfl dX4_frame_14 ?_
    refine lv_iload_n hx hb dX4_frame_17 rfl (lv_at hl 1 rfl) ?_
    refine lv_iload_n hx hb dX4_frame_18 rfl (lv_at hl 2 rfl) ?_
    refine kNi (As := [.int (nI j), .int w]) (rest := []) X hW (c_X0_frameFact l D k (A 0) (V 0) j w hj) yw_X0_frameFact lkn_X4_85 ⟨Nat.le_of_ble_eq_true rfl, Nat.le_of_ble_eq_true rfl⟩ (big_pull (i := 0) (by decide)) (big_self (i := 0) (by decide)) (big_rcv X hW (by decide)) rfl hl.1 rfl (Nat.le_of_ble_eq_true rfl) ⟨Nat.zero_le _, Nat.zero_le _⟩ dX4_frame_19 (fun H locs hW => ?_)
    exact hQ _ _ _ _ _ _ hW dX4_frame_22 (by rw [m_X4_frame_r, if_neg c_1, tn_of rfl (by omega)]) rfl
  · refine lv_iconst (v := (-1)) hx hb dX4_frame_11 (by decide +kernel) ?_
    exact hQ _ _ _ _ _ _ hW dX4_frame_12 (by rw [m_X4_frame_r, if_pos c_1]) rfl
def m_X4_row_r (u : CS) (x : Int32) : Int32 := if x < 0 then (-1) else m_X0_queueAt_r u x
set_option maxHeartbeats 4000000 in
set_option maxRecDepth 100000 in
theorem c_X4_row (l : Launch) (D : va_G) (k : Nat → ClassId) (B : Nat → Nat) (A : Nat → Nat → Nat) (V : Nat → CS) (nx sz : Int32) (sv z g : Nat → Int32) (x : Int32)  : mI l yX4_row (wsY yX4_row cX4_row 2 (some .int)) 2 D k [.ref (B 0), .int x] (bigW k B A V nx sz sv z g) (bigW k B A V nx sz sv z g) (m_X4_row_r (V 0) x) := by
  refine mI_intro rfl (Nat.le_of_ble_eq_true rfl) (Or.inl rfl) ?_
  intro p e s m args below meth c P Q ls X hW hl hQ
  have hx := X.hx
  have hb := X.hb
  have hl : lv_has ls 2 [(0, .ref (B 0)), (1, .int x)] := hl
  refine lv_iload_n hx hb dX4_row_0 rfl (lv_at hl 1 rfl) ?_
  refine lv_if_ge (tgt := 6) hx hb dX4_row_1 (by decide) (fun c_1 => ?_) (fun c_1 => ?_)
  · refine lv_aload_n hx hb dX4_row_6 rfl (lv_at hl 0 rfl) ?_
    refine k_get X hW inG4 rfl 0 (by decide) fl_X4_10 rfl 0 rfl (v := .ref (A 0 0)) rfl dX4_row_7 ?_
    refine lv_iload_n hx hb dX4_row_10 rfl (lv_at hl 1 rfl) ?_
    refine kNi (As := [.int x]) (rest := []) X hW (c_X0_queueAt l D k (A 0) (V 0) x) yw_X0_queueAt lkn_X4_88 ⟨Nat.le_of_ble_eq_true rfl, Nat.le_of_ble_eq_true rfl⟩ (big_pull (i := 0) (by decide)) (big_self (i := 0) (by decide)) (big_rcv X hW (by decide)) rfl hl.1 rfl (Nat.le_of_ble_eq_true rfl) ⟨Nat.zero_le _, Nat.zero_le _⟩ dX4_row_11 (fun H locs hW => ?_)
    exact hQ _ _ _ _ _ _ hW dX4_row_14 (by rw [m_X4_row_r, if_neg (k_gel c_1)]) rfl
  · refine lv_iconst (v := (-1)) hx hb dX4_row_4 (by decide +kernel) ?_
    exact hQ _ _ _ _ _ _ hW dX4_row_5 (by rw [m_X4_row_r, if_pos (k_ngel c_1)]) rfl
def m_X4_count_r (u : CS) (z : Nat → Int32) (sz w : Int32) : Int32 := if w = nI 0 then u 0 2 else if w = nI 1 then u 0 3 else if w = nI 2 then m_X0_total_r u (nI 3) else if w = nI 3 then m_X0_total_r u (nI 7) else if w = nI 4 then m_X0_total_r u (nI 8) else if w = nI 5 then m_X0_total_r u (nI 6) else if w = nI 6 then m_X0_maskedSet_r u else if w = nI 7 then u 1 0 else if w = nI 8 then u 1 1 else if w = nI 9 then u 1 2 else if w = nI 10 then u 1 3 else if w = nI 11 then z 1 else if w = nI 12 then sz else (-2)
set_option maxHeartbeats 4000000 in
set_option maxRecDepth 100000 in
theorem c_X4_count (l : Launch) (D : va_G) (k : Nat → ClassId) (B : Nat → Nat) (A : Nat → Nat → Nat) (V : Nat → CS) (nx sz : Int32) (sv z g : Nat → Int32) (w : Int32)  : mI l yX4_count (wsY yX4_count cX4_count 2 (some .int)) 3 D k [.ref (B 0), .int w] (bigW k B A V nx sz sv z g) (bigW k B A V nx sz sv z g) (m_X4_count_r (V 0) z sz w) := by
  refine mI_intro rfl (Nat.le_of_ble_eq_true rfl) (Or.inl rfl) ?_
  intro p e s m args below meth c P Q ls X hW hl hQ
  have hx := X.hx
  have hb := X.hb
  have hl : lv_has ls 2 [(0, .ref (B 0)), (1, .int w)] := hl
  refine lv_iload_n hx hb dX4_count_0 rfl (lv_at hl 1 rfl) ?_
  by_cases c_0 : w = nI 0
  · refine lv_tableIn (off := 67) (tgt := 68) hx hb dX4_count_1 (by rw [c_0]; decide +kernel) (by rw [c_0]; decide +kernel) (by rw [c_0]; decide +kernel) (by decide) ?_
    refine lv_aload_n hx hb dX4_count_68 rfl (lv_at hl 0 rfl) ?_
    refine k_get X hW inG4 rfl 0 (by decide) fl_X4_10 rfl 0 rfl (v := .ref (A 0 0)) rfl dX4_count_69 ?_
    refine k_getN X hW inG0 rfl 2 (by decide) fln_X4_91 rfl 7 rfl (v := .int (V 0 0 2)) rfl dX4_count_72 ?_
    exact hQ _ _ _ _ _ _ hW dX4_count_75 (by rw [m_X4_count_r, if_pos c_0]) rfl
  by_cases c_1 : w = nI 1
  · refine lv_tableIn (off := 75) (tgt := 76) hx hb dX4_count_1 (by rw [c_1]; decide +kernel) (by rw [c_1]; decide +kernel) (by rw [c_1]; decide +kernel) (by decide) ?_
    refine lv_aload_n hx hb dX4_count_76 rfl (lv_at hl 0 rfl) ?_
    refine k_get X hW inG4 rfl 0 (by decide) fl_X4_10 rfl 0 rfl (v := .ref (A 0 0)) rfl dX4_count_77 ?_
    refine k_getN X hW inG0 rfl 3 (by decide) fln_X4_95 rfl 7 rfl (v := .int (V 0 0 3)) rfl dX4_count_80 ?_
    exact hQ _ _ _ _ _ _ hW dX4_count_83 (by rw [m_X4_count_r, if_neg c_0, if_pos c_1]) rfl
  by_cases c_2 : w = nI 2
  · refine lv_tableIn (off := 83) (tgt := 84) hx hb dX4_count_1 (by rw [c_2]; decide +kernel) (by rw [c_2]; decide +kernel) (by rw [c_2]; decide +kernel) (by decide) ?_
    refine lv_aload_n hx hb dX4_count_84 rfl (lv_at hl 0 rfl) ?_
    refine k_get X hW inG4 rfl 0 (by decide) fl_X4_10 rfl 0 rfl (v := .ref (A 0 0)) rfl dX4_count_85 ?_
    refine lv_iconst (v := nI 3) hx hb dX4_count_88 (by decide +kernel) ?_
    refine kNi (As := [.int (nI 3)]) (rest := []) X hW (c_X0_total l D k (A 0) (V 0) (nI 3)) yw_X0_total lkn_X4_98 ⟨Nat.le_of_ble_eq_true rfl, Nat.le_of_ble_eq_true rfl⟩ (big_pull (i := 0) (by decide)) (big_self (i := 0) (by decide)) (big_rcv X hW (by decide)) rfl hl.1 rfl (Nat.le_of_ble_eq_true rfl) ⟨Nat.zero_le _, Nat.zero_le _⟩ dX4_count_89 (fun H locs hW => ?_)
    exact hQ _ _ _ _ _ _ hW dX4_count_92 (by rw [m_X4_count_r, if_neg c_0, if_neg c_1, if_pos c_2]) rfl
  by_cases c_3 : w = nI 3
  · refine lv_tableIn (off := 92) (tgt := 93) hx hb dX4_count_1 (by rw [c_3]; decide +kernel) (by rw [c_3]; decide +kernel) (by rw [c_3]; decide +kernel) (by decide) ?_
    refine lv_aload_n hx hb dX4_count_93 rfl (lv_at hl 0 rfl) ?_
    refine k_get X hW inG4 rfl 0 (by decide) fl_X4_10 rfl 0 rfl (v := .ref (A 0 0)) rfl dX4_count_94 ?_
    refine lv_bipush (v := nI 7) hx hb dX4_count_97 (by decide +kernel) ?_
    refine kNi (As := [.int (nI 7)]) (rest := []) X hW (c_X0_total l D k (A 0) (V 0) (nI 7)) yw_X0_total lkn_X4_98 ⟨Nat.le_of_ble_eq_true rfl, Nat.le_of_ble_eq_true rfl⟩ (big_pull (i := 0) (by decide)) (big_self (i := 0) (by decide)) (big_rcv X hW (by decide)) rfl hl.1 rfl (Nat.le_of_ble_eq_true rfl) ⟨Nat.zero_le _, Nat.zero_le _⟩ dX4_count_99 (fun H locs hW => ?_)
    exact hQ _ _ _ _ _ _ hW dX4_count_102 (by rw [m_X4_count_r, if_neg c_0, if_neg c_1, if_neg c_2, if_pos c_3]) rfl
  by_cases c_4 : w = nI 4
  · refine lv_tableIn (off := 102) (tgt := 103) hx hb dX4_count_1 (by rw [c_4]; decide +kernel) (by rw [c_4]; decide +kernel) (by rw [c_4]; decide +kernel) (by decide) ?_
    refine lv_aload_n hx hb dX4_count_103 rfl (lv_at hl 0 rfl) ?_
    refine k_get X hW inG4 rfl 0 (by decide) fl_X4_10 rfl 0 rfl (v := .ref (A 0 0)) rfl dX4_count_104 ?_
    refine lv_bipush (v := nI 8) hx hb dX4_count_107 (by decide +kernel) ?_
    refine kNi (As := [.int (nI 8)]) (rest := []) X hW (c_X0_total l D k (A 0) (V 0) (nI 8)) yw_X0_total lkn_X4_98 ⟨Nat.le_of_ble_eq_true rfl, Nat.le_of_ble_eq_true rfl⟩ (big_pull (i := 0) (by decide)) (big_self (i := 0) (by decide)) (big_rcv X hW (by decide)) rfl hl.1 rfl (Nat.le_of_ble_eq_true rfl) ⟨Nat.zero_le _, Nat.zero_le _⟩ dX4_count_109 (fun H locs hW => ?_)
    exact hQ _ _ _ _ _ _ hW dX4_count_112 (by rw [m_X4_count_r, if_neg c_0, if_neg c_1, if_neg c_2, if_neg c_3, if_pos c_4]) rfl
  by_cases c_5 : w = nI 5
  · refine lv_tableIn (off := 112) (tgt := 113) hx hb dX4_count_1 (by rw [c_5]; decide +kernel) (by rw [c_5]; decide +kernel) (by rw [c_5]; decide +kernel) (by decide) ?_
    refine lv_aload_n hx hb dX4_count_113 rfl (lv_at hl 0 rfl) ?_
    refine k_get X hW inG4 rfl 0 (by decide) fl_X4_10 rfl 0 rfl (v := .ref (A 0 0)) rfl dX4_count_114 ?_
    refine lv_bipush (v := nI 6) hx hb dX4_count_117 (by decide +kernel) ?_
    refine kNi (As := [.int (nI 6)]) (rest := []) X hW (c_X0_total l D k (A 0) (V 0) (nI 6)) yw_X0_total lkn_X4_98 ⟨Nat.le_of_ble_eq_true rfl, Nat.le_of_ble_eq_true rfl⟩ (big_pull (i := 0) (by decide)) (big_self (i := 0) (by decide)) (big_rcv X hW (by decide)) rfl hl.1 rfl (Nat.le_of_ble_eq_true rfl) ⟨Nat.zero_le _, Nat.zero_le _⟩ dX4_count_119 (fun H locs hW => ?_)
    exact hQ _ _ _ _ _ _ hW dX4_count_122 (by rw [m_X4_count_r, if_neg c_0, if_neg c_1, if_neg c_2, if_neg c_3, if_neg c_4, if_pos c_5]) rfl
  by_cases c_6 : w = nI 6
  · refine lv_tableIn (off := 122) (tgt := 123) hx hb dX4_count_1 (by rw [c_6]; decide +kernel) (by rw [c_6]; decide +kernel) (by rw [c_6]; decide +kernel) (by decide) ?_
    refine lv_aload_n hx hb dX4_count_123 rfl (lv_at hl 0 rfl) ?_
    refine k_get X hW inG4 rfl 0 (by decide) fl_X4_10 rfl 0 rfl (v := .ref (A 0 0)) rfl dX4_count_124 ?_
    refine kNi (As := []) (rest := []) X hW (c_X0_maskedSet l D k (A 0) (V 0)) yw_X0_maskedSet lkn_X4_101 ⟨Nat.le_of_ble_eq_true rfl, Nat.le_of_ble_eq_true rfl⟩ (big_pull (i := 0) (by decide)) (big_self (i := 0) (by decide)) (big_rcv X hW (by decide)) rfl hl.1 rfl (Nat.le_of_ble_eq_true rfl) ⟨Nat.zero_le _, Nat.zero_le _⟩ dX4_count_127 (fun H locs hW => ?_)
    exact hQ _ _ _ _ _ _ hW dX4_count_130 (by rw [m_X4_count_r, if_neg c_0, if_neg c_1, if_neg c_2, if_neg c_3, if_neg c_4, if_neg c_5, if_pos c_6]) rfl
  by_cases c_7 : w = nI 7
  · refine lv_tableIn (off := 130) (tgt := 131) hx hb dX4_count_1 (by rw [c_7]; decide +kernel) (by rw [c_7]; decide +kernel) (by rw [c_7]; decide +kernel) (by decide) ?_
    refine lv_aload_n hx hb dX4_count_131 rfl (lv_at hl 0 rfl) ?_
    refine k_get X hW inG4 rfl 0 (by decide) fl_X4_10 rfl 0 rfl (v := .ref (A 0 0)) rfl dX4_count_132 ?_
    refine k_getN X hW inG0 rfl 0 (by decide) fln_X4_105 rfl 7 rfl (v := .ref (A 0 1)) rfl dX4_count_135 ?_
    refine lv_iconst (v := nI 0) hx hb dX4_count_138 (by decide +kernel) ?_
    refine k_iald X hW 8 rfl (j := 0) (v := V 0 1 0) rfl (by decide) (by decide) rfl dX4_count_139 ?_
    exact hQ _ _ _ _ _ _ hW dX4_count_140 (by rw [m_X4_count_r, if_neg c_0, if_neg c_1, if_neg c_2, if_neg c_3, if_neg c_4, if_neg c_5, if_neg c_6, if_pos c_7]) rfl
  by_cases c_8 : w = nI 8
  · refine lv_tableIn (off := 140) (tgt := 141) hx hb dX4_count_1 (by rw [c_8]; decide +kernel) (by rw [c_8]; decide +kernel) (by rw [c_8]; decide +kernel) (by decide) ?_
    refine lv_aload_n hx hb dX4_count_141 rfl (lv_at hl 0 rfl) ?_
    refine k_get X hW inG4 rfl 0 (by decide) fl_X4_10 rfl 0 rfl (v := .ref (A 0 0)) rfl dX4_count_142 ?_
    refine k_getN X hW inG0 rfl 0 (by decide) fln_X4_105 rfl 7 rfl (v := .ref (A 0 1)) rfl dX4_count_145 ?_
    refine lv_iconst (v := nI 1) hx hb dX4_count_148 (by decide +kernel) ?_
    refine k_iald X hW 8 rfl (j := 1) (v := V 0 1 1) rfl (by decide) (by decide) rfl dX4_count_149 ?_
    exact hQ _ _ _ _ _ _ hW dX4_count_150 (by rw [m_X4_count_r, if_neg c_0, if_neg c_1, if_neg c_2, if_neg c_3, if_neg c_4, if_neg c_5, if_neg c_6, if_neg c_7, if_pos c_8]) rfl
  by_cases c_9 : w = nI 9
  · refine lv_tableIn (off := 150) (tgt := 151) hx hb dX4_count_1 (by rw [c_9]; decide +kernel) (by rw [c_9]; decide +kernel) (by rw [c_9]; decide +kernel) (by decide) ?_
    refine lv_aload_n hx hb dX4_count_151 rfl (lv_at hl 0 rfl) ?_
    refine k_get X hW inG4 rfl 0 (by decide) fl_X4_10 rfl 0 rfl (v := .ref (A 0 0)) rfl dX4_count_152 ?_
    refine k_getN X hW inG0 rfl 0 (by decide) fln_X4_105 rfl 7 rfl (v := .ref (A 0 1)) rfl dX4_count_155 ?_
    refine lv_iconst (v := nI 2) hx hb dX4_count_158 (by decide +kernel) ?_
    refine k_iald X hW 8 rfl (j := 2) (v := V 0 1 2) rfl (by decide) (by decide) rfl dX4_count_159 ?_
    exact hQ _ _ _ _ _ _ hW dX4_count_160 (by rw [m_X4_count_r, if_neg c_0, if_neg c_1, if_neg c_2, if_neg c_3, if_neg c_4, if_neg c_5, if_neg c_6, if_neg c_7, if_neg c_8, if_pos c_9]) rfl
  by_cases c_10 : w = nI 10
  · refine lv_tableIn (off := 160) (tgt := 161) hx hb dX4_count_1 (by rw [c_10]; decide +kernel) (by rw [c_10]; decide +kernel) (by rw [c_10]; decide +kernel) (by decide) ?_
    refine lv_aload_n hx hb dX4_count_161 rfl (lv_at hl 0 rfl) ?_
    refine k_get X hW inG4 rfl 0 (by decide) fl_X4_10 rfl 0 rfl (v := .ref (A 0 0)) rfl dX4_count_162 ?_
    refine k_getN X hW inG0 rfl 0 (by decide) fln_X4_105 rfl 7 rfl (v := .ref (A 0 1)) rfl dX4_count_165 ?_
    refine lv_iconst (v := nI 3) hx hb dX4_count_168 (by decide +kernel) ?_
    refine k_iald X hW 8 rfl (j := 3) (v := V 0 1 3) rfl (by decide) (by decide) rfl dX4_count_169 ?_
    exact hQ _ _ _ _ _ _ hW dX4_count_170 (by rw [m_X4_count_r, if_neg c_0, if_neg c_1, if_neg c_2, if_neg c_3, if_neg c_4, if_neg c_5, if_neg c_6, if_neg c_7, if_neg c_8, if_neg c_9, if_pos c_10]) rfl
  by_cases c_11 : w = nI 11
  · refine lv_tableIn (off := 170) (tgt := 171) hx hb dX4_count_1 (by rw [c_11]; decide +kernel) (by rw [c_11]; decide +kernel) (by rw [c_11]; decide +kernel) (by decide) ?_
    refine lv_aload_n hx hb dX4_count_171 rfl (lv_at hl 0 rfl) ?_
    refine k_get X hW inG4 rfl 5 (by decide) fl_X4_37 rfl 0 rfl (v := .ref (B 5)) rfl dX4_count_172 ?_
    refine k_getN X hW inG2 rfl 1 (by decide) fln_X4_109 rfl 5 rfl (v := .int (z 1)) rfl dX4_count_175 ?_
    exact hQ _ _ _ _ _ _ hW dX4_count_178 (by rw [m_X4_count_r, if_neg c_0, if_neg c_1, if_neg c_2, if_neg c_3, if_neg c_4, if_neg c_5, if_neg c_6, if_neg c_7, if_neg c_8, if_neg c_9, if_neg c_10, if_pos c_11]) rfl
  by_cases c_12 : w = nI 12
  · refine lv_tableIn (off := 178) (tgt := 179) hx hb dX4_count_1 (by rw [c_12]; decide +kernel) (by rw [c_12]; decide +kernel) (by rw [c_12]; decide +kernel) (by decide) ?_
    refine lv_aload_n hx hb dX4_count_179 rfl (lv_at hl 0 rfl) ?_
    refine k_get X hW inG4 rfl 4 (by decide) fl_X4_30 rfl 0 rfl (v := .ref (B 3)) rfl dX4_count_180 ?_
    refine k_getN X hW inG1 rfl 2 (by decide) fln_X4_112 rfl 3 rfl (v := .int sz) rfl dX4_count_183 ?_
    exact hQ _ _ _ _ _ _ hW dX4_count_186 (by rw [m_X4_count_r, if_neg c_0, if_neg c_1, if_neg c_2, if_neg c_3, if_neg c_4, if_neg c_5, if_neg c_6, if_neg c_7, if_neg c_8, if_neg c_9, if_neg c_10, if_neg c_11, if_pos c_12]) rfl
  refine lv_tableOut (tgt := 187) hx hb dX4_count_1 (k_sw12 c_0 c_1 c_2 c_3 c_4 c_5 c_6 c_7 c_8 c_9 c_10 c_11 c_12) (by decide) ?_
  refine lv_bipush (v := (-2)) hx hb dX4_count_187 (by decide +kernel) ?_
  exact hQ _ _ _ _ _ _ hW dX4_count_189 (by rw [m_X4_count_r, if_neg c_0, if_neg c_1, if_neg c_2, if_neg c_3, if_neg c_4, if_neg c_5, if_neg c_6, if_neg c_7, if_neg c_8, if_neg c_9, if_neg c_10, if_neg c_11, if_neg c_12]) rfl
def m_X4_why_r (u : CS) (x : Int32) : Int32 := if m_X4_isQueue_r x = 0 then (-1) else m_X0_whySilent_r u (u (6 + tn x))
set_option maxHeartbeats 4000000 in
set_option maxRecDepth 100000 in
theorem c_X4_why (l : Launch) (D : va_G) (k : Nat → ClassId) (B : Nat → Nat) (A : Nat → Nat → Nat) (V : Nat → CS) (nx sz : Int32) (sv z g : Nat → Int32) (x : Int32) (hV : CM (V 0)) : mI l yX4_why (wsY yX4_why cX4_why 2 (some .int)) 2 D k [.ref (B 0), .int x] (bigW k B A V nx sz sv z g) (bigW k B A V nx sz sv z g) (m_X4_why_r (V 0) x) := by
  refine mI_intro rfl (Nat.le_of_ble_eq_true rfl) (Or.inl rfl) ?_
  intro p e s m args below meth c P Q ls X hW hl hQ
  have hx := X.hx
  have hb := X.hb
  have hl : lv_has ls 2 [(0, .ref (B 0)), (1, .int x)] := hl
  refine lv_iload_n hx hb dX4_why_0 rfl (lv_at hl 1 rfl) ?_
  refine kSi (As := [.int x]) (rest := []) X hW (c_X4_isQueue l D k x) yw_X4_isQueue lk_X4_69 ⟨Nat.le_of_ble_eq_true rfl, Nat.le_of_ble_eq_true rfl⟩ rfl hl.1 rfl (Nat.le_of_ble_eq_true rfl) ⟨Nat.zero_le _, Nat.zero_le _⟩ dX4_why_1 (fun H locs hW => ?_)
  refine lv_if_ne (tgt := 9) hx hb dX4_why_4 (by decide) (fun c_1 => ?_) (fun c_1 => ?_)
  · obtain ⟨j, hj, rfl⟩ := isqj c_1
    refine lv_aload_n hx hb dX4_why_9 rfl (lv_at hl 0 rfl) ?_
    refine k_get X hW inG4 rfl 0 (by decide) fl_X4_10 rfl 0 rfl (v := .ref (A 0 0)) rfl dX4_why_10 ?_
    refine lv_aload_n hx hb dX4_why_13 rfl (lv_at hl 0 rfl) ?_
    refine k_get X hW inG4 rfl 0 (by decide) fl_X4_10 rfl 0 rfl (v := .ref (A 0 0)) rfl dX4_why_14 ?_
    refine k_getN X hW inG0 rfl 1 (by decide) fln_X4_73 rfl 7 rfl (v := .ref (A 0 2)) rfl dX4_why_17 ?_
    refine lv_iload_n hx hb dX4_why_20 rfl (lv_at hl 1 rfl) ?_
    refine k_aald X hW 9 1 rfl rfl (j := j) (b := A 0 (7 + j)) rfl hj (by decide) rfl dX4_why_21 ?_
    obtain ⟨r, hr⟩ := card_pullY (k := k) (a := A 0) (u := V 0) hj
    obtain ⟨wr, hp⟩ := pullC (big_pull (k := k) (B := B) (A := A) (V := V) (nx := nx) (sz := sz) (sv := sv) (z := z) (g := g) (i := 0) (by decide)) hr
    refine kNi (As := [.ref (A 0 (7 + j))]) (rest := []) X hW (c_X0_whySilent l D k (A 0) (A 0 (7 + j)) (V 0) (V 0 (6 + j)) hV) yw_X0_whySilent lkn_X4_115 ⟨Nat.le_of_ble_eq_true rfl, Nat.le_of_ble_eq_true rfl⟩ hp hp.symm (big_rcv X hW (by decide)) rfl hl.1 rfl (Nat.le_of_ble_eq_true rfl) ⟨Nat.zero_le _, Nat.zero_le _⟩ dX4_why_22 (fun H locs hW => ?_)
    exact hQ _ _ _ _ _ _ hW dX4_why_25 (by rw [m_X4_why_r, if_neg c_1, tn_of rfl (by omega)]) rfl
  · refine lv_iconst (v := (-1)) hx hb dX4_why_7 (by decide +kernel) ?_
    exact hQ _ _ _ _ _ _ hW dX4_why_8 (by rw [m_X4_why_r, if_pos c_1]) rfl
