def WF (f : Nat → Int32) : Prop := (f 5 = nI (tn (f 5)) ∧ tn (f 5) ≤ 400) ∧ (f 6 = nI (tn (f 6)) ∧ tn (f 6) ≤ 3) ∧ (f 1 = nI (tn (f 1)) ∧ tn (f 1) ≤ 16) ∧ (∀ j, j < 3 → f (7 + j) = nI (tn (f (7 + j))) ∧ tn (f (7 + j)) < 3)
theorem WF_ge {f : Nat → Int32} {i : Nat} {x : Int32} (h : WF f) (hi : 10 ≤ i) : WF (upd f i x) := by
  have e : ∀ j, j < 10 → upd f i x j = f j := fun j hj => pk_un (by omega)
  unfold WF
  rw [e 5 (by decide), e 6 (by decide), e 1 (by decide)]
  refine ⟨h.1, h.2.1, h.2.2.1, fun j hj => ?_⟩
  rw [e (7 + j) (by omega)]
  exact h.2.2.2 j hj
theorem WF_4 {f : Nat → Int32} {x : Int32} (h : WF f) : WF (upd f 4 x) := by
  have e : ∀ j, j ≠ 4 → upd f 4 x j = f j := fun j hj => pk_un hj
  unfold WF
  rw [e 5 (by decide), e 6 (by decide), e 1 (by decide)]
  refine ⟨h.1, h.2.1, h.2.2.1, fun j hj => ?_⟩
  rw [e (7 + j) (by omega)]
  exact h.2.2.2 j hj
def m_X5_in_r (v : Int64) (lo : Int64) (up : Int64) : Int32 := if v < lo then nI 0 else if up < v then nI 0 else nI 1
set_option maxHeartbeats 4000000 in
set_option maxRecDepth 100000 in
theorem c_X5_in (l : Launch) (D : va_G) (k : Nat → ClassId)   (v : Int64) (lo : Int64) (up : Int64)  : mI l yX5_in (wsY yX5_in cX5_in 6 (some .boolean)) 0 D k [.long v, .long lo, .long up] [] [] (m_X5_in_r v lo up) := by
  refine mI_intro rfl (Nat.le_of_ble_eq_true rfl) (Or.inr ⟨rfl, by rw [m_X5_in_r]; exact (nb_ite rfl (nb_ite rfl rfl))⟩) ?_
  intro p e s m args below meth c A Q ls X hW hl hQ
  have hx := X.hx
  have hb := X.hb
  have hl : lv_has ls 6 [(0, .long v), (2, .long lo), (4, .long up)] := hl
  refine lv_lload_n hx hb dX5_in_0 rfl (lv_at hl 0 rfl) ?_
  refine lv_lload_n hx hb dX5_in_1 rfl (lv_at hl 1 rfl) ?_
  refine W.lcmp hx hb dX5_in_2 ?_
  refine lv_if_lt (tgt := 17) hx hb dX5_in_3 (by decide) (fun c_1 => ?_) (fun c_1 => ?_)
  · have c_1 : v < lo := lc_lt.mp c_1
    refine lv_iconst (v := nI 0) hx hb dX5_in_17 (by decide +kernel) ?_
    exact hQ _ _ _ _ _ _ hW dX5_in_18 (by rw [m_X5_in_r, if_pos c_1]) rfl
  · have c_1 : ¬ (v < lo) := fun h => c_1 (lc_lt.mpr h)
    refine lv_lload_n hx hb dX5_in_6 rfl (lv_at hl 0 rfl) ?_
    refine lv_lload hx hb dX5_in_7 (lv_at hl 2 rfl) ?_
    refine W.lcmp hx hb dX5_in_9 ?_
    refine lv_if_gt (tgt := 17) hx hb dX5_in_10 (by decide) (fun c_2 => ?_) (fun c_2 => ?_)
    · have c_2 : up < v := Classical.byContradiction (fun h => k_gtl c_2 (lc_le.mpr h))
      refine lv_iconst (v := nI 0) hx hb dX5_in_17 (by decide +kernel) ?_
      exact hQ _ _ _ _ _ _ hW dX5_in_18 (by rw [m_X5_in_r, if_neg c_1, if_pos c_2]) rfl
    · have c_2 : ¬ (up < v) := lc_le.mp (k_ngtl c_2)
      refine lv_iconst (v := nI 1) hx hb dX5_in_13 (by decide +kernel) ?_
      refine lv_goto (tgt := 18) hx hb dX5_in_14 (by decide) ?_
      exact hQ _ _ _ _ _ _ hW dX5_in_18 (by rw [m_X5_in_r, if_neg c_1, if_neg c_2]) rfl
def m_X5_get_r (f : Nat → Int32) (q : Nat) (w : Nat) : Int32 := f (10 + (10 * q) + w)
set_option maxHeartbeats 4000000 in
set_option maxRecDepth 100000 in
theorem c_X5_get (l : Launch) (D : va_G) (k : Nat → ClassId) (a : Nat → Nat) (z : Nat → Int32) (f : Nat → Int32) (kp : Nat → Int32) (hi : Nat → Int32) (sl : Nat → Int32) (sv : Nat → Int32) (tx : Nat → Int32) (td : Nat → Int32) (q : Nat) (w : Nat) (hq : q < 3) (hw : w < 10) : mI l yX5_get (wsY yX5_get cX5_get 3 (some .int)) 0 D k [.ref (a 0), .int (nI q), .int (nI w)] (refW k a z f kp hi sl sv tx td) (refW k a z f kp hi sl sv tx td) (m_X5_get_r f q w) := by
  refine mI_intro rfl (Nat.le_of_ble_eq_true rfl) (Or.inl rfl) ?_
  intro p e s m args below meth c A Q ls X hW hl hQ
  have hx := X.hx
  have hb := X.hb
  have hl : lv_has ls 3 [(0, .ref (a 0)), (1, .int (nI q)), (2, .int (nI w))] := hl
  refine lv_aload_n hx hb dX5_get_0 rfl (lv_at hl 0 rfl) ?_
  refine k_get X hW inG5 rfl 0 (by decide) fl_X5_7 rfl 0 rfl (v := .ref (a 1)) rfl dX5_get_1 ?_
  refine lv_bipush (v := nI 10) hx hb dX5_get_4 (by decide +kernel) ?_
  refine lv_bipush (v := nI 10) hx hb dX5_get_6 (by decide +kernel) ?_
  refine lv_iload_n hx hb dX5_get_8 rfl (lv_at hl 1 rfl) ?_
  refine lv_imul hx hb dX5_get_9 ?_
  refine k_top (y := nI (10 * q)) (pk_mul _ _) ?_
  refine lv_iadd hx hb dX5_get_10 ?_
  refine k_top (y := nI (10 + (10 * q))) (nI_add _ _) ?_
  refine lv_iload_n hx hb dX5_get_11 rfl (lv_at hl 2 rfl) ?_
  refine lv_iadd hx hb dX5_get_12 ?_
  refine k_top (y := nI (10 + (10 * q) + w)) (nI_add _ _) ?_
  refine k_iald X hW 1 rfl (j := (10 + (10 * q) + w)) (v := f (10 + (10 * q) + w)) rfl (by omega) (by decide) rfl dX5_get_13 ?_
  exact hQ _ _ _ _ _ _ hW dX5_get_14 (by rw [m_X5_get_r]) rfl
def m_X5_lays_f (f : Nat → Int32) (q : Nat) (w : Nat) (v : Int32) : Nat → Int32 := upd f (10 + (10 * q) + w) v
set_option maxHeartbeats 4000000 in
set_option maxRecDepth 100000 in
theorem c_X5_lays (l : Launch) (D : va_G) (k : Nat → ClassId) (a : Nat → Nat) (z : Nat → Int32) (f : Nat → Int32) (kp : Nat → Int32) (hi : Nat → Int32) (sl : Nat → Int32) (sv : Nat → Int32) (tx : Nat → Int32) (td : Nat → Int32) (q : Nat) (w : Nat) (v : Int32) (hq : q < 3) (hw : w < 10) : mV l yX5_lays (wsY yX5_lays cX5_lays 4 none) 0 D k [.ref (a 0), .int (nI q), .int (nI w), .int v] (refW k a z f kp hi sl sv tx td) (refW k a z (m_X5_lays_f f q w v) kp hi sl sv tx td) := by
  refine mV_intro rfl (Nat.le_of_ble_eq_true rfl) ?_
  intro p e s m args below meth c A Q ls X hW hl hQ
  have hx := X.hx
  have hb := X.hb
  have hl : lv_has ls 4 [(0, .ref (a 0)), (1, .int (nI q)), (2, .int (nI w)), (3, .int v)] := hl
  refine lv_aload_n hx hb dX5_lays_0 rfl (lv_at hl 0 rfl) ?_
  refine k_get X hW inG5 rfl 0 (by decide) fl_X5_7 rfl 0 rfl (v := .ref (a 1)) rfl dX5_lays_1 ?_
  refine lv_bipush (v := nI 10) hx hb dX5_lays_4 (by decide +kernel) ?_
  refine lv_bipush (v := nI 10) hx hb dX5_lays_6 (by decide +kernel) ?_
  refine lv_iload_n hx hb dX5_lays_8 rfl (lv_at hl 1 rfl) ?_
  refine lv_imul hx hb dX5_lays_9 ?_
  refine k_top (y := nI (10 * q)) (pk_mul _ _) ?_
  refine lv_iadd hx hb dX5_lays_10 ?_
  refine k_top (y := nI (10 + (10 * q))) (nI_add _ _) ?_
  refine lv_iload_n hx hb dX5_lays_11 rfl (lv_at hl 2 rfl) ?_
  refine lv_iadd hx hb dX5_lays_12 ?_
  refine k_top (y := nI (10 + (10 * q) + w)) (nI_add _ _) ?_
  refine lv_iload_n hx hb dX5_lays_13 rfl (lv_at hl 3 rfl) ?_
  refine k_iast X hW 1 rfl (j := (10 + (10 * q) + w)) rfl (by omega) (by decide) dX5_lays_14 (w' := refW k a z (upd f (10 + (10 * q) + w) v) kp hi sl sv tx td) rfl (fun H locs hW => ?_)
  exact hQ _ _ _ _ _ hW dX5_lays_15 (by rw [m_X5_lays_f])
def m_X5_more_f (f : Nat → Int32) (q : Nat) (w : Nat) (v : Int32) : Nat → Int32 := upd f (10 + (10 * q) + w) ((f (10 + (10 * q) + w)) + v)
set_option maxHeartbeats 4000000 in
set_option maxRecDepth 100000 in
theorem c_X5_more (l : Launch) (D : va_G) (k : Nat → ClassId) (a : Nat → Nat) (z : Nat → Int32) (f : Nat → Int32) (kp : Nat → Int32) (hi : Nat → Int32) (sl : Nat → Int32) (sv : Nat → Int32) (tx : Nat → Int32) (td : Nat → Int32) (q : Nat) (w : Nat) (v : Int32) (hq : q < 3) (hw : w < 10) : mV l yX5_more (wsY yX5_more cX5_more 4 none) 0 D k [.ref (a 0), .int (nI q), .int (nI w), .int v] (refW k a z f kp hi sl sv tx td) (refW k a z (m_X5_more_f f q w v) kp hi sl sv tx td) := by
  refine mV_intro rfl (Nat.le_of_ble_eq_true rfl) ?_
  intro p e s m args below meth c A Q ls X hW hl hQ
  have hx := X.hx
  have hb := X.hb
  have hl : lv_has ls 4 [(0, .ref (a 0)), (1, .int (nI q)), (2, .int (nI w)), (3, .int v)] := hl
  refine lv_aload_n hx hb dX5_more_0 rfl (lv_at hl 0 rfl) ?_
  refine k_get X hW inG5 rfl 0 (by decide) fl_X5_7 rfl 0 rfl (v := .ref (a 1)) rfl dX5_more_1 ?_
  refine lv_bipush (v := nI 10) hx hb dX5_more_4 (by decide +kernel) ?_
  refine lv_bipush (v := nI 10) hx hb dX5_more_6 (by decide +kernel) ?_
  refine lv_iload_n hx hb dX5_more_8 rfl (lv_at hl 1 rfl) ?_
  refine lv_imul hx hb dX5_more_9 ?_
  refine k_top (y := nI (10 * q)) (pk_mul _ _) ?_
  refine lv_iadd hx hb dX5_more_10 ?_
  refine k_top (y := nI (10 + (10 * q))) (nI_add _ _) ?_
  refine lv_iload_n hx hb dX5_more_11 rfl (lv_at hl 2 rfl) ?_
  refine lv_iadd hx hb dX5_more_12 ?_
  refine k_top (y := nI (10 + (10 * q) + w)) (nI_add _ _) ?_
  refine lv_dup2_11 hx hb dX5_more_13 rfl rfl ?_
  refine k_iald X hW 1 rfl (j := (10 + (10 * q) + w)) (v := f (10 + (10 * q) + w)) rfl (by omega) (by decide) rfl dX5_more_14 ?_
  refine lv_iload_n hx hb dX5_more_15 rfl (lv_at hl 3 rfl) ?_
  refine lv_iadd hx hb dX5_more_16 ?_
  refine k_iast X hW 1 rfl (j := (10 + (10 * q) + w)) rfl (by omega) (by decide) dX5_more_17 (w' := refW k a z (upd f (10 + (10 * q) + w) ((f (10 + (10 * q) + w)) + v)) kp hi sl sv tx td) rfl (fun H locs hW => ?_)
  exact hQ _ _ _ _ _ hW dX5_more_18 (by rw [m_X5_more_f])
theorem WF_lays {f : Nat → Int32} (q w : Nat) (v : Int32) (h : WF f) : WF (m_X5_lays_f f q w v) := WF_ge h (by omega)
theorem WF_more {f : Nat → Int32} (q w : Nat) (v : Int32) (h : WF f) : WF (m_X5_more_f f q w v) := WF_ge h (by omega)
def m_X5_frameAt_r (f : Nat → Int32) (fr : Nat) (w : Nat) : Int32 := f (40 + (4 * fr) + w)
set_option maxHeartbeats 4000000 in
set_option maxRecDepth 100000 in
theorem c_X5_frameAt (l : Launch) (D : va_G) (k : Nat → ClassId) (a : Nat → Nat) (z : Nat → Int32) (f : Nat → Int32) (kp : Nat → Int32) (hi : Nat → Int32) (sl : Nat → Int32) (sv : Nat → Int32) (tx : Nat → Int32) (td : Nat → Int32) (fr : Nat) (w : Nat) (hq : fr < 400) (hw : w < 4) : mI l yX5_frameAt (wsY yX5_frameAt cX5_frameAt 3 (some .int)) 0 D k [.ref (a 0), .int (nI fr), .int (nI w)] (refW k a z f kp hi sl sv tx td) (refW k a z f kp hi sl sv tx td) (m_X5_frameAt_r f fr w) := by
  refine mI_intro rfl (Nat.le_of_ble_eq_true rfl) (Or.inl rfl) ?_
  intro p e s m args below meth c A Q ls X hW hl hQ
  have hx := X.hx
  have hb := X.hb
  have hl : lv_has ls 3 [(0, .ref (a 0)), (1, .int (nI fr)), (2, .int (nI w))] := hl
  refine lv_aload_n hx hb dX5_frameAt_0 rfl (lv_at hl 0 rfl) ?_
  refine k_get X hW inG5 rfl 0 (by decide) fl_X5_7 rfl 0 rfl (v := .ref (a 1)) rfl dX5_frameAt_1 ?_
  refine lv_bipush (v := nI 40) hx hb dX5_frameAt_4 (by decide +kernel) ?_
  refine lv_iconst (v := nI 4) hx hb dX5_frameAt_6 (by decide +kernel) ?_
  refine lv_iload_n hx hb dX5_frameAt_7 rfl (lv_at hl 1 rfl) ?_
  refine lv_imul hx hb dX5_frameAt_8 ?_
  refine k_top (y := nI (4 * fr)) (pk_mul _ _) ?_
  refine lv_iadd hx hb dX5_frameAt_9 ?_
  refine k_top (y := nI (40 + (4 * fr))) (nI_add _ _) ?_
  refine lv_iload_n hx hb dX5_frameAt_10 rfl (lv_at hl 2 rfl) ?_
  refine lv_iadd hx hb dX5_frameAt_11 ?_
  refine k_top (y := nI (40 + (4 * fr) + w)) (nI_add _ _) ?_
  refine k_iald X hW 1 rfl (j := (40 + (4 * fr) + w)) (v := f (40 + (4 * fr) + w)) rfl (by omega) (by decide) rfl dX5_frameAt_12 ?_
  exact hQ _ _ _ _ _ _ hW dX5_frameAt_13 (by rw [m_X5_frameAt_r]) rfl
def m_X5_isInRing_r (f : Nat → Int32) (fr : Nat) (q : Nat) : Int32 := if (m_X5_frameAt_r f fr 2) = 0 then (if (m_X5_frameAt_r f fr 0) - (m_X5_frameAt_r f fr 0) / (nI 3) * (nI 3) = nI q then nI 1 else nI 0) else nI 0
set_option maxHeartbeats 4000000 in
set_option maxRecDepth 100000 in
theorem c_X5_isInRing (l : Launch) (D : va_G) (k : Nat → ClassId) (a : Nat → Nat) (z : Nat → Int32) (f : Nat → Int32) (kp : Nat → Int32) (hi : Nat → Int32) (sl : Nat → Int32) (sv : Nat → Int32) (tx : Nat → Int32) (td : Nat → Int32) (fr : Nat) (q : Nat) (hq : fr < 400) : mI l yX5_isInRing (wsY yX5_isInRing cX5_isInRing 3 (some .boolean)) 1 D k [.ref (a 0), .int (nI fr), .int (nI q)] (refW k a z f kp hi sl sv tx td) (refW k a z f kp hi sl sv tx td) (m_X5_isInRing_r f fr q) := by
  refine mI_intro rfl (Nat.le_of_ble_eq_true rfl) (Or.inr ⟨rfl, by rw [m_X5_isInRing_r]; exact (nb_ite (nb_ite rfl rfl) rfl)⟩) ?_
  intro p e s m args below meth c A Q ls X hW hl hQ
  have hx := X.hx
  have hb := X.hb
  have hl : lv_has ls 3 [(0, .ref (a 0)), (1, .int (nI fr)), (2, .int (nI q))] := hl
  refine lv_aload_n hx hb dX5_isInRing_0 rfl (lv_at hl 0 rfl) ?_
  refine lv_iload_n hx hb dX5_isInRing_1 rfl (lv_at hl 1 rfl) ?_
  refine lv_iconst (v := nI 2) hx hb dX5_isInRing_2 (by decide +kernel) ?_
  obtain ⟨z_1, hz_1⟩ : ∃ zq, m_X5_frameAt_r f fr 2 = zq := ⟨_, rfl⟩
  have hM_2 := (c_X5_frameAt l D k a z f kp hi sl sv tx td fr 2 (by first | decide | omega) (by first | decide | omega))
  rw [hz_1] at hM_2
  refine kVi (As := [.int (nI fr), .int (nI 2)]) (rest := []) X hW hM_2 yw_X5_frameAt lk_X5_45 ⟨Nat.le_of_ble_eq_true rfl, Nat.le_of_ble_eq_true rfl⟩ (wr := []) (List.Perm.refl _) (w' := refW k a z f kp hi sl sv tx td) (List.Perm.refl _) (k_rcv X hW (ci := 5) (q0 := 0) rfl rfl) rfl hl.1 rfl (Nat.le_of_ble_eq_true rfl) ⟨Nat.zero_le _, Nat.zero_le _⟩ dX5_isInRing_3 (fun H locs hW => ?_)
  refine lv_if_ne (tgt := 25) hx hb dX5_isInRing_6 (by decide) (fun c_3 => ?_) (fun c_3 => ?_)
  · refine lv_iconst (v := nI 0) hx hb dX5_isInRing_25 (by decide +kernel) ?_
    exact hQ _ _ _ _ _ _ hW dX5_isInRing_26 (by subst hz_1; rw [m_X5_isInRing_r, if_neg c_3]) rfl
  · refine lv_aload_n hx hb dX5_isInRing_9 rfl (lv_at hl 0 rfl) ?_
    refine lv_iload_n hx hb dX5_isInRing_10 rfl (lv_at hl 1 rfl) ?_
    refine lv_iconst (v := nI 0) hx hb dX5_isInRing_11 (by decide +kernel) ?_
    obtain ⟨z_4, hz_4⟩ : ∃ zq, m_X5_frameAt_r f fr 0 = zq := ⟨_, rfl⟩
    have hM_5 := (c_X5_frameAt l D k a z f kp hi sl sv tx td fr 0 (by first | decide | omega) (by first | decide | omega))
    rw [hz_4] at hM_5
    refine kVi (As := [.int (nI fr), .int (nI 0)]) (rest := []) X hW hM_5 yw_X5_frameAt lk_X5_45 ⟨Nat.le_of_ble_eq_true rfl, Nat.le_of_ble_eq_true rfl⟩ (wr := []) (List.Perm.refl _) (w' := refW k a z f kp hi sl sv tx td) (List.Perm.refl _) (k_rcv X hW (ci := 5) (q0 := 0) rfl rfl) rfl hl.1 rfl (Nat.le_of_ble_eq_true rfl) ⟨Nat.zero_le _, Nat.zero_le _⟩ dX5_isInRing_12 (fun H locs hW => ?_)
    refine lv_iconst (v := nI 3) hx hb dX5_isInRing_15 (by decide +kernel) ?_
    refine lv_irem hx hb dX5_isInRing_16 (by decide +kernel) ?_
    refine lv_iload_n hx hb dX5_isInRing_17 rfl (lv_at hl 2 rfl) ?_
    refine lv_icmp_ne (tgt := 25) hx hb dX5_isInRing_18 (by decide) (fun c_6 => ?_) (fun c_6 => ?_)
    · refine lv_iconst (v := nI 0) hx hb dX5_isInRing_25 (by decide +kernel) ?_
      exact hQ _ _ _ _ _ _ hW dX5_isInRing_26 (by subst hz_4; subst hz_1; rw [m_X5_isInRing_r, if_pos c_3, if_neg c_6]) rfl
    · refine lv_iconst (v := nI 1) hx hb dX5_isInRing_21 (by decide +kernel) ?_
      refine lv_goto (tgt := 26) hx hb dX5_isInRing_22 (by decide) ?_
      exact hQ _ _ _ _ _ _ hW dX5_isInRing_26 (by subst hz_4; subst hz_1; rw [m_X5_isInRing_r, if_pos c_3, if_pos c_6]) rfl
def lp_ring (f : Nat → Int32) (q : Nat) : Nat → Nat → Nat → Nat
  | 0, _, n => n
  | r + 1, i, n => if m_X5_isInRing_r f i q = 0 then lp_ring f q r (i + 1) n else lp_ring f q r (i + 1) (n + 1)
def lp_old (f : Nat → Int32) (q : Nat) : Nat → Nat → Int32
  | 0, _ => (-6)
  | r + 1, i => if m_X5_isInRing_r f i q = 0 then lp_old f q r (i + 1) else nI i
def lp_pl (f : Nat → Int32) (q : Nat) : Nat → Nat → Int32
  | 0, _ => (-6)
  | r + 1, i => if f (7 + i) = nI q then nI i else lp_pl f q r (i + 1)
def m_X5_ring_r (f : Nat → Int32) (q : Nat) : Int32 := nI (lp_ring f q (tn (f 5)) 0 0)
def m_X5_oldest_r (f : Nat → Int32) (q : Nat) : Int32 := lp_old f q (tn (f 5)) 0
def m_X5_placeInRow_r (f : Nat → Int32) (q : Nat) : Int32 := lp_pl f q (tn (f 6)) 0
theorem lp_ring_le (f : Nat → Int32) (q : Nat) : ∀ (r i n : Nat), lp_ring f q r i n ≤ n + r := by
  intro r
  induction r with
  | zero => intro i n; exact Nat.le_refl _
  | succ r ih =>
    intro i n
    rw [lp_ring]
    split
    · exact Nat.le_trans (ih _ _) (by omega)
    · exact Nat.le_trans (ih _ _) (by omega)
theorem old_n (f : Nat → Int32) (q : Nat) : ∀ (r i : Nat), lp_old f q r i = (-6) ∨ (∃ j, j < i + r ∧ lp_old f q r i = nI j) := by
  intro r
  induction r with
  | zero => intro i; exact Or.inl rfl
  | succ r ih =>
    intro i
    rw [lp_old]
    split
    · rcases ih (i + 1) with h | ⟨j, h1, h2⟩
      · exact Or.inl h
      · exact Or.inr ⟨j, by omega, h2⟩
    · exact Or.inr ⟨i, by omega, rfl⟩
theorem oldest_n {f : Nat → Int32} {q : Nat} (hf : WF f) (h : ¬ m_X5_oldest_r f q = (-6)) : m_X5_oldest_r f q = nI (tn (m_X5_oldest_r f q)) ∧ tn (m_X5_oldest_r f q) < tn (f 5) := by
  rcases old_n f q (tn (f 5)) 0 with e | ⟨j, h1, h2⟩
  · exact absurd e h
  · have e : m_X5_oldest_r f q = nI j := h2
    have := hf.1.2
    rw [e, tn_of rfl (by omega)]
    exact ⟨rfl, by omega⟩
set_option maxHeartbeats 4000000 in
set_option maxRecDepth 100000 in
theorem c_X5_ring (l : Launch) (D : va_G) (k : Nat → ClassId) (a : Nat → Nat) (z : Nat → Int32) (f : Nat → Int32) (kp : Nat → Int32) (hi : Nat → Int32) (sl : Nat → Int32) (sv : Nat → Int32) (tx : Nat → Int32) (td : Nat → Int32) (q : Nat) (hf : WF f)  : mI l yX5_ring (wsY yX5_ring cX5_ring 4 (some .int)) 2 D k [.ref (a 0), .int (nI q)] (refW k a z f kp hi sl sv tx td) (refW k a z f kp hi sl sv tx td) (m_X5_ring_r f q) := by
  refine mI_intro rfl (Nat.le_of_ble_eq_true rfl) (Or.inl rfl) ?_
  intro p e s m args below meth c A Q ls X hW hl hQ
  have hx := X.hx
  have hb := X.hb
  have hl : lv_has ls 4 [(0, .ref (a 0)), (1, .int (nI q))] := hl
  have hq_1 := hf.1.2
  have hq_2 := hf.2.1.2
  have hq_3 := hf.2.2.1.2
  refine lv_iconst (v := nI 0) hx hb dX5_ring_0 (by decide +kernel) ?_
  refine lv_istore_n (lv' := [(2, .int (nI 0)), (0, .ref (a 0)), (1, .int (nI q))]) hx hb dX5_ring_1 rfl hl (by decide) rfl (fun ls hl => ?_)
  refine lv_iconst (v := nI 0) hx hb dX5_ring_2 (by decide +kernel) ?_
  refine lv_istore_n (lv' := [(3, .int (nI 0)), (2, .int (nI 0)), (0, .ref (a 0)), (1, .int (nI q))]) hx hb dX5_ring_3 rfl hl (by decide) rfl (fun ls hl => ?_)
  have lp : ∀ (r : Nat) (i n : Nat) (H : Heap) (locs : List Loc) (ls : Array Slot), i + r = tn (f 5) → m_X5_ring_r f q = nI (lp_ring f q r i n) → KW D A s (refW k a z f kp hi sl sv tx td) H locs → lv_has ls 4 [(3, .int (nI i)), (2, .int (nI n)), (0, .ref (a 0)), (1, .int (nI q))] → W p l e (rmD 2) s m args below meth c H locs 0 0 Q (F0 m 4 ls []) := by
    intro r
    induction r with
    | zero =>
      intro i n H locs ls hir hr hW hl
      refine lv_iload_n hx hb dX5_ring_4 rfl (lv_at hl 0 rfl) ?_
      refine lv_aload_n hx hb dX5_ring_5 rfl (lv_at hl 2 rfl) ?_
      refine k_get X hW inG5 rfl 0 (by decide) fl_X5_7 rfl 0 rfl (v := .ref (a 1)) rfl dX5_ring_6 ?_
      refine lv_iconst (v := nI 5) hx hb dX5_ring_9 (by decide +kernel) ?_
      refine k_iald X hW 1 rfl (j := 5) (v := f 5) rfl (by decide) (by decide) rfl dX5_ring_10 ?_
      refine k_top (y := nI (tn (f 5))) (hf.1.1) ?_
      refine lv_icmp_ge (tgt := 37) hx hb dX5_ring_11 (by decide) (fun c_4 => ?_) (fun c_4 => ?_)
      · have c_4 : tn (f 5) ≤ i := (nI_leI (a := tn (f 5)) (b := i) (by omega) (by omega)).mp c_4
        refine lv_iload_n hx hb dX5_ring_37 rfl (lv_at hl 1 rfl) ?_
        exact hQ _ _ _ _ _ _ hW dX5_ring_38 (by rw [hr, lp_ring]) rfl
      · have c_4 : ¬ (tn (f 5) ≤ i) := fun h => c_4 ((nI_leI (a := tn (f 5)) (b := i) (by omega) (by omega)).mpr h)
        omega
    | succ r ih =>
      intro i n H locs ls hir hr hW hl
      refine lv_iload_n hx hb dX5_ring_4 rfl (lv_at hl 0 rfl) ?_
      refine lv_aload_n hx hb dX5_ring_5 rfl (lv_at hl 2 rfl) ?_
      refine k_get X hW inG5 rfl 0 (by decide) fl_X5_7 rfl 0 rfl (v := .ref (a 1)) rfl dX5_ring_6 ?_
      refine lv_iconst (v := nI 5) hx hb dX5_ring_9 (by decide +kernel) ?_
      refine k_iald X hW 1 rfl (j := 5) (v := f 5) rfl (by decide) (by decide) rfl dX5_ring_10 ?_
      refine k_top (y := nI (tn (f 5))) (hf.1.1) ?_
      refine lv_icmp_ge (tgt := 37) hx hb dX5_ring_11 (by decide) (fun c_5 => ?_) (fun c_5 => ?_)
      · have c_5 : tn (f 5) ≤ i := (nI_leI (a := tn (f 5)) (b := i) (by omega) (by omega)).mp c_5
        omega
      · have c_5 : ¬ (tn (f 5) ≤ i) := fun h => c_5 ((nI_leI (a := tn (f 5)) (b := i) (by omega) (by omega)).mpr h)
        refine lv_iload_n hx hb dX5_ring_14 rfl (lv_at hl 1 rfl) ?_
        refine lv_aload_n hx hb dX5_ring_15 rfl (lv_at hl 2 rfl) ?_
        refine lv_iload_n hx hb dX5_ring_16 rfl (lv_at hl 0 rfl) ?_
        refine lv_iload_n hx hb dX5_ring_17 rfl (lv_at hl 3 rfl) ?_
        obtain ⟨z_6, hz_6⟩ : ∃ zq, m_X5_isInRing_r f i q = zq := ⟨_, rfl⟩
        have hM_7 := (c_X5_isInRing l D k a z f kp hi sl sv tx td i q (by first | decide | omega))
        rw [hz_6] at hM_7
        refine kVi (As := [.int (nI i), .int (nI q)]) (rest := [.int (nI n)]) X hW hM_7 yw_X5_isInRing lk_X5_49 ⟨Nat.le_of_ble_eq_true rfl, Nat.le_of_ble_eq_true rfl⟩ (wr := []) (List.Perm.refl _) (w' := refW k a z f kp hi sl sv tx td) (List.Perm.refl _) (k_rcv X hW (ci := 5) (q0 := 0) rfl rfl) rfl hl.1 rfl (Nat.le_of_ble_eq_true rfl) ⟨Nat.zero_le _, Nat.zero_le _⟩ dX5_ring_18 (fun H locs hW => ?_)
        refine lv_if_eq (tgt := 28) hx hb dX5_ring_21 (by decide) (fun c_8 => ?_) (fun c_8 => ?_)
        · refine lv_iconst (v := nI 0) hx hb dX5_ring_28 (by decide +kernel) ?_
          refine lv_iadd hx hb dX5_ring_29 ?_
          refine k_top (y := nI n) (by rw [nI_add]; simp) ?_
          refine lv_istore_n (lv' := [(2, .int (nI n)), (3, .int (nI i)), (0, .ref (a 0)), (1, .int (nI q))]) hx hb dX5_ring_30 rfl hl (by decide) rfl (fun ls hl => ?_)
          refine lv_iinc (v := nI (i + 1)) (lv' := [(3, .int (nI (i + 1))), (2, .int (nI n)), (0, .ref (a 0)), (1, .int (nI q))]) hx hb dX5_ring_31 hl (k := 1) rfl (k_inc _) (by decide) rfl (fun ls hl => ?_)
          refine lv_goto (tgt := 4) hx hb dX5_ring_34 (by decide) ?_
          subst hz_6
          exact ih (i + 1) (n) _ _ _ (by omega) (by rw [hr, lp_ring, if_pos c_8]) hW (lv_sub hl [0, 1, 2, 3] rfl)
        · refine lv_iconst (v := nI 1) hx hb dX5_ring_24 (by decide +kernel) ?_
          refine lv_goto (tgt := 29) hx hb dX5_ring_25 (by decide) ?_
          refine lv_iadd hx hb dX5_ring_29 ?_
          refine k_top (y := nI (n + 1)) (nI_add _ _) ?_
          refine lv_istore_n (lv' := [(2, .int (nI (n + 1))), (3, .int (nI i)), (0, .ref (a 0)), (1, .int (nI q))]) hx hb dX5_ring_30 rfl hl (by decide) rfl (fun ls hl => ?_)
          refine lv_iinc (v := nI (i + 1)) (lv' := [(3, .int (nI (i + 1))), (2, .int (nI (n + 1))), (0, .ref (a 0)), (1, .int (nI q))]) hx hb dX5_ring_31 hl (k := 1) rfl (k_inc _) (by decide) rfl (fun ls hl => ?_)
          refine lv_goto (tgt := 4) hx hb dX5_ring_34 (by decide) ?_
          subst hz_6
          exact ih (i + 1) (n + 1) _ _ _ (by omega) (by rw [hr, lp_ring, if_neg c_8]) hW (lv_sub hl [0, 1, 2, 3] rfl)
  exact lp (tn (f 5)) 0 0 _ _ _ (by omega) rfl hW (lv_sub hl [0, 1, 2, 3] rfl)
theorem ring_n {f : Nat → Int32} {q : Nat} (hf : WF f) : m_X5_ring_r f q = nI (tn (m_X5_ring_r f q)) ∧ tn (m_X5_ring_r f q) ≤ 400 := by
  have h := lp_ring_le f q (tn (f 5)) 0 0
  have := hf.1.2
  have e : m_X5_ring_r f q = nI (lp_ring f q (tn (f 5)) 0 0) := rfl
  rw [e, tn_of rfl (by omega)]
  exact ⟨rfl, by omega⟩
set_option maxHeartbeats 4000000 in
set_option maxRecDepth 100000 in
theorem c_X5_oldest (l : Launch) (D : va_G) (k : Nat → ClassId) (a : Nat → Nat) (z : Nat → Int32) (f : Nat → Int32) (kp : Nat → Int32) (hi : Nat → Int32) (sl : Nat → Int32) (sv : Nat → Int32) (tx : Nat → Int32) (td : Nat → Int32) (q : Nat) (hf : WF f)  : mI l yX5_oldest (wsY yX5_oldest cX5_oldest 3 (some .int)) 2 D k [.ref (a 0), .int (nI q)] (refW k a z f kp hi sl sv tx td) (refW k a z f kp hi sl sv tx td) (m_X5_oldest_r f q) := by
  refine mI_intro rfl (Nat.le_of_ble_eq_true rfl) (Or.inl rfl) ?_
  intro p e s m args below meth c A Q ls X hW hl hQ
  have hx := X.hx
  have hb := X.hb
  have hl : lv_has ls 3 [(0, .ref (a 0)), (1, .int (nI q))] := hl
  have hq_1 := hf.1.2
  have hq_2 := hf.2.1.2
  have hq_3 := hf.2.2.1.2
  refine lv_iconst (v := nI 0) hx hb dX5_oldest_0 (by decide +kernel) ?_
  refine lv_istore_n (lv' := [(2, .int (nI 0)), (0, .ref (a 0)), (1, .int (nI q))]) hx hb dX5_oldest_1 rfl hl (by decide) rfl (fun ls hl => ?_)
  have lp : ∀ (r : Nat) (i : Nat) (H : Heap) (locs : List Loc) (ls : Array Slot), i + r = tn (f 5) → m_X5_oldest_r f q = lp_old f q r i → KW D A s (refW k a z f kp hi sl sv tx td) H locs → lv_has ls 3 [(2, .int (nI i)), (0, .ref (a 0)), (1, .int (nI q))] → W p l e (rmD 2) s m args below meth c H locs 0 0 Q (F0 m 2 ls []) := by
    intro r
    induction r with
    | zero =>
      intro i H locs ls hir hr hW hl
      refine lv_iload_n hx hb dX5_oldest_2 rfl (lv_at hl 0 rfl) ?_
      refine lv_aload_n hx hb dX5_oldest_3 rfl (lv_at hl 1 rfl) ?_
      refine k_get X hW inG5 rfl 0 (by decide) fl_X5_7 rfl 0 rfl (v := .ref (a 1)) rfl dX5_oldest_4 ?_
      refine lv_iconst (v := nI 5) hx hb dX5_oldest_7 (by decide +kernel) ?_
      refine k_iald X hW 1 rfl (j := 5) (v := f 5) rfl (by decide) (by decide) rfl dX5_oldest_8 ?_
      refine k_top (y := nI (tn (f 5))) (hf.1.1) ?_
      refine lv_icmp_ge (tgt := 29) hx hb dX5_oldest_9 (by decide) (fun c_4 => ?_) (fun c_4 => ?_)
      · have c_4 : tn (f 5) ≤ i := (nI_leI (a := tn (f 5)) (b := i) (by omega) (by omega)).mp c_4
        refine lv_bipush (v := (-6)) hx hb dX5_oldest_29 (by decide +kernel) ?_
        exact hQ _ _ _ _ _ _ hW dX5_oldest_31 (by rw [hr, lp_old]) rfl
      · have c_4 : ¬ (tn (f 5) ≤ i) := fun h => c_4 ((nI_leI (a := tn (f 5)) (b := i) (by omega) (by omega)).mpr h)
        omega
    | succ r ih =>
      intro i H locs ls hir hr hW hl
      refine lv_iload_n hx hb dX5_oldest_2 rfl (lv_at hl 0 rfl) ?_
      refine lv_aload_n hx hb dX5_oldest_3 rfl (lv_at hl 1 rfl) ?_
      refine k_get X hW inG5 rfl 0 (by decide) fl_X5_7 rfl 0 rfl (v := .ref (a 1)) rfl dX5_oldest_4 ?_
      refine lv_iconst (v := nI 5) hx hb dX5_oldest_7 (by decide +kernel) ?_
      refine k_iald X hW 1 rfl (j := 5) (v := f 5) rfl (by decide) (by decide) rfl dX5_oldest_8 ?_
      refine k_top (y := nI (tn (f 5))) (hf.1.1) ?_
      refine lv_icmp_ge (tgt := 29) hx hb dX5_oldest_9 (by decide) (fun c_5 => ?_) (fun c_5 => ?_)
      · have c_5 : tn (f 5) ≤ i := (nI_leI (a := tn (f 5)) (b := i) (by omega) (by omega)).mp c_5
        omega
      · have c_5 : ¬ (tn (f 5) ≤ i) := fun h => c_5 ((nI_leI (a := tn (f 5)) (b := i) (by omega) (by omega)).mpr h)
        refine lv_aload_n hx hb dX5_oldest_12 rfl (lv_at hl 1 rfl) ?_
        refine lv_iload_n hx hb dX5_oldest_13 rfl (lv_at hl 0 rfl) ?_
        refine lv_iload_n hx hb dX5_oldest_14 rfl (lv_at hl 2 rfl) ?_
        obtain ⟨z_6, hz_6⟩ : ∃ zq, m_X5_isInRing_r f i q = zq := ⟨_, rfl⟩
        have hM_7 := (c_X5_isInRing l D k a z f kp hi sl sv tx td i q (by first | decide | omega))
        rw [hz_6] at hM_7
        refine kVi (As := [.int (nI i), .int (nI q)]) (rest := []) X hW hM_7 yw_X5_isInRing lk_X5_49 ⟨Nat.le_of_ble_eq_true rfl, Nat.le_of_ble_eq_true rfl⟩ (wr := []) (List.Perm.refl _) (w' := refW k a z f kp hi sl sv tx td) (List.Perm.refl _) (k_rcv X hW (ci := 5) (q0 := 0) rfl rfl) rfl hl.1 rfl (Nat.le_of_ble_eq_true rfl) ⟨Nat.zero_le _, Nat.zero_le _⟩ dX5_oldest_15 (fun H locs hW => ?_)
        refine lv_if_eq (tgt := 23) hx hb dX5_oldest_18 (by decide) (fun c_8 => ?_) (fun c_8 => ?_)
        · refine lv_iinc (v := nI (i + 1)) (lv' := [(2, .int (nI (i + 1))), (0, .ref (a 0)), (1, .int (nI q))]) hx hb dX5_oldest_23 hl (k := 0) rfl (k_inc _) (by decide) rfl (fun ls hl => ?_)
          refine lv_goto (tgt := 2) hx hb dX5_oldest_26 (by decide) ?_
          subst hz_6
          exact ih (i + 1) _ _ _ (by omega) (by rw [hr, lp_old, if_pos c_8]) hW (lv_sub hl [0, 1, 2] rfl)
        · refine lv_iload_n hx hb dX5_oldest_21 rfl (lv_at hl 0 rfl) ?_
          exact hQ _ _ _ _ _ _ hW dX5_oldest_22 (by subst hz_6; rw [hr, lp_old, if_neg c_8]) rfl
  exact lp (tn (f 5)) 0 _ _ _ (by omega) rfl hW (lv_sub hl [0, 1, 2] rfl)
set_option maxHeartbeats 4000000 in
set_option maxRecDepth 100000 in
theorem c_X5_placeInRow (l : Launch) (D : va_G) (k : Nat → ClassId) (a : Nat → Nat) (z : Nat → Int32) (f : Nat → Int32) (kp : Nat → Int32) (hi : Nat → Int32) (sl : Nat → Int32) (sv : Nat → Int32) (tx : Nat → Int32) (td : Nat → Int32) (q : Nat) (hf : WF f)  : mI l yX5_placeInRow (wsY yX5_placeInRow cX5_placeInRow 3 (some .int)) 0 D k [.ref (a 0), .int (nI q)] (refW k a z f kp hi sl sv tx td) (refW k a z f kp hi sl sv tx td) (m_X5_placeInRow_r f q) := by
  refine mI_intro rfl (Nat.le_of_ble_eq_true rfl) (Or.inl rfl) ?_
  intro p e s m args below meth c A Q ls X hW hl hQ
  have hx := X.hx
  have hb := X.hb
  have hl : lv_has ls 3 [(0, .ref (a 0)), (1, .int (nI q))] := hl
  have hq_1 := hf.1.2
  have hq_2 := hf.2.1.2
  have hq_3 := hf.2.2.1.2
  refine lv_iconst (v := nI 0) hx hb dX5_placeInRow_0 (by decide +kernel) ?_
  refine lv_istore_n (lv' := [(2, .int (nI 0)), (0, .ref (a 0)), (1, .int (nI q))]) hx hb dX5_placeInRow_1 rfl hl (by decide) rfl (fun ls hl => ?_)
  have lp : ∀ (r : Nat) (i : Nat) (H : Heap) (locs : List Loc) (ls : Array Slot), i + r = tn (f 6) → m_X5_placeInRow_r f q = lp_pl f q r i → KW D A s (refW k a z f kp hi sl sv tx td) H locs → lv_has ls 3 [(2, .int (nI i)), (0, .ref (a 0)), (1, .int (nI q))] → W p l e (rmD 0) s m args below meth c H locs 0 0 Q (F0 m 2 ls []) := by
    intro r
    induction r with
    | zero =>
      intro i H locs ls hir hr hW hl
      refine lv_iload_n hx hb dX5_placeInRow_2 rfl (lv_at hl 0 rfl) ?_
      refine lv_aload_n hx hb dX5_placeInRow_3 rfl (lv_at hl 1 rfl) ?_
      refine k_get X hW inG5 rfl 0 (by decide) fl_X5_7 rfl 0 rfl (v := .ref (a 1)) rfl dX5_placeInRow_4 ?_
      refine lv_bipush (v := nI 6) hx hb dX5_placeInRow_7 (by decide +kernel) ?_
      refine k_iald X hW 1 rfl (j := 6) (v := f 6) rfl (by decide) (by decide) rfl dX5_placeInRow_9 ?_
      refine k_top (y := nI (tn (f 6))) (hf.2.1.1) ?_
      refine lv_icmp_ge (tgt := 34) hx hb dX5_placeInRow_10 (by decide) (fun c_4 => ?_) (fun c_4 => ?_)
      · have c_4 : tn (f 6) ≤ i := (nI_leI (a := tn (f 6)) (b := i) (by omega) (by omega)).mp c_4
        refine lv_bipush (v := (-6)) hx hb dX5_placeInRow_34 (by decide +kernel) ?_
        exact hQ _ _ _ _ _ _ hW dX5_placeInRow_36 (by rw [hr, lp_pl]) rfl
      · have c_4 : ¬ (tn (f 6) ≤ i) := fun h => c_4 ((nI_leI (a := tn (f 6)) (b := i) (by omega) (by omega)).mpr h)
        omega
    | succ r ih =>
      intro i H locs ls hir hr hW hl
      refine lv_iload_n hx hb dX5_placeInRow_2 rfl (lv_at hl 0 rfl) ?_
      refine lv_aload_n hx hb dX5_placeInRow_3 rfl (lv_at hl 1 rfl) ?_
      refine k_get X hW inG5 rfl 0 (by decide) fl_X5_7 rfl 0 rfl (v := .ref (a 1)) rfl dX5_placeInRow_4 ?_
      refine lv_bipush (v := nI 6) hx hb dX5_placeInRow_7 (by decide +kernel) ?_
      refine k_iald X hW 1 rfl (j := 6) (v := f 6) rfl (by decide) (by decide) rfl dX5_placeInRow_9 ?_
      refine k_top (y := nI (tn (f 6))) (hf.2.1.1) ?_
      refine lv_icmp_ge (tgt := 34) hx hb dX5_placeInRow_10 (by decide) (fun c_5 => ?_) (fun c_5 => ?_)
      · have c_5 : tn (f 6) ≤ i := (nI_leI (a := tn (f 6)) (b := i) (by omega) (by omega)).mp c_5
        omega
      · have c_5 : ¬ (tn (f 6) ≤ i) := fun h => c_5 ((nI_leI (a := tn (f 6)) (b := i) (by omega) (by omega)).mpr h)
        refine lv_aload_n hx hb dX5_placeInRow_13 rfl (lv_at hl 1 rfl) ?_
        refine k_get X hW inG5 rfl 0 (by decide) fl_X5_7 rfl 0 rfl (v := .ref (a 1)) rfl dX5_placeInRow_14 ?_
        refine lv_bipush (v := nI 7) hx hb dX5_placeInRow_17 (by decide +kernel) ?_
        refine lv_iload_n hx hb dX5_placeInRow_19 rfl (lv_at hl 0 rfl) ?_
        refine lv_iadd hx hb dX5_placeInRow_20 ?_
        refine k_top (y := nI (7 + i)) (nI_add _ _) ?_
        refine k_iald X hW 1 rfl (j := (7 + i)) (v := f (7 + i)) rfl (by omega) (by decide) rfl dX5_placeInRow_21 ?_
        refine lv_iload_n hx hb dX5_placeInRow_22 rfl (lv_at hl 2 rfl) ?_
        refine lv_icmp_ne (tgt := 28) hx hb dX5_placeInRow_23 (by decide) (fun c_6 => ?_) (fun c_6 => ?_)
        · refine lv_iinc (v := nI (i + 1)) (lv' := [(2, .int (nI (i + 1))), (0, .ref (a 0)), (1, .int (nI q))]) hx hb dX5_placeInRow_28 hl (k := 0) rfl (k_inc _) (by decide) rfl (fun ls hl => ?_)
          refine lv_goto (tgt := 2) hx hb dX5_placeInRow_31 (by decide) ?_
          exact ih (i + 1) _ _ _ (by omega) (by rw [hr, lp_pl, if_neg c_6]) hW (lv_sub hl [0, 1, 2] rfl)
        · refine lv_iload_n hx hb dX5_placeInRow_26 rfl (lv_at hl 0 rfl) ?_
          exact hQ _ _ _ _ _ _ hW dX5_placeInRow_27 (by rw [hr, lp_pl, if_pos c_6]) rfl
  exact lp (tn (f 6)) 0 _ _ _ (by omega) rfl hW (lv_sub hl [0, 1, 2] rfl)
def m_X5_allOf_r (f : Nat → Int32) (w : Nat) : Int32 := ((m_X5_get_r f 0 w) + (m_X5_get_r f 1 w)) + (m_X5_get_r f 2 w)
set_option maxHeartbeats 4000000 in
set_option maxRecDepth 100000 in
theorem c_X5_allOf (l : Launch) (D : va_G) (k : Nat → ClassId) (a : Nat → Nat) (z : Nat → Int32) (f : Nat → Int32) (kp : Nat → Int32) (hi : Nat → Int32) (sl : Nat → Int32) (sv : Nat → Int32) (tx : Nat → Int32) (td : Nat → Int32) (w : Nat) (hw : w < 10) : mI l yX5_allOf (wsY yX5_allOf cX5_allOf 2 (some .int)) 1 D k [.ref (a 0), .int (nI w)] (refW k a z f kp hi sl sv tx td) (refW k a z f kp hi sl sv tx td) (m_X5_allOf_r f w) := by
  refine mI_intro rfl (Nat.le_of_ble_eq_true rfl) (Or.inl rfl) ?_
  intro p e s m args below meth c A Q ls X hW hl hQ
  have hx := X.hx
  have hb := X.hb
  have hl : lv_has ls 2 [(0, .ref (a 0)), (1, .int (nI w))] := hl
  refine lv_aload_n hx hb dX5_allOf_0 rfl (lv_at hl 0 rfl) ?_
  refine lv_iconst (v := nI 0) hx hb dX5_allOf_1 (by decide +kernel) ?_
  refine lv_iload_n hx hb dX5_allOf_2 rfl (lv_at hl 1 rfl) ?_
  obtain ⟨z_1, hz_1⟩ : ∃ zq, m_X5_get_r f 0 w = zq := ⟨_, rfl⟩
  have hM_2 := (c_X5_get l D k a z f kp hi sl sv tx td 0 w (by first | decide | omega) (by first | decide | omega))
  rw [hz_1] at hM_2
  refine kVi (As := [.int (nI 0), .int (nI w)]) (rest := []) X hW hM_2 yw_X5_get lk_X5_53 ⟨Nat.le_of_ble_eq_true rfl, Nat.le_of_ble_eq_true rfl⟩ (wr := []) (List.Perm.refl _) (w' := refW k a z f kp hi sl sv tx td) (List.Perm.refl _) (k_rcv X hW (ci := 5) (q0 := 0) rfl rfl) rfl hl.1 rfl (Nat.le_of_ble_eq_true rfl) ⟨Nat.zero_le _, Nat.zero_le _⟩ dX5_allOf_3 (fun H locs hW => ?_)
  refine lv_aload_n hx hb dX5_allOf_6 rfl (lv_at hl 0 rfl) ?_
  refine lv_iconst (v := nI 1) hx hb dX5_allOf_7 (by decide +kernel) ?_
  refine lv_iload_n hx hb dX5_allOf_8 rfl (lv_at hl 1 rfl) ?_
  obtain ⟨z_3, hz_3⟩ : ∃ zq, m_X5_get_r f 1 w = zq := ⟨_, rfl⟩
  have hM_4 := (c_X5_get l D k a z f kp hi sl sv tx td 1 w (by first | decide | omega) (by first | decide | omega))
  rw [hz_3] at hM_4
  refine kVi (As := [.int (nI 1), .int (nI w)]) (rest := [.int z_1]) X hW hM_4 yw_X5_get lk_X5_53 ⟨Nat.le_of_ble_eq_true rfl, Nat.le_of_ble_eq_true rfl⟩ (wr := []) (List.Perm.refl _) (w' := refW k a z f kp hi sl sv tx td) (List.Perm.refl _) (k_rcv X hW (ci := 5) (q0 := 0) rfl rfl) rfl hl.1 rfl (Nat.le_of_ble_eq_true rfl) ⟨Nat.zero_le _, Nat.zero_le _⟩ dX5_allOf_9 (fun H locs hW => ?_)
  refine lv_iadd hx hb dX5_allOf_12 ?_
  refine lv_aload_n hx hb dX5_allOf_13 rfl (lv_at hl 0 rfl) ?_
  refine lv_iconst (v := nI 2) hx hb dX5_allOf_14 (by decide +kernel) ?_
  refine lv_iload_n hx hb dX5_allOf_15 rfl (lv_at hl 1 rfl) ?_
  obtain ⟨z_5, hz_5⟩ : ∃ zq, m_X5_get_r f 2 w = zq := ⟨_, rfl⟩
  have hM_6 := (c_X5_get l D k a z f kp hi sl sv tx td 2 w (by first | decide | omega) (by first | decide | omega))
  rw [hz_5] at hM_6
  refine kVi (As := [.int (nI 2), .int (nI w)]) (rest := [.int (z_1 + z_3)]) X hW hM_6 yw_X5_get lk_X5_53 ⟨Nat.le_of_ble_eq_true rfl, Nat.le_of_ble_eq_true rfl⟩ (wr := []) (List.Perm.refl _) (w' := refW k a z f kp hi sl sv tx td) (List.Perm.refl _) (k_rcv X hW (ci := 5) (q0 := 0) rfl rfl) rfl hl.1 rfl (Nat.le_of_ble_eq_true rfl) ⟨Nat.zero_le _, Nat.zero_le _⟩ dX5_allOf_16 (fun H locs hW => ?_)
  refine lv_iadd hx hb dX5_allOf_19 ?_
  exact hQ _ _ _ _ _ _ hW dX5_allOf_20 (by subst hz_5; subst hz_3; subst hz_1; rw [m_X5_allOf_r]) rfl
def m_X5_inRings_r (f : Nat → Int32) : Int32 := ((m_X5_ring_r f 0) + (m_X5_ring_r f 1)) + (m_X5_ring_r f 2)
set_option maxHeartbeats 4000000 in
set_option maxRecDepth 100000 in
theorem c_X5_inRings (l : Launch) (D : va_G) (k : Nat → ClassId) (a : Nat → Nat) (z : Nat → Int32) (f : Nat → Int32) (kp : Nat → Int32) (hi : Nat → Int32) (sl : Nat → Int32) (sv : Nat → Int32) (tx : Nat → Int32) (td : Nat → Int32)  (hf : WF f)  : mI l yX5_inRings (wsY yX5_inRings cX5_inRings 1 (some .int)) 3 D k [.ref (a 0)] (refW k a z f kp hi sl sv tx td) (refW k a z f kp hi sl sv tx td) (m_X5_inRings_r f) := by
  refine mI_intro rfl (Nat.le_of_ble_eq_true rfl) (Or.inl rfl) ?_
  intro p e s m args below meth c A Q ls X hW hl hQ
  have hx := X.hx
  have hb := X.hb
  have hl : lv_has ls 1 [(0, .ref (a 0))] := hl
  have hq_1 := hf.1.2
  have hq_2 := hf.2.1.2
  have hq_3 := hf.2.2.1.2
  refine lv_aload_n hx hb dX5_inRings_0 rfl (lv_at hl 0 rfl) ?_
  refine lv_iconst (v := nI 0) hx hb dX5_inRings_1 (by decide +kernel) ?_
  obtain ⟨z_4, hz_4⟩ : ∃ zq, m_X5_ring_r f 0 = zq := ⟨_, rfl⟩
  have hM_5 := (c_X5_ring l D k a z f kp hi sl sv tx td 0 hf)
  rw [hz_4] at hM_5
  refine kVi (As := [.int (nI 0)]) (rest := []) X hW hM_5 yw_X5_ring lk_X5_56 ⟨Nat.le_of_ble_eq_true rfl, Nat.le_of_ble_eq_true rfl⟩ (wr := []) (List.Perm.refl _) (w' := refW k a z f kp hi sl sv tx td) (List.Perm.refl _) (k_rcv X hW (ci := 5) (q0 := 0) rfl rfl) rfl hl.1 rfl (Nat.le_of_ble_eq_true rfl) ⟨Nat.zero_le _, Nat.zero_le _⟩ dX5_inRings_2 (fun H locs hW => ?_)
  refine lv_aload_n hx hb dX5_inRings_5 rfl (lv_at hl 0 rfl) ?_
  refine lv_iconst (v := nI 1) hx hb dX5_inRings_6 (by decide +kernel) ?_
  obtain ⟨z_6, hz_6⟩ : ∃ zq, m_X5_ring_r f 1 = zq := ⟨_, rfl⟩
  have hM_7 := (c_X5_ring l D k a z f kp hi sl sv tx td 1 hf)
  rw [hz_6] at hM_7
  refine kVi (As := [.int (nI 1)]) (rest := [.int z_4]) X hW hM_7 yw_X5_ring lk_X5_56 ⟨Nat.le_of_ble_eq_true rfl, Nat.le_of_ble_eq_true rfl⟩ (wr := []) (List.Perm.refl _) (w' := refW k a z f kp hi sl sv tx td) (List.Perm.refl _) (k_rcv X hW (ci := 5) (q0 := 0) rfl rfl) rfl hl.1 rfl (Nat.le_of_ble_eq_true rfl) ⟨Nat.zero_le _, Nat.zero_le _⟩ dX5_inRings_7 (fun H locs hW => ?_)
  refine lv_iadd hx hb dX5_inRings_10 ?_
  refine lv_aload_n hx hb dX5_inRings_11 rfl (lv_at hl 0 rfl) ?_
  refine lv_iconst (v := nI 2) hx hb dX5_inRings_12 (by decide +kernel) ?_
  obtain ⟨z_8, hz_8⟩ : ∃ zq, m_X5_ring_r f 2 = zq := ⟨_, rfl⟩
  have hM_9 := (c_X5_ring l D k a z f kp hi sl sv tx td 2 hf)
  rw [hz_8] at hM_9
  refine kVi (As := [.int (nI 2)]) (rest := [.int (z_4 + z_6)]) X hW hM_9 yw_X5_ring lk_X5_56 ⟨Nat.le_of_ble_eq_true rfl, Nat.le_of_ble_eq_true rfl⟩ (wr := []) (List.Perm.refl _) (w' := refW k a z f kp hi sl sv tx td) (List.Perm.refl _) (k_rcv X hW (ci := 5) (q0 := 0) rfl rfl) rfl hl.1 rfl (Nat.le_of_ble_eq_true rfl) ⟨Nat.zero_le _, Nat.zero_le _⟩ dX5_inRings_13 (fun H locs hW => ?_)
  refine lv_iadd hx hb dX5_inRings_16 ?_
  exact hQ _ _ _ _ _ _ hW dX5_inRings_17 (by subst hz_8; subst hz_6; subst hz_4; rw [m_X5_inRings_r]) rfl
