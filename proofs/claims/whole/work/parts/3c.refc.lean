def m_X5_isHere_r (z : Nat → Int32) (tx : Nat → Int32) (lo : Int32) (up : Int32) : Int32 := if tn (z 7) ≤ tn (z 8) then nI 0 else if (m_X5_in_r ((tx (tn (z 8))).toInt64) ((lo).toInt64) ((up).toInt64)) = 0 then nI 0 else nI 1
set_option maxHeartbeats 4000000 in
set_option maxRecDepth 100000 in
theorem c_X5_isHere (l : Launch) (D : va_G) (k : Nat → ClassId) (a : Nat → Nat) (z : Nat → Int32) (f : Nat → Int32) (kp : Nat → Int32) (hi : Nat → Int32) (sl : Nat → Int32) (sv : Nat → Int32) (tx : Nat → Int32) (td : Nat → Int32) (lo : Int32) (up : Int32) (hp : PT z) : mI l yX5_isHere (wsY yX5_isHere cX5_isHere 3 (some .boolean)) 1 D k [.ref (a 0), .int lo, .int up] (refW k a z f kp hi sl sv tx td) (refW k a z f kp hi sl sv tx td) (m_X5_isHere_r z tx lo up) := by
  refine mI_intro rfl (Nat.le_of_ble_eq_true rfl) (Or.inr ⟨rfl, by rw [m_X5_isHere_r]; exact (nb_ite rfl (nb_ite rfl rfl))⟩) ?_
  intro p e s m args below meth c A Q ls X hW hl hQ
  have hx := X.hx
  have hb := X.hb
  have hl : lv_has ls 3 [(0, .ref (a 0)), (1, .int lo), (2, .int up)] := hl
  have hq_1 := hp.1.2
  have hq_2 := hp.2.2
  refine lv_aload_n hx hb dX5_isHere_0 rfl (lv_at hl 0 rfl) ?_
  refine k_get X hW inG5 rfl 8 (by decide) fl_X5_165 rfl 0 rfl (v := .int (z 8)) rfl dX5_isHere_1 ?_
  refine k_top (y := nI (tn (z 8))) (hp.2.1) ?_
  refine lv_aload_n hx hb dX5_isHere_4 rfl (lv_at hl 0 rfl) ?_
  refine k_get X hW inG5 rfl 7 (by decide) fl_X5_136 rfl 0 rfl (v := .int (z 7)) rfl dX5_isHere_5 ?_
  refine k_top (y := nI (tn (z 7))) (hp.1.1) ?_
  refine lv_icmp_ge (tgt := 35) hx hb dX5_isHere_8 (by decide) (fun c_3 => ?_) (fun c_3 => ?_)
  · have c_3 : tn (z 7) ≤ tn (z 8) := (nI_leI (a := tn (z 7)) (b := tn (z 8)) (by omega) (by omega)).mp c_3
    refine lv_iconst (v := nI 0) hx hb dX5_isHere_35 (by decide +kernel) ?_
    exact hQ _ _ _ _ _ _ hW dX5_isHere_36 (by rw [m_X5_isHere_r, if_pos c_3]) rfl
  · have c_3 : ¬ (tn (z 7) ≤ tn (z 8)) := fun h => c_3 ((nI_leI (a := tn (z 7)) (b := tn (z 8)) (by omega) (by omega)).mpr h)
    refine lv_aload_n hx hb dX5_isHere_11 rfl (lv_at hl 0 rfl) ?_
    refine k_get X hW inG5 rfl 6 (by decide) fl_X5_25 rfl 0 rfl (v := .ref (a 6)) rfl dX5_isHere_12 ?_
    refine lv_aload_n hx hb dX5_isHere_15 rfl (lv_at hl 0 rfl) ?_
    refine k_get X hW inG5 rfl 8 (by decide) fl_X5_165 rfl 0 rfl (v := .int (z 8)) rfl dX5_isHere_16 ?_
    refine k_top (y := nI (tn (z 8))) (hp.2.1) ?_
    refine k_iald X hW 6 rfl (j := (tn (z 8))) (v := tx (tn (z 8))) rfl (by omega) (by decide) rfl dX5_isHere_19 ?_
    refine lv_i2l hx hb dX5_isHere_20 rfl ?_
    refine lv_iload_n hx hb dX5_isHere_21 rfl (lv_at hl 1 rfl) ?_
    refine lv_i2l hx hb dX5_isHere_22 rfl ?_
    refine lv_iload_n hx hb dX5_isHere_23 rfl (lv_at hl 2 rfl) ?_
    refine lv_i2l hx hb dX5_isHere_24 rfl ?_
    obtain ⟨z_4, hz_4⟩ : ∃ zq, m_X5_in_r ((tx (tn (z 8))).toInt64) ((lo).toInt64) ((up).toInt64) = zq := ⟨_, rfl⟩
    have hM_5 := (c_X5_in l D k ((tx (tn (z 8))).toInt64) ((lo).toInt64) ((up).toInt64))
    rw [hz_4] at hM_5
    refine kSi (As := [.long ((tx (tn (z 8))).toInt64), .long ((lo).toInt64), .long ((up).toInt64)]) (rest := []) X hW hM_5 yw_X5_in lk_X5_41 ⟨Nat.le_of_ble_eq_true rfl, Nat.le_of_ble_eq_true rfl⟩ rfl hl.1 rfl (Nat.le_of_ble_eq_true rfl) ⟨Nat.zero_le _, Nat.zero_le _⟩ dX5_isHere_25 (fun H locs hW => ?_)
    refine lv_if_eq (tgt := 35) hx hb dX5_isHere_28 (by decide) (fun c_6 => ?_) (fun c_6 => ?_)
    · refine lv_iconst (v := nI 0) hx hb dX5_isHere_35 (by decide +kernel) ?_
      exact hQ _ _ _ _ _ _ hW dX5_isHere_36 (by subst hz_4; rw [m_X5_isHere_r, if_neg c_3, if_pos c_6]) rfl
    · refine lv_iconst (v := nI 1) hx hb dX5_isHere_31 (by decide +kernel) ?_
      refine lv_goto (tgt := 36) hx hb dX5_isHere_32 (by decide) ?_
      exact hQ _ _ _ _ _ _ hW dX5_isHere_36 (by subst hz_4; rw [m_X5_isHere_r, if_neg c_3, if_neg c_6]) rfl
theorem nb_ish {z tx : Nat → Int32} {lo up : Int32} : narrow .boolean (.int (m_X5_isHere_r z tx lo up)) = .int (m_X5_isHere_r z tx lo up) := by
  unfold m_X5_isHere_r
  exact nb_ite rfl (nb_ite rfl rfl)
theorem ih_lt {z tx : Nat → Int32} {lo up : Int32} {a b : Nat} (h8 : z 8 = nI a) (h7 : z 7 = nI b) (ha : a < 2 ^ 31) (hb : b < 2 ^ 31) (h : ¬ m_X5_isHere_r z tx lo up = 0) : a < b := by
  unfold m_X5_isHere_r at h
  rw [h8, h7, tn_of rfl ha, tn_of rfl hb] at h
  by_cases h0 : b ≤ a
  · rw [if_pos h0] at h; exact absurd rfl h
  · omega
theorem ih_in {z tx : Nat → Int32} {lo up : Int32} {a : Nat} (h8 : z 8 = nI a) (ha : a < 2 ^ 31) (h : ¬ m_X5_isHere_r z tx lo up = 0) : ¬ m_X5_in_r (tx a).toInt64 lo.toInt64 up.toInt64 = 0 := by
  unfold m_X5_isHere_r at h
  rw [h8, tn_of rfl ha] at h
  by_cases h0 : tn (z 7) ≤ a
  · rw [if_pos h0] at h; exact absurd rfl h
  · rw [if_neg h0] at h
    by_cases h1 : m_X5_in_r (tx a).toInt64 lo.toInt64 up.toInt64 = 0
    · rw [if_pos h1] at h; exact absurd rfl h
    · exact h1
def m_X5_takesOne_r (z : Nat → Int32) (tx : Nat → Int32) (c1 : Int32) : Int32 := if (m_X5_isHere_r z tx c1 c1) = 0 then (m_X5_isHere_r z tx c1 c1) else (m_X5_isHere_r z tx c1 c1)
def m_X5_takesOne_z (z : Nat → Int32) (tx : Nat → Int32) (c1 : Int32) : Nat → Int32 := if (m_X5_isHere_r z tx c1 c1) = 0 then upd z 8 (nI (tn (z 8))) else upd z 8 (nI (tn (z 8) + 1))
set_option maxHeartbeats 4000000 in
set_option maxRecDepth 100000 in
theorem c_X5_takesOne (l : Launch) (D : va_G) (k : Nat → ClassId) (a : Nat → Nat) (z : Nat → Int32) (f : Nat → Int32) (kp : Nat → Int32) (hi : Nat → Int32) (sl : Nat → Int32) (sv : Nat → Int32) (tx : Nat → Int32) (td : Nat → Int32) (c1 : Int32) (hp : PT z) : mI l yX5_takesOne (wsY yX5_takesOne cX5_takesOne 3 (some .boolean)) 2 D k [.ref (a 0), .int c1] (refW k a z f kp hi sl sv tx td) (refW k a (m_X5_takesOne_z z tx c1) f kp hi sl sv tx td) (m_X5_takesOne_r z tx c1) := by
  refine mI_intro rfl (Nat.le_of_ble_eq_true rfl) (Or.inr ⟨rfl, by unfold m_X5_takesOne_r; exact nb_ite nb_ish nb_ish⟩) ?_
  intro p e s m args below meth c A Q ls X hW hl hQ
  have hx := X.hx
  have hb := X.hb
  have hl : lv_has ls 3 [(0, .ref (a 0)), (1, .int c1)] := hl
  have hq_1 := hp.1.2
  have hq_2 := hp.2.2
  refine lv_aload_n hx hb dX5_takesOne_0 rfl (lv_at hl 0 rfl) ?_
  refine lv_iload_n hx hb dX5_takesOne_1 rfl (lv_at hl 1 rfl) ?_
  refine lv_iload_n hx hb dX5_takesOne_2 rfl (lv_at hl 1 rfl) ?_
  obtain ⟨z_3, hz_3⟩ : ∃ zq, m_X5_isHere_r z tx c1 c1 = zq := ⟨_, rfl⟩
  have hM_4 := (c_X5_isHere l D k a z f kp hi sl sv tx td c1 c1 hp)
  rw [hz_3] at hM_4
  refine kVi (As := [.int c1, .int c1]) (rest := []) X hW hM_4 yw_X5_isHere lk_X5_168 ⟨Nat.le_of_ble_eq_true rfl, Nat.le_of_ble_eq_true rfl⟩ (wr := []) (List.Perm.refl _) (w' := refW k a z f kp hi sl sv tx td) (List.Perm.refl _) (k_rcv X hW (ci := 5) (q0 := 0) rfl rfl) rfl hl.1 rfl (Nat.le_of_ble_eq_true rfl) ⟨Nat.zero_le _, Nat.zero_le _⟩ dX5_takesOne_3 (fun H locs hW => ?_)
  refine lv_istore_n (lv' := [(2, .int z_3), (0, .ref (a 0)), (1, .int c1)]) hx hb dX5_takesOne_6 rfl hl (by decide) rfl (fun ls hl => ?_)
  refine lv_aload_n hx hb dX5_takesOne_7 rfl (lv_at hl 1 rfl) ?_
  refine lv_dup hx hb dX5_takesOne_8 rfl ?_
  refine k_get X hW inG5 rfl 8 (by decide) fl_X5_165 rfl 0 rfl (v := .int (z 8)) rfl dX5_takesOne_9 ?_
  refine k_top (y := nI (tn (z 8))) (hp.2.1) ?_
  refine lv_iload_n hx hb dX5_takesOne_12 rfl (lv_at hl 0 rfl) ?_
  refine lv_if_eq (tgt := 20) hx hb dX5_takesOne_13 (by decide) (fun c_5 => ?_) (fun c_5 => ?_)
  · refine lv_iconst (v := nI 0) hx hb dX5_takesOne_20 (by decide +kernel) ?_
    refine lv_iadd hx hb dX5_takesOne_21 ?_
    refine k_top (y := nI (tn (z 8))) (by rw [nI_add]; simp) ?_
    refine k_put X hW inG5 rfl tyX5_ok nmX5 8 (by decide) fl_X5_165 rfl rfl 0 rfl rfl rfl (Nat.le_of_ble_eq_true rfl) dX5_takesOne_22 (w' := refW k a (upd z 8 (nI (tn (z 8)))) f kp hi sl sv tx td) rfl (fun H locs hW => ?_)
    refine lv_iload_n hx hb dX5_takesOne_25 rfl (lv_at hl 0 rfl) ?_
    exact hQ _ _ _ _ _ _ hW dX5_takesOne_26 (by subst hz_3; rw [m_X5_takesOne_r, if_pos c_5]) (by subst hz_3; rw [m_X5_takesOne_z, if_pos c_5])
  · refine lv_iconst (v := nI 1) hx hb dX5_takesOne_16 (by decide +kernel) ?_
    refine lv_goto (tgt := 21) hx hb dX5_takesOne_17 (by decide) ?_
    refine lv_iadd hx hb dX5_takesOne_21 ?_
    refine k_top (y := nI (tn (z 8) + 1)) (nI_add _ _) ?_
    refine k_put X hW inG5 rfl tyX5_ok nmX5 8 (by decide) fl_X5_165 rfl rfl 0 rfl rfl rfl (Nat.le_of_ble_eq_true rfl) dX5_takesOne_22 (w' := refW k a (upd z 8 (nI (tn (z 8) + 1))) f kp hi sl sv tx td) rfl (fun H locs hW => ?_)
    refine lv_iload_n hx hb dX5_takesOne_25 rfl (lv_at hl 0 rfl) ?_
    exact hQ _ _ _ _ _ _ hW dX5_takesOne_26 (by subst hz_3; rw [m_X5_takesOne_r, if_neg c_5]) (by subst hz_3; rw [m_X5_takesOne_z, if_neg c_5])
theorem PT_takesOne {z tx : Nat → Int32} {c1 : Int32} (h : PT z) : PT (m_X5_takesOne_z z tx c1) := by
  unfold m_X5_takesOne_z
  have h1 := h.1.2
  have h2 := h.2.2
  by_cases hc : m_X5_isHere_r z tx c1 c1 = 0
  · rw [if_pos hc]; exact PT_sp h h2
  · rw [if_neg hc]
    have := ih_lt h.2.1 h.1.1 (by omega) (by omega) hc
    exact PT_sp h (by omega)
def m_X5_readsNumber_r (z : Nat → Int32) (tx : Nat → Int32) (dg : Int32) : Int32 := if (m_X5_isHere_r z tx (nI 48) (nI 57)) = 0 then nI 0 else if dg = nI 2 then (if (tx (tn (z 8))) - (nI 48) ≤ 0 then nI 1 else if (m_X5_isHere_r (upd z 8 (nI (tn (z 8) + 1))) tx (nI 48) (nI 57)) = 0 then nI 1 else nI 1) else nI 1
def m_X5_readsNumber_z (z : Nat → Int32) (tx : Nat → Int32) (dg : Int32) : Nat → Int32 := if (m_X5_isHere_r z tx (nI 48) (nI 57)) = 0 then z else if dg = nI 2 then (if (tx (tn (z 8))) - (nI 48) ≤ 0 then upd z 8 (nI (tn (z 8) + 1)) else if (m_X5_isHere_r (upd z 8 (nI (tn (z 8) + 1))) tx (nI 48) (nI 57)) = 0 then upd z 8 (nI (tn (z 8) + 1)) else upd z 8 (nI (tn (z 8) + 1 + 1))) else upd z 8 (nI (tn (z 8) + 1))
def m_X5_readsNumber_td (z : Nat → Int32) (tx : Nat → Int32) (td : Nat → Int32) (w : Nat) (dg : Int32) : Nat → Int32 := if (m_X5_isHere_r z tx (nI 48) (nI 57)) = 0 then td else if dg = nI 2 then (if (tx (tn (z 8))) - (nI 48) ≤ 0 then upd td w ((tx (tn (z 8))) - (nI 48)) else if (m_X5_isHere_r (upd z 8 (nI (tn (z 8) + 1))) tx (nI 48) (nI 57)) = 0 then upd td w ((tx (tn (z 8))) - (nI 48)) else upd td w ((((nI 10) * ((tx (tn (z 8))) - (nI 48))) + (tx (tn (z 8) + 1))) - (nI 48))) else upd td w ((tx (tn (z 8))) - (nI 48))
set_option maxHeartbeats 4000000 in
set_option maxRecDepth 100000 in
theorem c_X5_readsNumber (l : Launch) (D : va_G) (k : Nat → ClassId) (a : Nat → Nat) (z : Nat → Int32) (f : Nat → Int32) (kp : Nat → Int32) (hi : Nat → Int32) (sl : Nat → Int32) (sv : Nat → Int32) (tx : Nat → Int32) (td : Nat → Int32) (w : Nat) (dg : Int32) (hp : PT z) (hw : w < 3) : mI l yX5_readsNumber (wsY yX5_readsNumber cX5_readsNumber 4 (some .boolean)) 2 D k [.ref (a 0), .int (nI w), .int dg] (refW k a z f kp hi sl sv tx td) (refW k a (m_X5_readsNumber_z z tx dg) f kp hi sl sv tx (m_X5_readsNumber_td z tx td w dg)) (m_X5_readsNumber_r z tx dg) := by
  refine mI_intro rfl (Nat.le_of_ble_eq_true rfl) (Or.inr ⟨rfl, by rw [m_X5_readsNumber_r]; exact (nb_ite rfl (nb_ite (nb_ite rfl (nb_ite rfl rfl)) rfl))⟩) ?_
  intro p e s m args below meth c A Q ls X hW hl hQ
  have hx := X.hx
  have hb := X.hb
  have hl : lv_has ls 4 [(0, .ref (a 0)), (1, .int (nI w)), (2, .int dg)] := hl
  have hq_1 := hp.1.2
  have hq_2 := hp.2.2
  refine lv_aload_n hx hb dX5_readsNumber_0 rfl (lv_at hl 0 rfl) ?_
  refine lv_bipush (v := nI 48) hx hb dX5_readsNumber_1 (by decide +kernel) ?_
  refine lv_bipush (v := nI 57) hx hb dX5_readsNumber_3 (by decide +kernel) ?_
  obtain ⟨z_3, hz_3⟩ : ∃ zq, m_X5_isHere_r z tx (nI 48) (nI 57) = zq := ⟨_, rfl⟩
  have hM_4 := (c_X5_isHere l D k a z f kp hi sl sv tx td (nI 48) (nI 57) hp)
  rw [hz_3] at hM_4
  refine kVi (As := [.int (nI 48), .int (nI 57)]) (rest := []) X hW hM_4 yw_X5_isHere lk_X5_168 ⟨Nat.le_of_ble_eq_true rfl, Nat.le_of_ble_eq_true rfl⟩ (wr := []) (List.Perm.refl _) (w' := refW k a z f kp hi sl sv tx td) (List.Perm.refl _) (k_rcv X hW (ci := 5) (q0 := 0) rfl rfl) rfl hl.1 rfl (Nat.le_of_ble_eq_true rfl) ⟨Nat.zero_le _, Nat.zero_le _⟩ dX5_readsNumber_5 (fun H locs hW => ?_)
  refine lv_if_ne (tgt := 13) hx hb dX5_readsNumber_8 (by decide) (fun c_5 => ?_) (fun c_5 => ?_)
  · have hlt_6 := ih_lt (z := z) (a := tn (z 8)) (b := tn (z 7)) (by exact hp.2.1) (by exact hp.1.1) (by omega) (by omega) (by rw [hz_3]; exact c_5)
    refine lv_aload_n hx hb dX5_readsNumber_13 rfl (lv_at hl 0 rfl) ?_
    refine k_get X hW inG5 rfl 6 (by decide) fl_X5_25 rfl 0 rfl (v := .ref (a 6)) rfl dX5_readsNumber_14 ?_
    refine lv_aload_n hx hb dX5_readsNumber_17 rfl (lv_at hl 0 rfl) ?_
    refine k_get X hW inG5 rfl 8 (by decide) fl_X5_165 rfl 0 rfl (v := .int (z 8)) rfl dX5_readsNumber_18 ?_
    refine k_top (y := nI (tn (z 8))) (hp.2.1) ?_
    refine k_iald X hW 6 rfl (j := (tn (z 8))) (v := tx (tn (z 8))) rfl (by omega) (by decide) rfl dX5_readsNumber_21 ?_
    refine lv_bipush (v := nI 48) hx hb dX5_readsNumber_22 (by decide +kernel) ?_
    refine lv_isub hx hb dX5_readsNumber_24 ?_
    refine lv_istore_n (lv' := [(3, .int ((tx (tn (z 8))) - (nI 48))), (0, .ref (a 0)), (1, .int (nI w)), (2, .int dg)]) hx hb dX5_readsNumber_25 rfl hl (by decide) rfl (fun ls hl => ?_)
    refine lv_aload_n hx hb dX5_readsNumber_26 rfl (lv_at hl 1 rfl) ?_
    refine lv_dup hx hb dX5_readsNumber_27 rfl ?_
    refine k_get X hW inG5 rfl 8 (by decide) fl_X5_165 rfl 0 rfl (v := .int (z 8)) rfl dX5_readsNumber_28 ?_
    refine k_top (y := nI (tn (z 8))) (hp.2.1) ?_
    refine lv_iconst (v := nI 1) hx hb dX5_readsNumber_31 (by decide +kernel) ?_
    refine lv_iadd hx hb dX5_readsNumber_32 ?_
    refine k_top (y := nI (tn (z 8) + 1)) (nI_add _ _) ?_
    refine k_put X hW inG5 rfl tyX5_ok nmX5 8 (by decide) fl_X5_165 rfl rfl 0 rfl rfl rfl (Nat.le_of_ble_eq_true rfl) dX5_readsNumber_33 (w' := refW k a (upd z 8 (nI (tn (z 8) + 1))) f kp hi sl sv tx td) rfl (fun H locs hW => ?_)
    refine lv_iload_n hx hb dX5_readsNumber_36 rfl (lv_at hl 3 rfl) ?_
    refine lv_iconst (v := nI 2) hx hb dX5_readsNumber_37 (by decide +kernel) ?_
    refine lv_icmp_ne (tgt := 84) hx hb dX5_readsNumber_38 (by decide) (fun c_7 => ?_) (fun c_7 => ?_)
    · refine lv_aload_n hx hb dX5_readsNumber_84 rfl (lv_at hl 1 rfl) ?_
      refine k_get X hW inG5 rfl 10 (by decide) fl_X5_28 rfl 0 rfl (v := .ref (a 7)) rfl dX5_readsNumber_85 ?_
      refine lv_iload_n hx hb dX5_readsNumber_88 rfl (lv_at hl 2 rfl) ?_
      refine lv_iload_n hx hb dX5_readsNumber_89 rfl (lv_at hl 0 rfl) ?_
      refine k_iast X hW 7 rfl (j := w) rfl (by omega) (by decide) dX5_readsNumber_90 (w' := refW k a (upd z 8 (nI (tn (z 8) + 1))) f kp hi sl sv tx (upd td w ((tx (tn (z 8))) - (nI 48)))) rfl (fun H locs hW => ?_)
      refine lv_iconst (v := nI 1) hx hb dX5_readsNumber_91 (by decide +kernel) ?_
      exact hQ _ _ _ _ _ _ hW dX5_readsNumber_92 (by subst hz_3; rw [m_X5_readsNumber_r, if_neg c_5, if_neg c_7]) (by subst hz_3; rw [m_X5_readsNumber_z, if_neg c_5, if_neg c_7, m_X5_readsNumber_td, if_neg c_5, if_neg c_7])
    · refine lv_iload_n hx hb dX5_readsNumber_41 rfl (lv_at hl 0 rfl) ?_
      refine lv_if_le (tgt := 84) hx hb dX5_readsNumber_42 (by decide) (fun c_8 => ?_) (fun c_8 => ?_)
      · refine lv_aload_n hx hb dX5_readsNumber_84 rfl (lv_at hl 1 rfl) ?_
        refine k_get X hW inG5 rfl 10 (by decide) fl_X5_28 rfl 0 rfl (v := .ref (a 7)) rfl dX5_readsNumber_85 ?_
        refine lv_iload_n hx hb dX5_readsNumber_88 rfl (lv_at hl 2 rfl) ?_
        refine lv_iload_n hx hb dX5_readsNumber_89 rfl (lv_at hl 0 rfl) ?_
        refine k_iast X hW 7 rfl (j := w) rfl (by omega) (by decide) dX5_readsNumber_90 (w' := refW k a (upd z 8 (nI (tn (z 8) + 1))) f kp hi sl sv tx (upd td w ((tx (tn (z 8))) - (nI 48)))) rfl (fun H locs hW => ?_)
        refine lv_iconst (v := nI 1) hx hb dX5_readsNumber_91 (by decide +kernel) ?_
        exact hQ _ _ _ _ _ _ hW dX5_readsNumber_92 (by subst hz_3; rw [m_X5_readsNumber_r, if_neg c_5, if_pos c_7, if_pos c_8]) (by subst hz_3; rw [m_X5_readsNumber_z, if_neg c_5, if_pos c_7, if_pos c_8, m_X5_readsNumber_td, if_neg c_5, if_pos c_7, if_pos c_8])
      · refine lv_aload_n hx hb dX5_readsNumber_45 rfl (lv_at hl 1 rfl) ?_
        refine lv_bipush (v := nI 48) hx hb dX5_readsNumber_46 (by decide +kernel) ?_
        refine lv_bipush (v := nI 57) hx hb dX5_readsNumber_48 (by decide +kernel) ?_
        obtain ⟨z_9, hz_9⟩ : ∃ zq, m_X5_isHere_r (upd z 8 (nI (tn (z 8) + 1))) tx (nI 48) (nI 57) = zq := ⟨_, rfl⟩
        have hM_10 := (c_X5_isHere l D k a (upd z 8 (nI (tn (z 8) + 1))) f kp hi sl sv tx td (nI 48) (nI 57) (PT_sp hp (by omega)))
        rw [hz_9] at hM_10
        refine kVi (As := [.int (nI 48), .int (nI 57)]) (rest := []) X hW hM_10 yw_X5_isHere lk_X5_168 ⟨Nat.le_of_ble_eq_true rfl, Nat.le_of_ble_eq_true rfl⟩ (wr := []) (List.Perm.refl _) (w' := refW k a (upd z 8 (nI (tn (z 8) + 1))) f kp hi sl sv tx td) (List.Perm.refl _) (k_rcv X hW (ci := 5) (q0 := 0) rfl rfl) rfl hl.1 rfl (Nat.le_of_ble_eq_true rfl) ⟨Nat.zero_le _, Nat.zero_le _⟩ dX5_readsNumber_50 (fun H locs hW => ?_)
        refine lv_if_eq (tgt := 84) hx hb dX5_readsNumber_53 (by decide) (fun c_11 => ?_) (fun c_11 => ?_)
        · refine lv_aload_n hx hb dX5_readsNumber_84 rfl (lv_at hl 1 rfl) ?_
          refine k_get X hW inG5 rfl 10 (by decide) fl_X5_28 rfl 0 rfl (v := .ref (a 7)) rfl dX5_readsNumber_85 ?_
          refine lv_iload_n hx hb dX5_readsNumber_88 rfl (lv_at hl 2 rfl) ?_
          refine lv_iload_n hx hb dX5_readsNumber_89 rfl (lv_at hl 0 rfl) ?_
          refine k_iast X hW 7 rfl (j := w) rfl (by omega) (by decide) dX5_readsNumber_90 (w' := refW k a (upd z 8 (nI (tn (z 8) + 1))) f kp hi sl sv tx (upd td w ((tx (tn (z 8))) - (nI 48)))) rfl (fun H locs hW => ?_)
          refine lv_iconst (v := nI 1) hx hb dX5_readsNumber_91 (by decide +kernel) ?_
          exact hQ _ _ _ _ _ _ hW dX5_readsNumber_92 (by subst hz_9; subst hz_3; rw [m_X5_readsNumber_r, if_neg c_5, if_pos c_7, if_neg c_8, if_pos c_11]) (by subst hz_9; subst hz_3; rw [m_X5_readsNumber_z, if_neg c_5, if_pos c_7, if_neg c_8, if_pos c_11, m_X5_readsNumber_td, if_neg c_5, if_pos c_7, if_neg c_8, if_pos c_11])
        · have hlt_12 := ih_lt (z := (upd z 8 (nI (tn (z 8) + 1)))) (a := tn (z 8) + 1) (b := tn (z 7)) (by rfl) (by exact hp.1.1) (by omega) (by omega) (by rw [hz_9]; exact c_11)
          refine lv_bipush (v := nI 10) hx hb dX5_readsNumber_56 (by decide +kernel) ?_
          refine lv_iload_n hx hb dX5_readsNumber_58 rfl (lv_at hl 0 rfl) ?_
          refine lv_imul hx hb dX5_readsNumber_59 ?_
          refine lv_aload_n hx hb dX5_readsNumber_60 rfl (lv_at hl 1 rfl) ?_
          refine k_get X hW inG5 rfl 6 (by decide) fl_X5_25 rfl 0 rfl (v := .ref (a 6)) rfl dX5_readsNumber_61 ?_
          refine lv_aload_n hx hb dX5_readsNumber_64 rfl (lv_at hl 1 rfl) ?_
          refine k_get X hW inG5 rfl 8 (by decide) fl_X5_165 rfl 0 rfl (v := .int (nI (tn (z 8) + 1))) rfl dX5_readsNumber_65 ?_
          refine k_iald X hW 6 rfl (j := (tn (z 8) + 1)) (v := tx (tn (z 8) + 1)) rfl (by omega) (by decide) rfl dX5_readsNumber_68 ?_
          refine lv_iadd hx hb dX5_readsNumber_69 ?_
          refine lv_bipush (v := nI 48) hx hb dX5_readsNumber_70 (by decide +kernel) ?_
          refine lv_isub hx hb dX5_readsNumber_72 ?_
          refine lv_istore_n (lv' := [(3, .int ((((nI 10) * ((tx (tn (z 8))) - (nI 48))) + (tx (tn (z 8) + 1))) - (nI 48))), (0, .ref (a 0)), (1, .int (nI w)), (2, .int dg)]) hx hb dX5_readsNumber_73 rfl hl (by decide) rfl (fun ls hl => ?_)
          refine lv_aload_n hx hb dX5_readsNumber_74 rfl (lv_at hl 1 rfl) ?_
          refine lv_dup hx hb dX5_readsNumber_75 rfl ?_
          refine k_get X hW inG5 rfl 8 (by decide) fl_X5_165 rfl 0 rfl (v := .int (nI (tn (z 8) + 1))) rfl dX5_readsNumber_76 ?_
          refine lv_iconst (v := nI 1) hx hb dX5_readsNumber_79 (by decide +kernel) ?_
          refine lv_iadd hx hb dX5_readsNumber_80 ?_
          refine k_top (y := nI (tn (z 8) + 1 + 1)) (nI_add _ _) ?_
          refine k_put X hW inG5 rfl tyX5_ok nmX5 8 (by decide) fl_X5_165 rfl rfl 0 rfl rfl rfl (Nat.le_of_ble_eq_true rfl) dX5_readsNumber_81 (w' := refW k a (upd z 8 (nI (tn (z 8) + 1 + 1))) f kp hi sl sv tx td) rfl (fun H locs hW => ?_)
          refine lv_aload_n hx hb dX5_readsNumber_84 rfl (lv_at hl 1 rfl) ?_
          refine k_get X hW inG5 rfl 10 (by decide) fl_X5_28 rfl 0 rfl (v := .ref (a 7)) rfl dX5_readsNumber_85 ?_
          refine lv_iload_n hx hb dX5_readsNumber_88 rfl (lv_at hl 2 rfl) ?_
          refine lv_iload_n hx hb dX5_readsNumber_89 rfl (lv_at hl 0 rfl) ?_
          refine k_iast X hW 7 rfl (j := w) rfl (by omega) (by decide) dX5_readsNumber_90 (w' := refW k a (upd z 8 (nI (tn (z 8) + 1 + 1))) f kp hi sl sv tx (upd td w ((((nI 10) * ((tx (tn (z 8))) - (nI 48))) + (tx (tn (z 8) + 1))) - (nI 48)))) rfl (fun H locs hW => ?_)
          refine lv_iconst (v := nI 1) hx hb dX5_readsNumber_91 (by decide +kernel) ?_
          exact hQ _ _ _ _ _ _ hW dX5_readsNumber_92 (by subst hz_9; subst hz_3; rw [m_X5_readsNumber_r, if_neg c_5, if_pos c_7, if_neg c_8, if_neg c_11]) (by subst hz_9; subst hz_3; rw [m_X5_readsNumber_z, if_neg c_5, if_pos c_7, if_neg c_8, if_neg c_11, m_X5_readsNumber_td, if_neg c_5, if_pos c_7, if_neg c_8, if_neg c_11])
  · refine lv_iconst (v := nI 0) hx hb dX5_readsNumber_11 (by decide +kernel) ?_
    exact hQ _ _ _ _ _ _ hW dX5_readsNumber_12 (by subst hz_3; rw [m_X5_readsNumber_r, if_pos c_5]) (by subst hz_3; rw [m_X5_readsNumber_z, if_pos c_5, m_X5_readsNumber_td, if_pos c_5])
theorem readsNumber_at {z tx : Nat → Int32} {dg : Int32} (h : PT z) : PT (m_X5_readsNumber_z z tx dg) ∧ tn (z 8) ≤ tn (m_X5_readsNumber_z z tx dg 8) ∧ (¬ m_X5_readsNumber_r z tx dg = 0 → tn (z 8) < tn (m_X5_readsNumber_z z tx dg 8)) := by
  unfold m_X5_readsNumber_z m_X5_readsNumber_r
  have h1 := h.1.2
  have h2 := h.2.2
  have one : ∀ n, n ≤ 80 → tn (z 8) < n → PT (upd z 8 (nI n)) ∧ tn (z 8) ≤ tn (upd z 8 (nI n) 8) ∧ tn (z 8) < tn (upd z 8 (nI n) 8) := by
    intro n hn hl
    rw [pk_us, tn_of rfl (by omega)]
    exact ⟨PT_sp h hn, by omega, hl⟩
  by_cases hc : m_X5_isHere_r z tx (nI 48) (nI 57) = 0
  · rw [if_pos hc, if_pos hc]; exact ⟨h, Nat.le_refl _, fun q => absurd rfl q⟩
  · rw [if_neg hc, if_neg hc]
    have l1 := ih_lt h.2.1 h.1.1 (by omega) (by omega) hc
    have o1 := one (tn (z 8) + 1) (by omega) (by omega)
    by_cases hd : dg = nI 2
    · rw [if_pos hd, if_pos hd]
      by_cases he : tx (tn (z 8)) - nI 48 ≤ 0
      · rw [if_pos he, if_pos he]; exact ⟨o1.1, o1.2.1, fun _ => o1.2.2⟩
      · rw [if_neg he, if_neg he]
        by_cases hg : m_X5_isHere_r (upd z 8 (nI (tn (z 8) + 1))) tx (nI 48) (nI 57) = 0
        · rw [if_pos hg, if_pos hg]; exact ⟨o1.1, o1.2.1, fun _ => o1.2.2⟩
        · rw [if_neg hg, if_neg hg]
          have l2 := ih_lt (z := upd z 8 (nI (tn (z 8) + 1))) (a := tn (z 8) + 1) (b := tn (z 7)) rfl h.1.1 (by omega) (by omega) hg
          have o2 := one (tn (z 8) + 1 + 1) (by omega) (by omega)
          exact ⟨o2.1, o2.2.1, fun _ => o2.2.2⟩
    · rw [if_neg hd, if_neg hd]; exact ⟨o1.1, o1.2.1, fun _ => o1.2.2⟩
theorem PT_readsNumber {z tx : Nat → Int32} {dg : Int32} (h : PT z) : PT (m_X5_readsNumber_z z tx dg) := (readsNumber_at h).1
theorem takesOne_at {z tx : Nat → Int32} {c1 : Int32} (h : PT z) : tn (z 8) ≤ tn (m_X5_takesOne_z z tx c1 8) ∧ (¬ m_X5_takesOne_r z tx c1 = 0 → tn (z 8) < tn (m_X5_takesOne_z z tx c1 8)) := by
  unfold m_X5_takesOne_z m_X5_takesOne_r
  have h1 := h.1.2
  have h2 := h.2.2
  by_cases hc : m_X5_isHere_r z tx c1 c1 = 0
  · rw [if_pos hc, if_pos hc, pk_us, tn_of rfl (by omega)]; exact ⟨Nat.le_refl _, fun q => absurd hc q⟩
  · rw [if_neg hc, if_neg hc, pk_us]
    have := ih_lt h.2.1 h.1.1 (by omega) (by omega) hc
    rw [tn_of rfl (by omega)]; exact ⟨by omega, fun _ => by omega⟩
theorem nb_rn {z tx : Nat → Int32} {dg : Int32} : narrow .boolean (.int (m_X5_readsNumber_r z tx dg)) = .int (m_X5_readsNumber_r z tx dg) := by
  unfold m_X5_readsNumber_r
  exact nb_ite rfl (nb_ite (nb_ite rfl (nb_ite rfl rfl)) rfl)
def m_X5_readsOrder_r (z : Nat → Int32) (tx : Nat → Int32) : Int32 := if tn (z 7) ≤ tn (z 8) then (if (m_X5_takesOne_r (upd z 9 (nI 0)) tx (nI 102)) = 0 then (if (m_X5_takesOne_r (m_X5_takesOne_z (upd z 9 (nI 0)) tx (nI 102)) tx (nI 116)) = 0 then (if (m_X5_takesOne_r (m_X5_takesOne_z (m_X5_takesOne_z (upd z 9 (nI 0)) tx (nI 102)) tx (nI 116)) tx (nI 113)) = 0 then (if (m_X5_takesOne_r (m_X5_takesOne_z (m_X5_takesOne_z (m_X5_takesOne_z (upd z 9 (nI 0)) tx (nI 102)) tx (nI 116)) tx (nI 113)) tx (nI 109)) = 0 then nI 0 else if (m_X5_readsNumber_r (m_X5_takesOne_z (m_X5_takesOne_z (m_X5_takesOne_z (m_X5_takesOne_z (upd z 9 (nI 0)) tx (nI 102)) tx (nI 116)) tx (nI 113)) tx (nI 109)) tx (nI 1)) = 0 then nI 0 else nI 1) else if (m_X5_readsNumber_r (m_X5_takesOne_z (m_X5_takesOne_z (m_X5_takesOne_z (upd z 9 (nI 0)) tx (nI 102)) tx (nI 116)) tx (nI 113)) tx (nI 1)) = 0 then nI 0 else if (m_X5_takesOne_r (m_X5_readsNumber_z (m_X5_takesOne_z (m_X5_takesOne_z (m_X5_takesOne_z (upd z 9 (nI 0)) tx (nI 102)) tx (nI 116)) tx (nI 113)) tx (nI 1)) tx (nI 61)) = 0 then nI 0 else if (m_X5_readsNumber_r (m_X5_takesOne_z (m_X5_readsNumber_z (m_X5_takesOne_z (m_X5_takesOne_z (m_X5_takesOne_z (upd z 9 (nI 0)) tx (nI 102)) tx (nI 116)) tx (nI 113)) tx (nI 1)) tx (nI 61)) tx (nI 2)) = 0 then nI 0 else if (m_X5_takesOne_r (m_X5_readsNumber_z (m_X5_takesOne_z (m_X5_readsNumber_z (m_X5_takesOne_z (m_X5_takesOne_z (m_X5_takesOne_z (upd z 9 (nI 0)) tx (nI 102)) tx (nI 116)) tx (nI 113)) tx (nI 1)) tx (nI 61)) tx (nI 2)) tx (nI 44)) = 0 then nI 0 else if (m_X5_readsNumber_r (m_X5_takesOne_z (m_X5_readsNumber_z (m_X5_takesOne_z (m_X5_readsNumber_z (m_X5_takesOne_z (m_X5_takesOne_z (m_X5_takesOne_z (upd z 9 (nI 0)) tx (nI 102)) tx (nI 116)) tx (nI 113)) tx (nI 1)) tx (nI 61)) tx (nI 2)) tx (nI 44)) tx (nI 2)) = 0 then nI 0 else nI 1) else (m_X5_readsNumber_r (m_X5_takesOne_z (m_X5_takesOne_z (upd z 9 (nI 0)) tx (nI 102)) tx (nI 116)) tx (nI 2))) else if (m_X5_readsNumber_r (m_X5_takesOne_z (upd z 9 (nI 0)) tx (nI 102)) tx (nI 2)) = 0 then nI 0 else if (m_X5_takesOne_r (m_X5_readsNumber_z (m_X5_takesOne_z (upd z 9 (nI 0)) tx (nI 102)) tx (nI 2)) tx (nI 42)) = 0 then nI 1 else if (m_X5_readsNumber_r (m_X5_takesOne_z (m_X5_readsNumber_z (m_X5_takesOne_z (upd z 9 (nI 0)) tx (nI 102)) tx (nI 2)) tx (nI 42)) tx (nI 2)) = 0 then nI 0 else nI 1) else if (m_X5_takesOne_r (upd z 9 (tx (tn (z 8)))) tx (nI 102)) = 0 then (if (m_X5_takesOne_r (m_X5_takesOne_z (upd z 9 (tx (tn (z 8)))) tx (nI 102)) tx (nI 116)) = 0 then (if (m_X5_takesOne_r (m_X5_takesOne_z (m_X5_takesOne_z (upd z 9 (tx (tn (z 8)))) tx (nI 102)) tx (nI 116)) tx (nI 113)) = 0 then (if (m_X5_takesOne_r (m_X5_takesOne_z (m_X5_takesOne_z (m_X5_takesOne_z (upd z 9 (tx (tn (z 8)))) tx (nI 102)) tx (nI 116)) tx (nI 113)) tx (nI 109)) = 0 then nI 0 else if (m_X5_readsNumber_r (m_X5_takesOne_z (m_X5_takesOne_z (m_X5_takesOne_z (m_X5_takesOne_z (upd z 9 (tx (tn (z 8)))) tx (nI 102)) tx (nI 116)) tx (nI 113)) tx (nI 109)) tx (nI 1)) = 0 then nI 0 else nI 1) else if (m_X5_readsNumber_r (m_X5_takesOne_z (m_X5_takesOne_z (m_X5_takesOne_z (upd z 9 (tx (tn (z 8)))) tx (nI 102)) tx (nI 116)) tx (nI 113)) tx (nI 1)) = 0 then nI 0 else if (m_X5_takesOne_r (m_X5_readsNumber_z (m_X5_takesOne_z (m_X5_takesOne_z (m_X5_takesOne_z (upd z 9 (tx (tn (z 8)))) tx (nI 102)) tx (nI 116)) tx (nI 113)) tx (nI 1)) tx (nI 61)) = 0 then nI 0 else if (m_X5_readsNumber_r (m_X5_takesOne_z (m_X5_readsNumber_z (m_X5_takesOne_z (m_X5_takesOne_z (m_X5_takesOne_z (upd z 9 (tx (tn (z 8)))) tx (nI 102)) tx (nI 116)) tx (nI 113)) tx (nI 1)) tx (nI 61)) tx (nI 2)) = 0 then nI 0 else if (m_X5_takesOne_r (m_X5_readsNumber_z (m_X5_takesOne_z (m_X5_readsNumber_z (m_X5_takesOne_z (m_X5_takesOne_z (m_X5_takesOne_z (upd z 9 (tx (tn (z 8)))) tx (nI 102)) tx (nI 116)) tx (nI 113)) tx (nI 1)) tx (nI 61)) tx (nI 2)) tx (nI 44)) = 0 then nI 0 else if (m_X5_readsNumber_r (m_X5_takesOne_z (m_X5_readsNumber_z (m_X5_takesOne_z (m_X5_readsNumber_z (m_X5_takesOne_z (m_X5_takesOne_z (m_X5_takesOne_z (upd z 9 (tx (tn (z 8)))) tx (nI 102)) tx (nI 116)) tx (nI 113)) tx (nI 1)) tx (nI 61)) tx (nI 2)) tx (nI 44)) tx (nI 2)) = 0 then nI 0 else nI 1) else (m_X5_readsNumber_r (m_X5_takesOne_z (m_X5_takesOne_z (upd z 9 (tx (tn (z 8)))) tx (nI 102)) tx (nI 116)) tx (nI 2))) else if (m_X5_readsNumber_r (m_X5_takesOne_z (upd z 9 (tx (tn (z 8)))) tx (nI 102)) tx (nI 2)) = 0 then nI 0 else if (m_X5_takesOne_r (m_X5_readsNumber_z (m_X5_takesOne_z (upd z 9 (tx (tn (z 8)))) tx (nI 102)) tx (nI 2)) tx (nI 42)) = 0 then nI 1 else if (m_X5_readsNumber_r (m_X5_takesOne_z (m_X5_readsNumber_z (m_X5_takesOne_z (upd z 9 (tx (tn (z 8)))) tx (nI 102)) tx (nI 2)) tx (nI 42)) tx (nI 2)) = 0 then nI 0 else nI 1
def m_X5_readsOrder_z (z : Nat → Int32) (tx : Nat → Int32) : Nat → Int32 := if tn (z 7) ≤ tn (z 8) then (if (m_X5_takesOne_r (upd z 9 (nI 0)) tx (nI 102)) = 0 then (if (m_X5_takesOne_r (m_X5_takesOne_z (upd z 9 (nI 0)) tx (nI 102)) tx (nI 116)) = 0 then (if (m_X5_takesOne_r (m_X5_takesOne_z (m_X5_takesOne_z (upd z 9 (nI 0)) tx (nI 102)) tx (nI 116)) tx (nI 113)) = 0 then (if (m_X5_takesOne_r (m_X5_takesOne_z (m_X5_takesOne_z (m_X5_takesOne_z (upd z 9 (nI 0)) tx (nI 102)) tx (nI 116)) tx (nI 113)) tx (nI 109)) = 0 then (m_X5_takesOne_z (m_X5_takesOne_z (m_X5_takesOne_z (m_X5_takesOne_z (upd z 9 (nI 0)) tx (nI 102)) tx (nI 116)) tx (nI 113)) tx (nI 109)) else if (m_X5_readsNumber_r (m_X5_takesOne_z (m_X5_takesOne_z (m_X5_takesOne_z (m_X5_takesOne_z (upd z 9 (nI 0)) tx (nI 102)) tx (nI 116)) tx (nI 113)) tx (nI 109)) tx (nI 1)) = 0 then (m_X5_readsNumber_z (m_X5_takesOne_z (m_X5_takesOne_z (m_X5_takesOne_z (m_X5_takesOne_z (upd z 9 (nI 0)) tx (nI 102)) tx (nI 116)) tx (nI 113)) tx (nI 109)) tx (nI 1)) else (m_X5_readsNumber_z (m_X5_takesOne_z (m_X5_takesOne_z (m_X5_takesOne_z (m_X5_takesOne_z (upd z 9 (nI 0)) tx (nI 102)) tx (nI 116)) tx (nI 113)) tx (nI 109)) tx (nI 1))) else if (m_X5_readsNumber_r (m_X5_takesOne_z (m_X5_takesOne_z (m_X5_takesOne_z (upd z 9 (nI 0)) tx (nI 102)) tx (nI 116)) tx (nI 113)) tx (nI 1)) = 0 then (m_X5_readsNumber_z (m_X5_takesOne_z (m_X5_takesOne_z (m_X5_takesOne_z (upd z 9 (nI 0)) tx (nI 102)) tx (nI 116)) tx (nI 113)) tx (nI 1)) else if (m_X5_takesOne_r (m_X5_readsNumber_z (m_X5_takesOne_z (m_X5_takesOne_z (m_X5_takesOne_z (upd z 9 (nI 0)) tx (nI 102)) tx (nI 116)) tx (nI 113)) tx (nI 1)) tx (nI 61)) = 0 then (m_X5_takesOne_z (m_X5_readsNumber_z (m_X5_takesOne_z (m_X5_takesOne_z (m_X5_takesOne_z (upd z 9 (nI 0)) tx (nI 102)) tx (nI 116)) tx (nI 113)) tx (nI 1)) tx (nI 61)) else if (m_X5_readsNumber_r (m_X5_takesOne_z (m_X5_readsNumber_z (m_X5_takesOne_z (m_X5_takesOne_z (m_X5_takesOne_z (upd z 9 (nI 0)) tx (nI 102)) tx (nI 116)) tx (nI 113)) tx (nI 1)) tx (nI 61)) tx (nI 2)) = 0 then (m_X5_readsNumber_z (m_X5_takesOne_z (m_X5_readsNumber_z (m_X5_takesOne_z (m_X5_takesOne_z (m_X5_takesOne_z (upd z 9 (nI 0)) tx (nI 102)) tx (nI 116)) tx (nI 113)) tx (nI 1)) tx (nI 61)) tx (nI 2)) else if (m_X5_takesOne_r (m_X5_readsNumber_z (m_X5_takesOne_z (m_X5_readsNumber_z (m_X5_takesOne_z (m_X5_takesOne_z (m_X5_takesOne_z (upd z 9 (nI 0)) tx (nI 102)) tx (nI 116)) tx (nI 113)) tx (nI 1)) tx (nI 61)) tx (nI 2)) tx (nI 44)) = 0 then (m_X5_takesOne_z (m_X5_readsNumber_z (m_X5_takesOne_z (m_X5_readsNumber_z (m_X5_takesOne_z (m_X5_takesOne_z (m_X5_takesOne_z (upd z 9 (nI 0)) tx (nI 102)) tx (nI 116)) tx (nI 113)) tx (nI 1)) tx (nI 61)) tx (nI 2)) tx (nI 44)) else if (m_X5_readsNumber_r (m_X5_takesOne_z (m_X5_readsNumber_z (m_X5_takesOne_z (m_X5_readsNumber_z (m_X5_takesOne_z (m_X5_takesOne_z (m_X5_takesOne_z (upd z 9 (nI 0)) tx (nI 102)) tx (nI 116)) tx (nI 113)) tx (nI 1)) tx (nI 61)) tx (nI 2)) tx (nI 44)) tx (nI 2)) = 0 then (m_X5_readsNumber_z (m_X5_takesOne_z (m_X5_readsNumber_z (m_X5_takesOne_z (m_X5_readsNumber_z (m_X5_takesOne_z (m_X5_takesOne_z (m_X5_takesOne_z (upd z 9 (nI 0)) tx (nI 102)) tx (nI 116)) tx (nI 113)) tx (nI 1)) tx (nI 61)) tx (nI 2)) tx (nI 44)) tx (nI 2)) else (m_X5_readsNumber_z (m_X5_takesOne_z (m_X5_readsNumber_z (m_X5_takesOne_z (m_X5_readsNumber_z (m_X5_takesOne_z (m_X5_takesOne_z (m_X5_takesOne_z (upd z 9 (nI 0)) tx (nI 102)) tx (nI 116)) tx (nI 113)) tx (nI 1)) tx (nI 61)) tx (nI 2)) tx (nI 44)) tx (nI 2))) else (m_X5_readsNumber_z (m_X5_takesOne_z (m_X5_takesOne_z (upd z 9 (nI 0)) tx (nI 102)) tx (nI 116)) tx (nI 2))) else if (m_X5_readsNumber_r (m_X5_takesOne_z (upd z 9 (nI 0)) tx (nI 102)) tx (nI 2)) = 0 then (m_X5_readsNumber_z (m_X5_takesOne_z (upd z 9 (nI 0)) tx (nI 102)) tx (nI 2)) else if (m_X5_takesOne_r (m_X5_readsNumber_z (m_X5_takesOne_z (upd z 9 (nI 0)) tx (nI 102)) tx (nI 2)) tx (nI 42)) = 0 then (m_X5_takesOne_z (m_X5_readsNumber_z (m_X5_takesOne_z (upd z 9 (nI 0)) tx (nI 102)) tx (nI 2)) tx (nI 42)) else if (m_X5_readsNumber_r (m_X5_takesOne_z (m_X5_readsNumber_z (m_X5_takesOne_z (upd z 9 (nI 0)) tx (nI 102)) tx (nI 2)) tx (nI 42)) tx (nI 2)) = 0 then (m_X5_readsNumber_z (m_X5_takesOne_z (m_X5_readsNumber_z (m_X5_takesOne_z (upd z 9 (nI 0)) tx (nI 102)) tx (nI 2)) tx (nI 42)) tx (nI 2)) else (m_X5_readsNumber_z (m_X5_takesOne_z (m_X5_readsNumber_z (m_X5_takesOne_z (upd z 9 (nI 0)) tx (nI 102)) tx (nI 2)) tx (nI 42)) tx (nI 2))) else if (m_X5_takesOne_r (upd z 9 (tx (tn (z 8)))) tx (nI 102)) = 0 then (if (m_X5_takesOne_r (m_X5_takesOne_z (upd z 9 (tx (tn (z 8)))) tx (nI 102)) tx (nI 116)) = 0 then (if (m_X5_takesOne_r (m_X5_takesOne_z (m_X5_takesOne_z (upd z 9 (tx (tn (z 8)))) tx (nI 102)) tx (nI 116)) tx (nI 113)) = 0 then (if (m_X5_takesOne_r (m_X5_takesOne_z (m_X5_takesOne_z (m_X5_takesOne_z (upd z 9 (tx (tn (z 8)))) tx (nI 102)) tx (nI 116)) tx (nI 113)) tx (nI 109)) = 0 then (m_X5_takesOne_z (m_X5_takesOne_z (m_X5_takesOne_z (m_X5_takesOne_z (upd z 9 (tx (tn (z 8)))) tx (nI 102)) tx (nI 116)) tx (nI 113)) tx (nI 109)) else if (m_X5_readsNumber_r (m_X5_takesOne_z (m_X5_takesOne_z (m_X5_takesOne_z (m_X5_takesOne_z (upd z 9 (tx (tn (z 8)))) tx (nI 102)) tx (nI 116)) tx (nI 113)) tx (nI 109)) tx (nI 1)) = 0 then (m_X5_readsNumber_z (m_X5_takesOne_z (m_X5_takesOne_z (m_X5_takesOne_z (m_X5_takesOne_z (upd z 9 (tx (tn (z 8)))) tx (nI 102)) tx (nI 116)) tx (nI 113)) tx (nI 109)) tx (nI 1)) else (m_X5_readsNumber_z (m_X5_takesOne_z (m_X5_takesOne_z (m_X5_takesOne_z (m_X5_takesOne_z (upd z 9 (tx (tn (z 8)))) tx (nI 102)) tx (nI 116)) tx (nI 113)) tx (nI 109)) tx (nI 1))) else if (m_X5_readsNumber_r (m_X5_takesOne_z (m_X5_takesOne_z (m_X5_takesOne_z (upd z 9 (tx (tn (z 8)))) tx (nI 102)) tx (nI 116)) tx (nI 113)) tx (nI 1)) = 0 then (m_X5_readsNumber_z (m_X5_takesOne_z (m_X5_takesOne_z (m_X5_takesOne_z (upd z 9 (tx (tn (z 8)))) tx (nI 102)) tx (nI 116)) tx (nI 113)) tx (nI 1)) else if (m_X5_takesOne_r (m_X5_readsNumber_z (m_X5_takesOne_z (m_X5_takesOne_z (m_X5_takesOne_z (upd z 9 (tx (tn (z 8)))) tx (nI 102)) tx (nI 116)) tx (nI 113)) tx (nI 1)) tx (nI 61)) = 0 then (m_X5_takesOne_z (m_X5_readsNumber_z (m_X5_takesOne_z (m_X5_takesOne_z (m_X5_takesOne_z (upd z 9 (tx (tn (z 8)))) tx (nI 102)) tx (nI 116)) tx (nI 113)) tx (nI 1)) tx (nI 61)) else if (m_X5_readsNumber_r (m_X5_takesOne_z (m_X5_readsNumber_z (m_X5_takesOne_z (m_X5_takesOne_z (m_X5_takesOne_z (upd z 9 (tx (tn (z 8)))) tx (nI 102)) tx (nI 116)) tx (nI 113)) tx (nI 1)) tx (nI 61)) tx (nI 2)) = 0 then (m_X5_readsNumber_z (m_X5_takesOne_z (m_X5_readsNumber_z (m_X5_takesOne_z (m_X5_takesOne_z (m_X5_takesOne_z (upd z 9 (tx (tn (z 8)))) tx (nI 102)) tx (nI 116)) tx (nI 113)) tx (nI 1)) tx (nI 61)) tx (nI 2)) else if (m_X5_takesOne_r (m_X5_readsNumber_z (m_X5_takesOne_z (m_X5_readsNumber_z (m_X5_takesOne_z (m_X5_takesOne_z (m_X5_takesOne_z (upd z 9 (tx (tn (z 8)))) tx (nI 102)) tx (nI 116)) tx (nI 113)) tx (nI 1)) tx (nI 61)) tx (nI 2)) tx (nI 44)) = 0 then (m_X5_takesOne_z (m_X5_readsNumber_z (m_X5_takesOne_z (m_X5_readsNumber_z (m_X5_takesOne_z (m_X5_takesOne_z (m_X5_takesOne_z (upd z 9 (tx (tn (z 8)))) tx (nI 102)) tx (nI 116)) tx (nI 113)) tx (nI 1)) tx (nI 61)) tx (nI 2)) tx (nI 44)) else if (m_X5_readsNumber_r (m_X5_takesOne_z (m_X5_readsNumber_z (m_X5_takesOne_z (m_X5_readsNumber_z (m_X5_takesOne_z (m_X5_takesOne_z (m_X5_takesOne_z (upd z 9 (tx (tn (z 8)))) tx (nI 102)) tx (nI 116)) tx (nI 113)) tx (nI 1)) tx (nI 61)) tx (nI 2)) tx (nI 44)) tx (nI 2)) = 0 then (m_X5_readsNumber_z (m_X5_takesOne_z (m_X5_readsNumber_z (m_X5_takesOne_z (m_X5_readsNumber_z (m_X5_takesOne_z (m_X5_takesOne_z (m_X5_takesOne_z (upd z 9 (tx (tn (z 8)))) tx (nI 102)) tx (nI 116)) tx (nI 113)) tx (nI 1)) tx (nI 61)) tx (nI 2)) tx (nI 44)) tx (nI 2)) else (m_X5_readsNumber_z (m_X5_takesOne_z (m_X5_readsNumber_z (m_X5_takesOne_z (m_X5_readsNumber_z (m_X5_takesOne_z (m_X5_takesOne_z (m_X5_takesOne_z (upd z 9 (tx (tn (z 8)))) tx (nI 102)) tx (nI 116)) tx (nI 113)) tx (nI 1)) tx (nI 61)) tx (nI 2)) tx (nI 44)) tx (nI 2))) else (m_X5_readsNumber_z (m_X5_takesOne_z (m_X5_takesOne_z (upd z 9 (tx (tn (z 8)))) tx (nI 102)) tx (nI 116)) tx (nI 2))) else if (m_X5_readsNumber_r (m_X5_takesOne_z (upd z 9 (tx (tn (z 8)))) tx (nI 102)) tx (nI 2)) = 0 then (m_X5_readsNumber_z (m_X5_takesOne_z (upd z 9 (tx (tn (z 8)))) tx (nI 102)) tx (nI 2)) else if (m_X5_takesOne_r (m_X5_readsNumber_z (m_X5_takesOne_z (upd z 9 (tx (tn (z 8)))) tx (nI 102)) tx (nI 2)) tx (nI 42)) = 0 then (m_X5_takesOne_z (m_X5_readsNumber_z (m_X5_takesOne_z (upd z 9 (tx (tn (z 8)))) tx (nI 102)) tx (nI 2)) tx (nI 42)) else if (m_X5_readsNumber_r (m_X5_takesOne_z (m_X5_readsNumber_z (m_X5_takesOne_z (upd z 9 (tx (tn (z 8)))) tx (nI 102)) tx (nI 2)) tx (nI 42)) tx (nI 2)) = 0 then (m_X5_readsNumber_z (m_X5_takesOne_z (m_X5_readsNumber_z (m_X5_takesOne_z (upd z 9 (tx (tn (z 8)))) tx (nI 102)) tx (nI 2)) tx (nI 42)) tx (nI 2)) else (m_X5_readsNumber_z (m_X5_takesOne_z (m_X5_readsNumber_z (m_X5_takesOne_z (upd z 9 (tx (tn (z 8)))) tx (nI 102)) tx (nI 2)) tx (nI 42)) tx (nI 2))
def m_X5_readsOrder_td (z : Nat → Int32) (tx : Nat → Int32) (td : Nat → Int32) : Nat → Int32 := if tn (z 7) ≤ tn (z 8) then (if (m_X5_takesOne_r (upd z 9 (nI 0)) tx (nI 102)) = 0 then (if (m_X5_takesOne_r (m_X5_takesOne_z (upd z 9 (nI 0)) tx (nI 102)) tx (nI 116)) = 0 then (if (m_X5_takesOne_r (m_X5_takesOne_z (m_X5_takesOne_z (upd z 9 (nI 0)) tx (nI 102)) tx (nI 116)) tx (nI 113)) = 0 then (if (m_X5_takesOne_r (m_X5_takesOne_z (m_X5_takesOne_z (m_X5_takesOne_z (upd z 9 (nI 0)) tx (nI 102)) tx (nI 116)) tx (nI 113)) tx (nI 109)) = 0 then td else if (m_X5_readsNumber_r (m_X5_takesOne_z (m_X5_takesOne_z (m_X5_takesOne_z (m_X5_takesOne_z (upd z 9 (nI 0)) tx (nI 102)) tx (nI 116)) tx (nI 113)) tx (nI 109)) tx (nI 1)) = 0 then (m_X5_readsNumber_td (m_X5_takesOne_z (m_X5_takesOne_z (m_X5_takesOne_z (m_X5_takesOne_z (upd z 9 (nI 0)) tx (nI 102)) tx (nI 116)) tx (nI 113)) tx (nI 109)) tx td 0 (nI 1)) else (m_X5_readsNumber_td (m_X5_takesOne_z (m_X5_takesOne_z (m_X5_takesOne_z (m_X5_takesOne_z (upd z 9 (nI 0)) tx (nI 102)) tx (nI 116)) tx (nI 113)) tx (nI 109)) tx td 0 (nI 1))) else if (m_X5_readsNumber_r (m_X5_takesOne_z (m_X5_takesOne_z (m_X5_takesOne_z (upd z 9 (nI 0)) tx (nI 102)) tx (nI 116)) tx (nI 113)) tx (nI 1)) = 0 then (m_X5_readsNumber_td (m_X5_takesOne_z (m_X5_takesOne_z (m_X5_takesOne_z (upd z 9 (nI 0)) tx (nI 102)) tx (nI 116)) tx (nI 113)) tx td 0 (nI 1)) else if (m_X5_takesOne_r (m_X5_readsNumber_z (m_X5_takesOne_z (m_X5_takesOne_z (m_X5_takesOne_z (upd z 9 (nI 0)) tx (nI 102)) tx (nI 116)) tx (nI 113)) tx (nI 1)) tx (nI 61)) = 0 then (m_X5_readsNumber_td (m_X5_takesOne_z (m_X5_takesOne_z (m_X5_takesOne_z (upd z 9 (nI 0)) tx (nI 102)) tx (nI 116)) tx (nI 113)) tx td 0 (nI 1)) else if (m_X5_readsNumber_r (m_X5_takesOne_z (m_X5_readsNumber_z (m_X5_takesOne_z (m_X5_takesOne_z (m_X5_takesOne_z (upd z 9 (nI 0)) tx (nI 102)) tx (nI 116)) tx (nI 113)) tx (nI 1)) tx (nI 61)) tx (nI 2)) = 0 then (m_X5_readsNumber_td (m_X5_takesOne_z (m_X5_readsNumber_z (m_X5_takesOne_z (m_X5_takesOne_z (m_X5_takesOne_z (upd z 9 (nI 0)) tx (nI 102)) tx (nI 116)) tx (nI 113)) tx (nI 1)) tx (nI 61)) tx (m_X5_readsNumber_td (m_X5_takesOne_z (m_X5_takesOne_z (m_X5_takesOne_z (upd z 9 (nI 0)) tx (nI 102)) tx (nI 116)) tx (nI 113)) tx td 0 (nI 1)) 1 (nI 2)) else if (m_X5_takesOne_r (m_X5_readsNumber_z (m_X5_takesOne_z (m_X5_readsNumber_z (m_X5_takesOne_z (m_X5_takesOne_z (m_X5_takesOne_z (upd z 9 (nI 0)) tx (nI 102)) tx (nI 116)) tx (nI 113)) tx (nI 1)) tx (nI 61)) tx (nI 2)) tx (nI 44)) = 0 then (m_X5_readsNumber_td (m_X5_takesOne_z (m_X5_readsNumber_z (m_X5_takesOne_z (m_X5_takesOne_z (m_X5_takesOne_z (upd z 9 (nI 0)) tx (nI 102)) tx (nI 116)) tx (nI 113)) tx (nI 1)) tx (nI 61)) tx (m_X5_readsNumber_td (m_X5_takesOne_z (m_X5_takesOne_z (m_X5_takesOne_z (upd z 9 (nI 0)) tx (nI 102)) tx (nI 116)) tx (nI 113)) tx td 0 (nI 1)) 1 (nI 2)) else if (m_X5_readsNumber_r (m_X5_takesOne_z (m_X5_readsNumber_z (m_X5_takesOne_z (m_X5_readsNumber_z (m_X5_takesOne_z (m_X5_takesOne_z (m_X5_takesOne_z (upd z 9 (nI 0)) tx (nI 102)) tx (nI 116)) tx (nI 113)) tx (nI 1)) tx (nI 61)) tx (nI 2)) tx (nI 44)) tx (nI 2)) = 0 then (m_X5_readsNumber_td (m_X5_takesOne_z (m_X5_readsNumber_z (m_X5_takesOne_z (m_X5_readsNumber_z (m_X5_takesOne_z (m_X5_takesOne_z (m_X5_takesOne_z (upd z 9 (nI 0)) tx (nI 102)) tx (nI 116)) tx (nI 113)) tx (nI 1)) tx (nI 61)) tx (nI 2)) tx (nI 44)) tx (m_X5_readsNumber_td (m_X5_takesOne_z (m_X5_readsNumber_z (m_X5_takesOne_z (m_X5_takesOne_z (m_X5_takesOne_z (upd z 9 (nI 0)) tx (nI 102)) tx (nI 116)) tx (nI 113)) tx (nI 1)) tx (nI 61)) tx (m_X5_readsNumber_td (m_X5_takesOne_z (m_X5_takesOne_z (m_X5_takesOne_z (upd z 9 (nI 0)) tx (nI 102)) tx (nI 116)) tx (nI 113)) tx td 0 (nI 1)) 1 (nI 2)) 2 (nI 2)) else (m_X5_readsNumber_td (m_X5_takesOne_z (m_X5_readsNumber_z (m_X5_takesOne_z (m_X5_readsNumber_z (m_X5_takesOne_z (m_X5_takesOne_z (m_X5_takesOne_z (upd z 9 (nI 0)) tx (nI 102)) tx (nI 116)) tx (nI 113)) tx (nI 1)) tx (nI 61)) tx (nI 2)) tx (nI 44)) tx (m_X5_readsNumber_td (m_X5_takesOne_z (m_X5_readsNumber_z (m_X5_takesOne_z (m_X5_takesOne_z (m_X5_takesOne_z (upd z 9 (nI 0)) tx (nI 102)) tx (nI 116)) tx (nI 113)) tx (nI 1)) tx (nI 61)) tx (m_X5_readsNumber_td (m_X5_takesOne_z (m_X5_takesOne_z (m_X5_takesOne_z (upd z 9 (nI 0)) tx (nI 102)) tx (nI 116)) tx (nI 113)) tx td 0 (nI 1)) 1 (nI 2)) 2 (nI 2))) else (m_X5_readsNumber_td (m_X5_takesOne_z (m_X5_takesOne_z (upd z 9 (nI 0)) tx (nI 102)) tx (nI 116)) tx td 0 (nI 2))) else if (m_X5_readsNumber_r (m_X5_takesOne_z (upd z 9 (nI 0)) tx (nI 102)) tx (nI 2)) = 0 then upd (m_X5_readsNumber_td (m_X5_takesOne_z (upd z 9 (nI 0)) tx (nI 102)) tx td 0 (nI 2)) 1 (nI 1) else if (m_X5_takesOne_r (m_X5_readsNumber_z (m_X5_takesOne_z (upd z 9 (nI 0)) tx (nI 102)) tx (nI 2)) tx (nI 42)) = 0 then upd (m_X5_readsNumber_td (m_X5_takesOne_z (upd z 9 (nI 0)) tx (nI 102)) tx td 0 (nI 2)) 1 (nI 1) else if (m_X5_readsNumber_r (m_X5_takesOne_z (m_X5_readsNumber_z (m_X5_takesOne_z (upd z 9 (nI 0)) tx (nI 102)) tx (nI 2)) tx (nI 42)) tx (nI 2)) = 0 then (m_X5_readsNumber_td (m_X5_takesOne_z (m_X5_readsNumber_z (m_X5_takesOne_z (upd z 9 (nI 0)) tx (nI 102)) tx (nI 2)) tx (nI 42)) tx (upd (m_X5_readsNumber_td (m_X5_takesOne_z (upd z 9 (nI 0)) tx (nI 102)) tx td 0 (nI 2)) 1 (nI 1)) 1 (nI 2)) else (m_X5_readsNumber_td (m_X5_takesOne_z (m_X5_readsNumber_z (m_X5_takesOne_z (upd z 9 (nI 0)) tx (nI 102)) tx (nI 2)) tx (nI 42)) tx (upd (m_X5_readsNumber_td (m_X5_takesOne_z (upd z 9 (nI 0)) tx (nI 102)) tx td 0 (nI 2)) 1 (nI 1)) 1 (nI 2))) else if (m_X5_takesOne_r (upd z 9 (tx (tn (z 8)))) tx (nI 102)) = 0 then (if (m_X5_takesOne_r (m_X5_takesOne_z (upd z 9 (tx (tn (z 8)))) tx (nI 102)) tx (nI 116)) = 0 then (if (m_X5_takesOne_r (m_X5_takesOne_z (m_X5_takesOne_z (upd z 9 (tx (tn (z 8)))) tx (nI 102)) tx (nI 116)) tx (nI 113)) = 0 then (if (m_X5_takesOne_r (m_X5_takesOne_z (m_X5_takesOne_z (m_X5_takesOne_z (upd z 9 (tx (tn (z 8)))) tx (nI 102)) tx (nI 116)) tx (nI 113)) tx (nI 109)) = 0 then td else if (m_X5_readsNumber_r (m_X5_takesOne_z (m_X5_takesOne_z (m_X5_takesOne_z (m_X5_takesOne_z (upd z 9 (tx (tn (z 8)))) tx (nI 102)) tx (nI 116)) tx (nI 113)) tx (nI 109)) tx (nI 1)) = 0 then (m_X5_readsNumber_td (m_X5_takesOne_z (m_X5_takesOne_z (m_X5_takesOne_z (m_X5_takesOne_z (upd z 9 (tx (tn (z 8)))) tx (nI 102)) tx (nI 116)) tx (nI 113)) tx (nI 109)) tx td 0 (nI 1)) else (m_X5_readsNumber_td (m_X5_takesOne_z (m_X5_takesOne_z (m_X5_takesOne_z (m_X5_takesOne_z (upd z 9 (tx (tn (z 8)))) tx (nI 102)) tx (nI 116)) tx (nI 113)) tx (nI 109)) tx td 0 (nI 1))) else if (m_X5_readsNumber_r (m_X5_takesOne_z (m_X5_takesOne_z (m_X5_takesOne_z (upd z 9 (tx (tn (z 8)))) tx (nI 102)) tx (nI 116)) tx (nI 113)) tx (nI 1)) = 0 then (m_X5_readsNumber_td (m_X5_takesOne_z (m_X5_takesOne_z (m_X5_takesOne_z (upd z 9 (tx (tn (z 8)))) tx (nI 102)) tx (nI 116)) tx (nI 113)) tx td 0 (nI 1)) else if (m_X5_takesOne_r (m_X5_readsNumber_z (m_X5_takesOne_z (m_X5_takesOne_z (m_X5_takesOne_z (upd z 9 (tx (tn (z 8)))) tx (nI 102)) tx (nI 116)) tx (nI 113)) tx (nI 1)) tx (nI 61)) = 0 then (m_X5_readsNumber_td (m_X5_takesOne_z (m_X5_takesOne_z (m_X5_takesOne_z (upd z 9 (tx (tn (z 8)))) tx (nI 102)) tx (nI 116)) tx (nI 113)) tx td 0 (nI 1)) else if (m_X5_readsNumber_r (m_X5_takesOne_z (m_X5_readsNumber_z (m_X5_takesOne_z (m_X5_takesOne_z (m_X5_takesOne_z (upd z 9 (tx (tn (z 8)))) tx (nI 102)) tx (nI 116)) tx (nI 113)) tx (nI 1)) tx (nI 61)) tx (nI 2)) = 0 then (m_X5_readsNumber_td (m_X5_takesOne_z (m_X5_readsNumber_z (m_X5_takesOne_z (m_X5_takesOne_z (m_X5_takesOne_z (upd z 9 (tx (tn (z 8)))) tx (nI 102)) tx (nI 116)) tx (nI 113)) tx (nI 1)) tx (nI 61)) tx (m_X5_readsNumber_td (m_X5_takesOne_z (m_X5_takesOne_z (m_X5_takesOne_z (upd z 9 (tx (tn (z 8)))) tx (nI 102)) tx (nI 116)) tx (nI 113)) tx td 0 (nI 1)) 1 (nI 2)) else if (m_X5_takesOne_r (m_X5_readsNumber_z (m_X5_takesOne_z (m_X5_readsNumber_z (m_X5_takesOne_z (m_X5_takesOne_z (m_X5_takesOne_z (upd z 9 (tx (tn (z 8)))) tx (nI 102)) tx (nI 116)) tx (nI 113)) tx (nI 1)) tx (nI 61)) tx (nI 2)) tx (nI 44)) = 0 then (m_X5_readsNumber_td (m_X5_takesOne_z (m_X5_readsNumber_z (m_X5_takesOne_z (m_X5_takesOne_z (m_X5_takesOne_z (upd z 9 (tx (tn (z 8)))) tx (nI 102)) tx (nI 116)) tx (nI 113)) tx (nI 1)) tx (nI 61)) tx (m_X5_readsNumber_td (m_X5_takesOne_z (m_X5_takesOne_z (m_X5_takesOne_z (upd z 9 (tx (tn (z 8)))) tx (nI 102)) tx (nI 116)) tx (nI 113)) tx td 0 (nI 1)) 1 (nI 2)) else if (m_X5_readsNumber_r (m_X5_takesOne_z (m_X5_readsNumber_z (m_X5_takesOne_z (m_X5_readsNumber_z (m_X5_takesOne_z (m_X5_takesOne_z (m_X5_takesOne_z (upd z 9 (tx (tn (z 8)))) tx (nI 102)) tx (nI 116)) tx (nI 113)) tx (nI 1)) tx (nI 61)) tx (nI 2)) tx (nI 44)) tx (nI 2)) = 0 then (m_X5_readsNumber_td (m_X5_takesOne_z (m_X5_readsNumber_z (m_X5_takesOne_z (m_X5_readsNumber_z (m_X5_takesOne_z (m_X5_takesOne_z (m_X5_takesOne_z (upd z 9 (tx (tn (z 8)))) tx (nI 102)) tx (nI 116)) tx (nI 113)) tx (nI 1)) tx (nI 61)) tx (nI 2)) tx (nI 44)) tx (m_X5_readsNumber_td (m_X5_takesOne_z (m_X5_readsNumber_z (m_X5_takesOne_z (m_X5_takesOne_z (m_X5_takesOne_z (upd z 9 (tx (tn (z 8)))) tx (nI 102)) tx (nI 116)) tx (nI 113)) tx (nI 1)) tx (nI 61)) tx (m_X5_readsNumber_td (m_X5_takesOne_z (m_X5_takesOne_z (m_X5_takesOne_z (upd z 9 (tx (tn (z 8)))) tx (nI 102)) tx (nI 116)) tx (nI 113)) tx td 0 (nI 1)) 1 (nI 2)) 2 (nI 2)) else (m_X5_readsNumber_td (m_X5_takesOne_z (m_X5_readsNumber_z (m_X5_takesOne_z (m_X5_readsNumber_z (m_X5_takesOne_z (m_X5_takesOne_z (m_X5_takesOne_z (upd z 9 (tx (tn (z 8)))) tx (nI 102)) tx (nI 116)) tx (nI 113)) tx (nI 1)) tx (nI 61)) tx (nI 2)) tx (nI 44)) tx (m_X5_readsNumber_td (m_X5_takesOne_z (m_X5_readsNumber_z (m_X5_takesOne_z (m_X5_takesOne_z (m_X5_takesOne_z (upd z 9 (tx (tn (z 8)))) tx (nI 102)) tx (nI 116)) tx (nI 113)) tx (nI 1)) tx (nI 61)) tx (m_X5_readsNumber_td (m_X5_takesOne_z (m_X5_takesOne_z (m_X5_takesOne_z (upd z 9 (tx (tn (z 8)))) tx (nI 102)) tx (nI 116)) tx (nI 113)) tx td 0 (nI 1)) 1 (nI 2)) 2 (nI 2))) else (m_X5_readsNumber_td (m_X5_takesOne_z (m_X5_takesOne_z (upd z 9 (tx (tn (z 8)))) tx (nI 102)) tx (nI 116)) tx td 0 (nI 2))) else if (m_X5_readsNumber_r (m_X5_takesOne_z (upd z 9 (tx (tn (z 8)))) tx (nI 102)) tx (nI 2)) = 0 then upd (m_X5_readsNumber_td (m_X5_takesOne_z (upd z 9 (tx (tn (z 8)))) tx (nI 102)) tx td 0 (nI 2)) 1 (nI 1) else if (m_X5_takesOne_r (m_X5_readsNumber_z (m_X5_takesOne_z (upd z 9 (tx (tn (z 8)))) tx (nI 102)) tx (nI 2)) tx (nI 42)) = 0 then upd (m_X5_readsNumber_td (m_X5_takesOne_z (upd z 9 (tx (tn (z 8)))) tx (nI 102)) tx td 0 (nI 2)) 1 (nI 1) else if (m_X5_readsNumber_r (m_X5_takesOne_z (m_X5_readsNumber_z (m_X5_takesOne_z (upd z 9 (tx (tn (z 8)))) tx (nI 102)) tx (nI 2)) tx (nI 42)) tx (nI 2)) = 0 then (m_X5_readsNumber_td (m_X5_takesOne_z (m_X5_readsNumber_z (m_X5_takesOne_z (upd z 9 (tx (tn (z 8)))) tx (nI 102)) tx (nI 2)) tx (nI 42)) tx (upd (m_X5_readsNumber_td (m_X5_takesOne_z (upd z 9 (tx (tn (z 8)))) tx (nI 102)) tx td 0 (nI 2)) 1 (nI 1)) 1 (nI 2)) else (m_X5_readsNumber_td (m_X5_takesOne_z (m_X5_readsNumber_z (m_X5_takesOne_z (upd z 9 (tx (tn (z 8)))) tx (nI 102)) tx (nI 2)) tx (nI 42)) tx (upd (m_X5_readsNumber_td (m_X5_takesOne_z (upd z 9 (tx (tn (z 8)))) tx (nI 102)) tx td 0 (nI 2)) 1 (nI 1)) 1 (nI 2))
set_option maxHeartbeats 4000000 in
set_option maxRecDepth 100000 in
theorem c_X5_readsOrder (l : Launch) (D : va_G) (k : Nat → ClassId) (a : Nat → Nat) (z : Nat → Int32) (f : Nat → Int32) (kp : Nat → Int32) (hi : Nat → Int32) (sl : Nat → Int32) (sv : Nat → Int32) (tx : Nat → Int32) (td : Nat → Int32)  (hp : PT z) : mI l yX5_readsOrder (wsY yX5_readsOrder cX5_readsOrder 2 (some .boolean)) 3 D k [.ref (a 0)] (refW k a z f kp hi sl sv tx td) (refW k a (m_X5_readsOrder_z z tx) f kp hi sl sv tx (m_X5_readsOrder_td z tx td)) (m_X5_readsOrder_r z tx) := by
  refine mI_intro rfl (Nat.le_of_ble_eq_true rfl) (Or.inr ⟨rfl, by rw [m_X5_readsOrder_r]; exact (nb_ite (nb_ite (nb_ite (nb_ite (nb_ite rfl (nb_ite rfl rfl)) (nb_ite rfl (nb_ite rfl (nb_ite rfl (nb_ite rfl (nb_ite rfl rfl)))))) nb_rn) (nb_ite rfl (nb_ite rfl (nb_ite rfl rfl)))) (nb_ite (nb_ite (nb_ite (nb_ite rfl (nb_ite rfl rfl)) (nb_ite rfl (nb_ite rfl (nb_ite rfl (nb_ite rfl (nb_ite rfl rfl)))))) nb_rn) (nb_ite rfl (nb_ite rfl (nb_ite rfl rfl)))))⟩) ?_
  intro p e s m args below meth c A Q ls X hW hl hQ
  have hx := X.hx
  have hb := X.hb
  have hl : lv_has ls 2 [(0, .ref (a 0))] := hl
  have hq_1 := hp.1.2
  have hq_2 := hp.2.2
  refine lv_aload_n hx hb dX5_readsOrder_0 rfl (lv_at hl 0 rfl) ?_
  refine lv_aload_n hx hb dX5_readsOrder_1 rfl (lv_at hl 0 rfl) ?_
  refine k_get X hW inG5 rfl 8 (by decide) fl_X5_165 rfl 0 rfl (v := .int (z 8)) rfl dX5_readsOrder_2 ?_
  refine k_top (y := nI (tn (z 8))) (hp.2.1) ?_
  refine lv_aload_n hx hb dX5_readsOrder_5 rfl (lv_at hl 0 rfl) ?_
  refine k_get X hW inG5 rfl 7 (by decide) fl_X5_136 rfl 0 rfl (v := .int (z 7)) rfl dX5_readsOrder_6 ?_
  refine k_top (y := nI (tn (z 7))) (hp.1.1) ?_
  refine lv_icmp_ge (tgt := 24) hx hb dX5_readsOrder_9 (by decide) (fun c_3 => ?_) (fun c_3 => ?_)
  · have c_3 : tn (z 7) ≤ tn (z 8) := (nI_leI (a := tn (z 7)) (b := tn (z 8)) (by omega) (by omega)).mp c_3
    refine lv_iconst (v := nI 0) hx hb dX5_readsOrder_24 (by decide +kernel) ?_
    refine k_put X hW inG5 rfl tyX5_ok nmX5 9 (by decide) fl_X5_171 rfl rfl 0 rfl rfl rfl (Nat.le_of_ble_eq_true rfl) dX5_readsOrder_25 (w' := refW k a (upd z 9 (nI 0)) f kp hi sl sv tx td) rfl (fun H locs hW => ?_)
    refine lv_aload_n hx hb dX5_readsOrder_28 rfl (lv_at hl 0 rfl) ?_
    refine lv_bipush (v := nI 102) hx hb dX5_readsOrder_29 (by decide +kernel) ?_
    obtain ⟨z_4, hz_4⟩ : ∃ zq, m_X5_takesOne_z (upd z 9 (nI 0)) tx (nI 102) = zq := ⟨_, rfl⟩
    have hP_z_4 : PT z_4 := by rw [← hz_4]; exact PT_takesOne (PT_u hp (by decide) (by decide))
    have hq_5 := hP_z_4.1.2
    have hq_6 := hP_z_4.2.2
    obtain ⟨z_7, hz_7⟩ : ∃ zq, m_X5_takesOne_r (upd z 9 (nI 0)) tx (nI 102) = zq := ⟨_, rfl⟩
    have hM_8 := (c_X5_takesOne l D k a (upd z 9 (nI 0)) f kp hi sl sv tx td (nI 102) (PT_u hp (by decide) (by decide)))
    rw [hz_4, hz_7] at hM_8
    refine kVi (As := [.int (nI 102)]) (rest := []) X hW hM_8 yw_X5_takesOne lk_X5_174 ⟨Nat.le_of_ble_eq_true rfl, Nat.le_of_ble_eq_true rfl⟩ (wr := []) (List.Perm.refl _) (w' := refW k a z_4 f kp hi sl sv tx td) (List.Perm.refl _) (k_rcv X hW (ci := 5) (q0 := 0) rfl rfl) rfl hl.1 rfl (Nat.le_of_ble_eq_true rfl) ⟨Nat.zero_le _, Nat.zero_le _⟩ dX5_readsOrder_31 (fun H locs hW => ?_)
    refine lv_if_eq (tgt := 79) hx hb dX5_readsOrder_34 (by decide) (fun c_9 => ?_) (fun c_9 => ?_)
    · refine lv_aload_n hx hb dX5_readsOrder_79 rfl (lv_at hl 0 rfl) ?_
      refine lv_bipush (v := nI 116) hx hb dX5_readsOrder_80 (by decide +kernel) ?_
      obtain ⟨z_10, hz_10⟩ : ∃ zq, m_X5_takesOne_z z_4 tx (nI 116) = zq := ⟨_, rfl⟩
      have hP_z_10 : PT z_10 := by rw [← hz_10]; exact PT_takesOne hP_z_4
      have hq_11 := hP_z_10.1.2
      have hq_12 := hP_z_10.2.2
      obtain ⟨z_13, hz_13⟩ : ∃ zq, m_X5_takesOne_r z_4 tx (nI 116) = zq := ⟨_, rfl⟩
      have hM_14 := (c_X5_takesOne l D k a z_4 f kp hi sl sv tx td (nI 116) hP_z_4)
      rw [hz_10, hz_13] at hM_14
      refine kVi (As := [.int (nI 116)]) (rest := []) X hW hM_14 yw_X5_takesOne lk_X5_174 ⟨Nat.le_of_ble_eq_true rfl, Nat.le_of_ble_eq_true rfl⟩ (wr := []) (List.Perm.refl _) (w' := refW k a z_10 f kp hi sl sv tx td) (List.Perm.refl _) (k_rcv X hW (ci := 5) (q0 := 0) rfl rfl) rfl hl.1 rfl (Nat.le_of_ble_eq_true rfl) ⟨Nat.zero_le _, Nat.zero_le _⟩ dX5_readsOrder_82 (fun H locs hW => ?_)
      refine lv_if_eq (tgt := 95) hx hb dX5_readsOrder_85 (by decide) (fun c_15 => ?_) (fun c_15 => ?_)
      · refine lv_aload_n hx hb dX5_readsOrder_95 rfl (lv_at hl 0 rfl) ?_
        refine lv_bipush (v := nI 113) hx hb dX5_readsOrder_96 (by decide +kernel) ?_
        obtain ⟨z_16, hz_16⟩ : ∃ zq, m_X5_takesOne_z z_10 tx (nI 113) = zq := ⟨_, rfl⟩
        have hP_z_16 : PT z_16 := by rw [← hz_16]; exact PT_takesOne hP_z_10
        have hq_17 := hP_z_16.1.2
        have hq_18 := hP_z_16.2.2
        obtain ⟨z_19, hz_19⟩ : ∃ zq, m_X5_takesOne_r z_10 tx (nI 113) = zq := ⟨_, rfl⟩
        have hM_20 := (c_X5_takesOne l D k a z_10 f kp hi sl sv tx td (nI 113) hP_z_10)
        rw [hz_16, hz_19] at hM_20
        refine kVi (As := [.int (nI 113)]) (rest := []) X hW hM_20 yw_X5_takesOne lk_X5_174 ⟨Nat.le_of_ble_eq_true rfl, Nat.le_of_ble_eq_true rfl⟩ (wr := []) (List.Perm.refl _) (w' := refW k a z_16 f kp hi sl sv tx td) (List.Perm.refl _) (k_rcv X hW (ci := 5) (q0 := 0) rfl rfl) rfl hl.1 rfl (Nat.le_of_ble_eq_true rfl) ⟨Nat.zero_le _, Nat.zero_le _⟩ dX5_readsOrder_98 (fun H locs hW => ?_)
        refine lv_if_eq (tgt := 155) hx hb dX5_readsOrder_101 (by decide) (fun c_21 => ?_) (fun c_21 => ?_)
        · refine lv_aload_n hx hb dX5_readsOrder_155 rfl (lv_at hl 0 rfl) ?_
          refine lv_bipush (v := nI 109) hx hb dX5_readsOrder_156 (by decide +kernel) ?_
          obtain ⟨z_22, hz_22⟩ : ∃ zq, m_X5_takesOne_z z_16 tx (nI 109) = zq := ⟨_, rfl⟩
          have hP_z_22 : PT z_22 := by rw [← hz_22]; exact PT_takesOne hP_z_16
          have hq_23 := hP_z_22.1.2
          have hq_24 := hP_z_22.2.2
          obtain ⟨z_25, hz_25⟩ : ∃ zq, m_X5_takesOne_r z_16 tx (nI 109) = zq := ⟨_, rfl⟩
          have hM_26 := (c_X5_takesOne l D k a z_16 f kp hi sl sv tx td (nI 109) hP_z_16)
          rw [hz_22, hz_25] at hM_26
          refine kVi (As := [.int (nI 109)]) (rest := []) X hW hM_26 yw_X5_takesOne lk_X5_174 ⟨Nat.le_of_ble_eq_true rfl, Nat.le_of_ble_eq_true rfl⟩ (wr := []) (List.Perm.refl _) (w' := refW k a z_22 f kp hi sl sv tx td) (List.Perm.refl _) (k_rcv X hW (ci := 5) (q0 := 0) rfl rfl) rfl hl.1 rfl (Nat.le_of_ble_eq_true rfl) ⟨Nat.zero_le _, Nat.zero_le _⟩ dX5_readsOrder_158 (fun H locs hW => ?_)
          refine lv_if_eq (tgt := 177) hx hb dX5_readsOrder_161 (by decide) (fun c_27 => ?_) (fun c_27 => ?_)
          · refine lv_iconst (v := nI 0) hx hb dX5_readsOrder_177 (by decide +kernel) ?_
            exact hQ _ _ _ _ _ _ hW dX5_readsOrder_178 (by subst hz_25; subst hz_22; subst hz_19; subst hz_16; subst hz_13; subst hz_10; subst hz_7; subst hz_4; rw [m_X5_readsOrder_r, if_pos c_3, if_pos c_9, if_pos c_15, if_pos c_21, if_pos c_27]) (by subst hz_25; subst hz_22; subst hz_19; subst hz_16; subst hz_13; subst hz_10; subst hz_7; subst hz_4; rw [m_X5_readsOrder_z, if_pos c_3, if_pos c_9, if_pos c_15, if_pos c_21, if_pos c_27, m_X5_readsOrder_td, if_pos c_3, if_pos c_9, if_pos c_15, if_pos c_21, if_pos c_27])
          · refine lv_aload_n hx hb dX5_readsOrder_164 rfl (lv_at hl 0 rfl) ?_
            refine lv_iconst (v := nI 0) hx hb dX5_readsOrder_165 (by decide +kernel) ?_
            refine lv_iconst (v := nI 1) hx hb dX5_readsOrder_166 (by decide +kernel) ?_
            obtain ⟨z_28, hz_28⟩ : ∃ zq, m_X5_readsNumber_z z_22 tx (nI 1) = zq := ⟨_, rfl⟩
            have hP_z_28 : PT z_28 := by rw [← hz_28]; exact PT_readsNumber hP_z_22
            have hq_29 := hP_z_28.1.2
            have hq_30 := hP_z_28.2.2
            obtain ⟨z_31, hz_31⟩ : ∃ zq, m_X5_readsNumber_td z_22 tx td 0 (nI 1) = zq := ⟨_, rfl⟩
            obtain ⟨z_32, hz_32⟩ : ∃ zq, m_X5_readsNumber_r z_22 tx (nI 1) = zq := ⟨_, rfl⟩
            have hM_33 := (c_X5_readsNumber l D k a z_22 f kp hi sl sv tx td 0 (nI 1) hP_z_22 (by first | decide | omega))
            rw [hz_28, hz_31, hz_32] at hM_33
            refine kVi (As := [.int (nI 0), .int (nI 1)]) (rest := []) X hW hM_33 yw_X5_readsNumber lk_X5_177 ⟨Nat.le_of_ble_eq_true rfl, Nat.le_of_ble_eq_true rfl⟩ (wr := []) (List.Perm.refl _) (w' := refW k a z_28 f kp hi sl sv tx z_31) (List.Perm.refl _) (k_rcv X hW (ci := 5) (q0 := 0) rfl rfl) rfl hl.1 rfl (Nat.le_of_ble_eq_true rfl) ⟨Nat.zero_le _, Nat.zero_le _⟩ dX5_readsOrder_167 (fun H locs hW => ?_)
            refine lv_if_eq (tgt := 177) hx hb dX5_readsOrder_170 (by decide) (fun c_34 => ?_) (fun c_34 => ?_)
            · refine lv_iconst (v := nI 0) hx hb dX5_readsOrder_177 (by decide +kernel) ?_
              exact hQ _ _ _ _ _ _ hW dX5_readsOrder_178 (by subst hz_32; subst hz_31; subst hz_28; subst hz_25; subst hz_22; subst hz_19; subst hz_16; subst hz_13; subst hz_10; subst hz_7; subst hz_4; rw [m_X5_readsOrder_r, if_pos c_3, if_pos c_9, if_pos c_15, if_pos c_21, if_neg c_27, if_pos c_34]) (by subst hz_32; subst hz_31; subst hz_28; subst hz_25; subst hz_22; subst hz_19; subst hz_16; subst hz_13; subst hz_10; subst hz_7; subst hz_4; rw [m_X5_readsOrder_z, if_pos c_3, if_pos c_9, if_pos c_15, if_pos c_21, if_neg c_27, if_pos c_34, m_X5_readsOrder_td, if_pos c_3, if_pos c_9, if_pos c_15, if_pos c_21, if_neg c_27, if_pos c_34])
            · refine lv_iconst (v := nI 1) hx hb dX5_readsOrder_173 (by decide +kernel) ?_
              refine lv_goto (tgt := 178) hx hb dX5_readsOrder_174 (by decide) ?_
              exact hQ _ _ _ _ _ _ hW dX5_readsOrder_178 (by subst hz_32; subst hz_31; subst hz_28; subst hz_25; subst hz_22; subst hz_19; subst hz_16; subst hz_13; subst hz_10; subst hz_7; subst hz_4; rw [m_X5_readsOrder_r, if_pos c_3, if_pos c_9, if_pos c_15, if_pos c_21, if_neg c_27, if_neg c_34]) (by subst hz_32; subst hz_31; subst hz_28; subst hz_25; subst hz_22; subst hz_19; subst hz_16; subst hz_13; subst hz_10; subst hz_7; subst hz_4; rw [m_X5_readsOrder_z, if_pos c_3, if_pos c_9, if_pos c_15, if_pos c_21, if_neg c_27, if_neg c_34, m_X5_readsOrder_td, if_pos c_3, if_pos c_9, if_pos c_15, if_pos c_21, if_neg c_27, if_neg c_34])
        · refine lv_aload_n hx hb dX5_readsOrder_104 rfl (lv_at hl 0 rfl) ?_
          refine lv_iconst (v := nI 0) hx hb dX5_readsOrder_105 (by decide +kernel) ?_
          refine lv_iconst (v := nI 1) hx hb dX5_readsOrder_106 (by decide +kernel) ?_
          obtain ⟨z_35, hz_35⟩ : ∃ zq, m_X5_readsNumber_z z_16 tx (nI 1) = zq := ⟨_, rfl⟩
          have hP_z_35 : PT z_35 := by rw [← hz_35]; exact PT_readsNumber hP_z_16
          have hq_36 := hP_z_35.1.2
          have hq_37 := hP_z_35.2.2
          obtain ⟨z_38, hz_38⟩ : ∃ zq, m_X5_readsNumber_td z_16 tx td 0 (nI 1) = zq := ⟨_, rfl⟩
          obtain ⟨z_39, hz_39⟩ : ∃ zq, m_X5_readsNumber_r z_16 tx (nI 1) = zq := ⟨_, rfl⟩
          have hM_40 := (c_X5_readsNumber l D k a z_16 f kp hi sl sv tx td 0 (nI 1) hP_z_16 (by first | decide | omega))
          rw [hz_35, hz_38, hz_39] at hM_40
          refine kVi (As := [.int (nI 0), .int (nI 1)]) (rest := []) X hW hM_40 yw_X5_readsNumber lk_X5_177 ⟨Nat.le_of_ble_eq_true rfl, Nat.le_of_ble_eq_true rfl⟩ (wr := []) (List.Perm.refl _) (w' := refW k a z_35 f kp hi sl sv tx z_38) (List.Perm.refl _) (k_rcv X hW (ci := 5) (q0 := 0) rfl rfl) rfl hl.1 rfl (Nat.le_of_ble_eq_true rfl) ⟨Nat.zero_le _, Nat.zero_le _⟩ dX5_readsOrder_107 (fun H locs hW => ?_)
          refine lv_if_eq (tgt := 153) hx hb dX5_readsOrder_110 (by decide) (fun c_41 => ?_) (fun c_41 => ?_)
          · refine lv_iconst (v := nI 0) hx hb dX5_readsOrder_153 (by decide +kernel) ?_
            exact hQ _ _ _ _ _ _ hW dX5_readsOrder_154 (by subst hz_39; subst hz_38; subst hz_35; subst hz_19; subst hz_16; subst hz_13; subst hz_10; subst hz_7; subst hz_4; rw [m_X5_readsOrder_r, if_pos c_3, if_pos c_9, if_pos c_15, if_neg c_21, if_pos c_41]) (by subst hz_39; subst hz_38; subst hz_35; subst hz_19; subst hz_16; subst hz_13; subst hz_10; subst hz_7; subst hz_4; rw [m_X5_readsOrder_z, if_pos c_3, if_pos c_9, if_pos c_15, if_neg c_21, if_pos c_41, m_X5_readsOrder_td, if_pos c_3, if_pos c_9, if_pos c_15, if_neg c_21, if_pos c_41])
          · refine lv_aload_n hx hb dX5_readsOrder_113 rfl (lv_at hl 0 rfl) ?_
            refine lv_bipush (v := nI 61) hx hb dX5_readsOrder_114 (by decide +kernel) ?_
            obtain ⟨z_42, hz_42⟩ : ∃ zq, m_X5_takesOne_z z_35 tx (nI 61) = zq := ⟨_, rfl⟩
            have hP_z_42 : PT z_42 := by rw [← hz_42]; exact PT_takesOne hP_z_35
            have hq_43 := hP_z_42.1.2
            have hq_44 := hP_z_42.2.2
            obtain ⟨z_45, hz_45⟩ : ∃ zq, m_X5_takesOne_r z_35 tx (nI 61) = zq := ⟨_, rfl⟩
            have hM_46 := (c_X5_takesOne l D k a z_35 f kp hi sl sv tx z_38 (nI 61) hP_z_35)
            rw [hz_42, hz_45] at hM_46
            refine kVi (As := [.int (nI 61)]) (rest := []) X hW hM_46 yw_X5_takesOne lk_X5_174 ⟨Nat.le_of_ble_eq_true rfl, Nat.le_of_ble_eq_true rfl⟩ (wr := []) (List.Perm.refl _) (w' := refW k a z_42 f kp hi sl sv tx z_38) (List.Perm.refl _) (k_rcv X hW (ci := 5) (q0 := 0) rfl rfl) rfl hl.1 rfl (Nat.le_of_ble_eq_true rfl) ⟨Nat.zero_le _, Nat.zero_le _⟩ dX5_readsOrder_116 (fun H locs hW => ?_)
            refine lv_if_eq (tgt := 153) hx hb dX5_readsOrder_119 (by decide) (fun c_47 => ?_) (fun c_47 => ?_)
            · refine lv_iconst (v := nI 0) hx hb dX5_readsOrder_153 (by decide +kernel) ?_
              exact hQ _ _ _ _ _ _ hW dX5_readsOrder_154 (by subst hz_45; subst hz_42; subst hz_39; subst hz_38; subst hz_35; subst hz_19; subst hz_16; subst hz_13; subst hz_10; subst hz_7; subst hz_4; rw [m_X5_readsOrder_r, if_pos c_3, if_pos c_9, if_pos c_15, if_neg c_21, if_neg c_41, if_pos c_47]) (by subst hz_45; subst hz_42; subst hz_39; subst hz_38; subst hz_35; subst hz_19; subst hz_16; subst hz_13; subst hz_10; subst hz_7; subst hz_4; rw [m_X5_readsOrder_z, if_pos c_3, if_pos c_9, if_pos c_15, if_neg c_21, if_neg c_41, if_pos c_47, m_X5_readsOrder_td, if_pos c_3, if_pos c_9, if_pos c_15, if_neg c_21, if_neg c_41, if_pos c_47])
            · refine lv_aload_n hx hb dX5_readsOrder_122 rfl (lv_at hl 0 rfl) ?_
              refine lv_iconst (v := nI 1) hx hb dX5_readsOrder_123 (by decide +kernel) ?_
              refine lv_iconst (v := nI 2) hx hb dX5_readsOrder_124 (by decide +kernel) ?_
              obtain ⟨z_48, hz_48⟩ : ∃ zq, m_X5_readsNumber_z z_42 tx (nI 2) = zq := ⟨_, rfl⟩
              have hP_z_48 : PT z_48 := by rw [← hz_48]; exact PT_readsNumber hP_z_42
              have hq_49 := hP_z_48.1.2
              have hq_50 := hP_z_48.2.2
              obtain ⟨z_51, hz_51⟩ : ∃ zq, m_X5_readsNumber_td z_42 tx z_38 1 (nI 2) = zq := ⟨_, rfl⟩
              obtain ⟨z_52, hz_52⟩ : ∃ zq, m_X5_readsNumber_r z_42 tx (nI 2) = zq := ⟨_, rfl⟩
              have hM_53 := (c_X5_readsNumber l D k a z_42 f kp hi sl sv tx z_38 1 (nI 2) hP_z_42 (by first | decide | omega))
              rw [hz_48, hz_51, hz_52] at hM_53
              refine kVi (As := [.int (nI 1), .int (nI 2)]) (rest := []) X hW hM_53 yw_X5_readsNumber lk_X5_177 ⟨Nat.le_of_ble_eq_true rfl, Nat.le_of_ble_eq_true rfl⟩ (wr := []) (List.Perm.refl _) (w' := refW k a z_48 f kp hi sl sv tx z_51) (List.Perm.refl _) (k_rcv X hW (ci := 5) (q0 := 0) rfl rfl) rfl hl.1 rfl (Nat.le_of_ble_eq_true rfl) ⟨Nat.zero_le _, Nat.zero_le _⟩ dX5_readsOrder_125 (fun H locs hW => ?_)
              refine lv_if_eq (tgt := 153) hx hb dX5_readsOrder_128 (by decide) (fun c_54 => ?_) (fun c_54 => ?_)
              · refine lv_iconst (v := nI 0) hx hb dX5_readsOrder_153 (by decide +kernel) ?_
                exact hQ _ _ _ _ _ _ hW dX5_readsOrder_154 (by subst hz_52; subst hz_51; subst hz_48; subst hz_45; subst hz_42; subst hz_39; subst hz_38; subst hz_35; subst hz_19; subst hz_16; subst hz_13; subst hz_10; subst hz_7; subst hz_4; rw [m_X5_readsOrder_r, if_pos c_3, if_pos c_9, if_pos c_15, if_neg c_21, if_neg c_41, if_neg c_47, if_pos c_54]) (by subst hz_52; subst hz_51; subst hz_48; subst hz_45; subst hz_42; subst hz_39; subst hz_38; subst hz_35; subst hz_19; subst hz_16; subst hz_13; subst hz_10; subst hz_7; subst hz_4; rw [m_X5_readsOrder_z, if_pos c_3, if_pos c_9, if_pos c_15, if_neg c_21, if_neg c_41, if_neg c_47, if_pos c_54, m_X5_readsOrder_td, if_pos c_3, if_pos c_9, if_pos c_15, if_neg c_21, if_neg c_41, if_neg c_47, if_pos c_54])
              · refine lv_aload_n hx hb dX5_readsOrder_131 rfl (lv_at hl 0 rfl) ?_
                refine lv_bipush (v := nI 44) hx hb dX5_readsOrder_132 (by decide +kernel) ?_
                obtain ⟨z_55, hz_55⟩ : ∃ zq, m_X5_takesOne_z z_48 tx (nI 44) = zq := ⟨_, rfl⟩
                have hP_z_55 : PT z_55 := by rw [← hz_55]; exact PT_takesOne hP_z_48
                have hq_56 := hP_z_55.1.2
                have hq_57 := hP_z_55.2.2
                obtain ⟨z_58, hz_58⟩ : ∃ zq, m_X5_takesOne_r z_48 tx (nI 44) = zq := ⟨_, rfl⟩
                have hM_59 := (c_X5_takesOne l D k a z_48 f kp hi sl sv tx z_51 (nI 44) hP_z_48)
                rw [hz_55, hz_58] at hM_59
                refine kVi (As := [.int (nI 44)]) (rest := []) X hW hM_59 yw_X5_takesOne lk_X5_174 ⟨Nat.le_of_ble_eq_true rfl, Nat.le_of_ble_eq_true rfl⟩ (wr := []) (List.Perm.refl _) (w' := refW k a z_55 f kp hi sl sv tx z_51) (List.Perm.refl _) (k_rcv X hW (ci := 5) (q0 := 0) rfl rfl) rfl hl.1 rfl (Nat.le_of_ble_eq_true rfl) ⟨Nat.zero_le _, Nat.zero_le _⟩ dX5_readsOrder_134 (fun H locs hW => ?_)
                refine lv_if_eq (tgt := 153) hx hb dX5_readsOrder_137 (by decide) (fun c_60 => ?_) (fun c_60 => ?_)
                · refine lv_iconst (v := nI 0) hx hb dX5_readsOrder_153 (by decide +kernel) ?_
                  exact hQ _ _ _ _ _ _ hW dX5_readsOrder_154 (by subst hz_58; subst hz_55; subst hz_52; subst hz_51; subst hz_48; subst hz_45; subst hz_42; subst hz_39; subst hz_38; subst hz_35; subst hz_19; subst hz_16; subst hz_13; subst hz_10; subst hz_7; subst hz_4; rw [m_X5_readsOrder_r, if_pos c_3, if_pos c_9, if_pos c_15, if_neg c_21, if_neg c_41, if_neg c_47, if_neg c_54, if_pos c_60]) (by subst hz_58; subst hz_55; subst hz_52; subst hz_51; subst hz_48; subst hz_45; subst hz_42; subst hz_39; subst hz_38; subst hz_35; subst hz_19; subst hz_16; subst hz_13; subst hz_10; subst hz_7; subst hz_4; rw [m_X5_readsOrder_z, if_pos c_3, if_pos c_9, if_pos c_15, if_neg c_21, if_neg c_41, if_neg c_47, if_neg c_54, if_pos c_60, m_X5_readsOrder_td, if_pos c_3, if_pos c_9, if_pos c_15, if_neg c_21, if_neg c_41, if_neg c_47, if_neg c_54, if_pos c_60])
                · refine lv_aload_n hx hb dX5_readsOrder_140 rfl (lv_at hl 0 rfl) ?_
                  refine lv_iconst (v := nI 2) hx hb dX5_readsOrder_141 (by decide +kernel) ?_
                  refine lv_iconst (v := nI 2) hx hb dX5_readsOrder_142 (by decide +kernel) ?_
                  obtain ⟨z_61, hz_61⟩ : ∃ zq, m_X5_readsNumber_z z_55 tx (nI 2) = zq := ⟨_, rfl⟩
                  have hP_z_61 : PT z_61 := by rw [← hz_61]; exact PT_readsNumber hP_z_55
                  have hq_62 := hP_z_61.1.2
                  have hq_63 := hP_z_61.2.2
                  obtain ⟨z_64, hz_64⟩ : ∃ zq, m_X5_readsNumber_td z_55 tx z_51 2 (nI 2) = zq := ⟨_, rfl⟩
                  obtain ⟨z_65, hz_65⟩ : ∃ zq, m_X5_readsNumber_r z_55 tx (nI 2) = zq := ⟨_, rfl⟩
                  have hM_66 := (c_X5_readsNumber l D k a z_55 f kp hi sl sv tx z_51 2 (nI 2) hP_z_55 (by first | decide | omega))
                  rw [hz_61, hz_64, hz_65] at hM_66
                  refine kVi (As := [.int (nI 2), .int (nI 2)]) (rest := []) X hW hM_66 yw_X5_readsNumber lk_X5_177 ⟨Nat.le_of_ble_eq_true rfl, Nat.le_of_ble_eq_true rfl⟩ (wr := []) (List.Perm.refl _) (w' := refW k a z_61 f kp hi sl sv tx z_64) (List.Perm.refl _) (k_rcv X hW (ci := 5) (q0 := 0) rfl rfl) rfl hl.1 rfl (Nat.le_of_ble_eq_true rfl) ⟨Nat.zero_le _, Nat.zero_le _⟩ dX5_readsOrder_143 (fun H locs hW => ?_)
                  refine lv_if_eq (tgt := 153) hx hb dX5_readsOrder_146 (by decide) (fun c_67 => ?_) (fun c_67 => ?_)
                  · refine lv_iconst (v := nI 0) hx hb dX5_readsOrder_153 (by decide +kernel) ?_
                    exact hQ _ _ _ _ _ _ hW dX5_readsOrder_154 (by subst hz_65; subst hz_64; subst hz_61; subst hz_58; subst hz_55; subst hz_52; subst hz_51; subst hz_48; subst hz_45; subst hz_42; subst hz_39; subst hz_38; subst hz_35; subst hz_19; subst hz_16; subst hz_13; subst hz_10; subst hz_7; subst hz_4; rw [m_X5_readsOrder_r, if_pos c_3, if_pos c_9, if_pos c_15, if_neg c_21, if_neg c_41, if_neg c_47, if_neg c_54, if_neg c_60, if_pos c_67]) (by subst hz_65; subst hz_64; subst hz_61; subst hz_58; subst hz_55; subst hz_52; subst hz_51; subst hz_48; subst hz_45; subst hz_42; subst hz_39; subst hz_38; subst hz_35; subst hz_19; subst hz_16; subst hz_13; subst hz_10; subst hz_7; subst hz_4; rw [m_X5_readsOrder_z, if_pos c_3, if_pos c_9, if_pos c_15, if_neg c_21, if_neg c_41, if_neg c_47, if_neg c_54, if_neg c_60, if_pos c_67, m_X5_readsOrder_td, if_pos c_3, if_pos c_9, if_pos c_15, if_neg c_21, if_neg c_41, if_neg c_47, if_neg c_54, if_neg c_60, if_pos c_67])
                  · refine lv_iconst (v := nI 1) hx hb dX5_readsOrder_149 (by decide +kernel) ?_
                    refine lv_goto (tgt := 154) hx hb dX5_readsOrder_150 (by decide) ?_
                    exact hQ _ _ _ _ _ _ hW dX5_readsOrder_154 (by subst hz_65; subst hz_64; subst hz_61; subst hz_58; subst hz_55; subst hz_52; subst hz_51; subst hz_48; subst hz_45; subst hz_42; subst hz_39; subst hz_38; subst hz_35; subst hz_19; subst hz_16; subst hz_13; subst hz_10; subst hz_7; subst hz_4; rw [m_X5_readsOrder_r, if_pos c_3, if_pos c_9, if_pos c_15, if_neg c_21, if_neg c_41, if_neg c_47, if_neg c_54, if_neg c_60, if_neg c_67]) (by subst hz_65; subst hz_64; subst hz_61; subst hz_58; subst hz_55; subst hz_52; subst hz_51; subst hz_48; subst hz_45; subst hz_42; subst hz_39; subst hz_38; subst hz_35; subst hz_19; subst hz_16; subst hz_13; subst hz_10; subst hz_7; subst hz_4; rw [m_X5_readsOrder_z, if_pos c_3, if_pos c_9, if_pos c_15, if_neg c_21, if_neg c_41, if_neg c_47, if_neg c_54, if_neg c_60, if_neg c_67, m_X5_readsOrder_td, if_pos c_3, if_pos c_9, if_pos c_15, if_neg c_21, if_neg c_41, if_neg c_47, if_neg c_54, if_neg c_60, if_neg c_67])
      · refine lv_aload_n hx hb dX5_readsOrder_88 rfl (lv_at hl 0 rfl) ?_
        refine lv_iconst (v := nI 0) hx hb dX5_readsOrder_89 (by decide +kernel) ?_
        refine lv_iconst (v := nI 2) hx hb dX5_readsOrder_90 (by decide +kernel) ?_
        obtain ⟨z_68, hz_68⟩ : ∃ zq, m_X5_readsNumber_z z_10 tx (nI 2) = zq := ⟨_, rfl⟩
        have hP_z_68 : PT z_68 := by rw [← hz_68]; exact PT_readsNumber hP_z_10
        have hq_69 := hP_z_68.1.2
        have hq_70 := hP_z_68.2.2
        obtain ⟨z_71, hz_71⟩ : ∃ zq, m_X5_readsNumber_td z_10 tx td 0 (nI 2) = zq := ⟨_, rfl⟩
        obtain ⟨z_72, hz_72⟩ : ∃ zq, m_X5_readsNumber_r z_10 tx (nI 2) = zq := ⟨_, rfl⟩
        have hM_73 := (c_X5_readsNumber l D k a z_10 f kp hi sl sv tx td 0 (nI 2) hP_z_10 (by first | decide | omega))
        rw [hz_68, hz_71, hz_72] at hM_73
        refine kVi (As := [.int (nI 0), .int (nI 2)]) (rest := []) X hW hM_73 yw_X5_readsNumber lk_X5_177 ⟨Nat.le_of_ble_eq_true rfl, Nat.le_of_ble_eq_true rfl⟩ (wr := []) (List.Perm.refl _) (w' := refW k a z_68 f kp hi sl sv tx z_71) (List.Perm.refl _) (k_rcv X hW (ci := 5) (q0 := 0) rfl rfl) rfl hl.1 rfl (Nat.le_of_ble_eq_true rfl) ⟨Nat.zero_le _, Nat.zero_le _⟩ dX5_readsOrder_91 (fun H locs hW => ?_)
        exact hQ _ _ _ _ _ _ hW dX5_readsOrder_94 (by subst hz_72; subst hz_71; subst hz_68; subst hz_13; subst hz_10; subst hz_7; subst hz_4; rw [m_X5_readsOrder_r, if_pos c_3, if_pos c_9, if_neg c_15]) (by subst hz_72; subst hz_71; subst hz_68; subst hz_13; subst hz_10; subst hz_7; subst hz_4; rw [m_X5_readsOrder_z, if_pos c_3, if_pos c_9, if_neg c_15, m_X5_readsOrder_td, if_pos c_3, if_pos c_9, if_neg c_15])
    · refine lv_aload_n hx hb dX5_readsOrder_37 rfl (lv_at hl 0 rfl) ?_
      refine lv_iconst (v := nI 0) hx hb dX5_readsOrder_38 (by decide +kernel) ?_
      refine lv_iconst (v := nI 2) hx hb dX5_readsOrder_39 (by decide +kernel) ?_
      obtain ⟨z_74, hz_74⟩ : ∃ zq, m_X5_readsNumber_z z_4 tx (nI 2) = zq := ⟨_, rfl⟩
      have hP_z_74 : PT z_74 := by rw [← hz_74]; exact PT_readsNumber hP_z_4
      have hq_75 := hP_z_74.1.2
      have hq_76 := hP_z_74.2.2
      obtain ⟨z_77, hz_77⟩ : ∃ zq, m_X5_readsNumber_td z_4 tx td 0 (nI 2) = zq := ⟨_, rfl⟩
      obtain ⟨z_78, hz_78⟩ : ∃ zq, m_X5_readsNumber_r z_4 tx (nI 2) = zq := ⟨_, rfl⟩
      have hM_79 := (c_X5_readsNumber l D k a z_4 f kp hi sl sv tx td 0 (nI 2) hP_z_4 (by first | decide | omega))
      rw [hz_74, hz_77, hz_78] at hM_79
      refine kVi (As := [.int (nI 0), .int (nI 2)]) (rest := []) X hW hM_79 yw_X5_readsNumber lk_X5_177 ⟨Nat.le_of_ble_eq_true rfl, Nat.le_of_ble_eq_true rfl⟩ (wr := []) (List.Perm.refl _) (w' := refW k a z_74 f kp hi sl sv tx z_77) (List.Perm.refl _) (k_rcv X hW (ci := 5) (q0 := 0) rfl rfl) rfl hl.1 rfl (Nat.le_of_ble_eq_true rfl) ⟨Nat.zero_le _, Nat.zero_le _⟩ dX5_readsOrder_40 (fun H locs hW => ?_)
      refine lv_istore_n (lv' := [(1, .int z_78), (0, .ref (a 0))]) hx hb dX5_readsOrder_43 rfl hl (by decide) rfl (fun ls hl => ?_)
      refine lv_aload_n hx hb dX5_readsOrder_44 rfl (lv_at hl 1 rfl) ?_
      refine k_get X hW inG5 rfl 10 (by decide) fl_X5_28 rfl 0 rfl (v := .ref (a 7)) rfl dX5_readsOrder_45 ?_
      refine lv_iconst (v := nI 1) hx hb dX5_readsOrder_48 (by decide +kernel) ?_
      refine lv_iconst (v := nI 1) hx hb dX5_readsOrder_49 (by decide +kernel) ?_
      refine k_iast X hW 7 rfl (j := 1) rfl (by decide) (by decide) dX5_readsOrder_50 (w' := refW k a z_74 f kp hi sl sv tx (upd z_77 1 (nI 1))) rfl (fun H locs hW => ?_)
      refine lv_iload_n hx hb dX5_readsOrder_51 rfl (lv_at hl 0 rfl) ?_
      refine lv_if_eq (tgt := 77) hx hb dX5_readsOrder_52 (by decide) (fun c_80 => ?_) (fun c_80 => ?_)
      · refine lv_iconst (v := nI 0) hx hb dX5_readsOrder_77 (by decide +kernel) ?_
        exact hQ _ _ _ _ _ _ hW dX5_readsOrder_78 (by subst hz_78; subst hz_77; subst hz_74; subst hz_7; subst hz_4; rw [m_X5_readsOrder_r, if_pos c_3, if_neg c_9, if_pos c_80]) (by subst hz_78; subst hz_77; subst hz_74; subst hz_7; subst hz_4; rw [m_X5_readsOrder_z, if_pos c_3, if_neg c_9, if_pos c_80, m_X5_readsOrder_td, if_pos c_3, if_neg c_9, if_pos c_80])
      · refine lv_aload_n hx hb dX5_readsOrder_55 rfl (lv_at hl 1 rfl) ?_
        refine lv_bipush (v := nI 42) hx hb dX5_readsOrder_56 (by decide +kernel) ?_
        obtain ⟨z_81, hz_81⟩ : ∃ zq, m_X5_takesOne_z z_74 tx (nI 42) = zq := ⟨_, rfl⟩
        have hP_z_81 : PT z_81 := by rw [← hz_81]; exact PT_takesOne hP_z_74
        have hq_82 := hP_z_81.1.2
        have hq_83 := hP_z_81.2.2
        obtain ⟨z_84, hz_84⟩ : ∃ zq, m_X5_takesOne_r z_74 tx (nI 42) = zq := ⟨_, rfl⟩
        have hM_85 := (c_X5_takesOne l D k a z_74 f kp hi sl sv tx (upd z_77 1 (nI 1)) (nI 42) hP_z_74)
        rw [hz_81, hz_84] at hM_85
        refine kVi (As := [.int (nI 42)]) (rest := []) X hW hM_85 yw_X5_takesOne lk_X5_174 ⟨Nat.le_of_ble_eq_true rfl, Nat.le_of_ble_eq_true rfl⟩ (wr := []) (List.Perm.refl _) (w' := refW k a z_81 f kp hi sl sv tx (upd z_77 1 (nI 1))) (List.Perm.refl _) (k_rcv X hW (ci := 5) (q0 := 0) rfl rfl) rfl hl.1 rfl (Nat.le_of_ble_eq_true rfl) ⟨Nat.zero_le _, Nat.zero_le _⟩ dX5_readsOrder_58 (fun H locs hW => ?_)
        refine lv_if_eq (tgt := 73) hx hb dX5_readsOrder_61 (by decide) (fun c_86 => ?_) (fun c_86 => ?_)
        · refine lv_iconst (v := nI 1) hx hb dX5_readsOrder_73 (by decide +kernel) ?_
          refine lv_goto (tgt := 78) hx hb dX5_readsOrder_74 (by decide) ?_
          exact hQ _ _ _ _ _ _ hW dX5_readsOrder_78 (by subst hz_84; subst hz_81; subst hz_78; subst hz_77; subst hz_74; subst hz_7; subst hz_4; rw [m_X5_readsOrder_r, if_pos c_3, if_neg c_9, if_neg c_80, if_pos c_86]) (by subst hz_84; subst hz_81; subst hz_78; subst hz_77; subst hz_74; subst hz_7; subst hz_4; rw [m_X5_readsOrder_z, if_pos c_3, if_neg c_9, if_neg c_80, if_pos c_86, m_X5_readsOrder_td, if_pos c_3, if_neg c_9, if_neg c_80, if_pos c_86])
        · refine lv_aload_n hx hb dX5_readsOrder_64 rfl (lv_at hl 1 rfl) ?_
          refine lv_iconst (v := nI 1) hx hb dX5_readsOrder_65 (by decide +kernel) ?_
          refine lv_iconst (v := nI 2) hx hb dX5_readsOrder_66 (by decide +kernel) ?_
          obtain ⟨z_87, hz_87⟩ : ∃ zq, m_X5_readsNumber_z z_81 tx (nI 2) = zq := ⟨_, rfl⟩
          have hP_z_87 : PT z_87 := by rw [← hz_87]; exact PT_readsNumber hP_z_81
          have hq_88 := hP_z_87.1.2
          have hq_89 := hP_z_87.2.2
          obtain ⟨z_90, hz_90⟩ : ∃ zq, m_X5_readsNumber_td z_81 tx (upd z_77 1 (nI 1)) 1 (nI 2) = zq := ⟨_, rfl⟩
          obtain ⟨z_91, hz_91⟩ : ∃ zq, m_X5_readsNumber_r z_81 tx (nI 2) = zq := ⟨_, rfl⟩
          have hM_92 := (c_X5_readsNumber l D k a z_81 f kp hi sl sv tx (upd z_77 1 (nI 1)) 1 (nI 2) hP_z_81 (by first | decide | omega))
          rw [hz_87, hz_90, hz_91] at hM_92
          refine kVi (As := [.int (nI 1), .int (nI 2)]) (rest := []) X hW hM_92 yw_X5_readsNumber lk_X5_177 ⟨Nat.le_of_ble_eq_true rfl, Nat.le_of_ble_eq_true rfl⟩ (wr := []) (List.Perm.refl _) (w' := refW k a z_87 f kp hi sl sv tx z_90) (List.Perm.refl _) (k_rcv X hW (ci := 5) (q0 := 0) rfl rfl) rfl hl.1 rfl (Nat.le_of_ble_eq_true rfl) ⟨Nat.zero_le _, Nat.zero_le _⟩ dX5_readsOrder_67 (fun H locs hW => ?_)
          refine lv_if_eq (tgt := 77) hx hb dX5_readsOrder_70 (by decide) (fun c_93 => ?_) (fun c_93 => ?_)
          · refine lv_iconst (v := nI 0) hx hb dX5_readsOrder_77 (by decide +kernel) ?_
            exact hQ _ _ _ _ _ _ hW dX5_readsOrder_78 (by subst hz_91; subst hz_90; subst hz_87; subst hz_84; subst hz_81; subst hz_78; subst hz_77; subst hz_74; subst hz_7; subst hz_4; rw [m_X5_readsOrder_r, if_pos c_3, if_neg c_9, if_neg c_80, if_neg c_86, if_pos c_93]) (by subst hz_91; subst hz_90; subst hz_87; subst hz_84; subst hz_81; subst hz_78; subst hz_77; subst hz_74; subst hz_7; subst hz_4; rw [m_X5_readsOrder_z, if_pos c_3, if_neg c_9, if_neg c_80, if_neg c_86, if_pos c_93, m_X5_readsOrder_td, if_pos c_3, if_neg c_9, if_neg c_80, if_neg c_86, if_pos c_93])
          · refine lv_iconst (v := nI 1) hx hb dX5_readsOrder_73 (by decide +kernel) ?_
            refine lv_goto (tgt := 78) hx hb dX5_readsOrder_74 (by decide) ?_
            exact hQ _ _ _ _ _ _ hW dX5_readsOrder_78 (by subst hz_91; subst hz_90; subst hz_87; subst hz_84; subst hz_81; subst hz_78; subst hz_77; subst hz_74; subst hz_7; subst hz_4; rw [m_X5_readsOrder_r, if_pos c_3, if_neg c_9, if_neg c_80, if_neg c_86, if_neg c_93]) (by subst hz_91; subst hz_90; subst hz_87; subst hz_84; subst hz_81; subst hz_78; subst hz_77; subst hz_74; subst hz_7; subst hz_4; rw [m_X5_readsOrder_z, if_pos c_3, if_neg c_9, if_neg c_80, if_neg c_86, if_neg c_93, m_X5_readsOrder_td, if_pos c_3, if_neg c_9, if_neg c_80, if_neg c_86, if_neg c_93])
  · have c_3 : ¬ (tn (z 7) ≤ tn (z 8)) := fun h => c_3 ((nI_leI (a := tn (z 7)) (b := tn (z 8)) (by omega) (by omega)).mpr h)
    refine lv_aload_n hx hb dX5_readsOrder_12 rfl (lv_at hl 0 rfl) ?_
    refine k_get X hW inG5 rfl 6 (by decide) fl_X5_25 rfl 0 rfl (v := .ref (a 6)) rfl dX5_readsOrder_13 ?_
    refine lv_aload_n hx hb dX5_readsOrder_16 rfl (lv_at hl 0 rfl) ?_
    refine k_get X hW inG5 rfl 8 (by decide) fl_X5_165 rfl 0 rfl (v := .int (z 8)) rfl dX5_readsOrder_17 ?_
    refine k_top (y := nI (tn (z 8))) (hp.2.1) ?_
    refine k_iald X hW 6 rfl (j := (tn (z 8))) (v := tx (tn (z 8))) rfl (by omega) (by decide) rfl dX5_readsOrder_20 ?_
    refine lv_goto (tgt := 25) hx hb dX5_readsOrder_21 (by decide) ?_
    refine k_put X hW inG5 rfl tyX5_ok nmX5 9 (by decide) fl_X5_171 rfl rfl 0 rfl rfl rfl (Nat.le_of_ble_eq_true rfl) dX5_readsOrder_25 (w' := refW k a (upd z 9 (tx (tn (z 8)))) f kp hi sl sv tx td) rfl (fun H locs hW => ?_)
    refine lv_aload_n hx hb dX5_readsOrder_28 rfl (lv_at hl 0 rfl) ?_
    refine lv_bipush (v := nI 102) hx hb dX5_readsOrder_29 (by decide +kernel) ?_
    obtain ⟨z_94, hz_94⟩ : ∃ zq, m_X5_takesOne_z (upd z 9 (tx (tn (z 8)))) tx (nI 102) = zq := ⟨_, rfl⟩
    have hP_z_94 : PT z_94 := by rw [← hz_94]; exact PT_takesOne (PT_u hp (by decide) (by decide))
    have hq_95 := hP_z_94.1.2
    have hq_96 := hP_z_94.2.2
    obtain ⟨z_97, hz_97⟩ : ∃ zq, m_X5_takesOne_r (upd z 9 (tx (tn (z 8)))) tx (nI 102) = zq := ⟨_, rfl⟩
    have hM_98 := (c_X5_takesOne l D k a (upd z 9 (tx (tn (z 8)))) f kp hi sl sv tx td (nI 102) (PT_u hp (by decide) (by decide)))
    rw [hz_94, hz_97] at hM_98
    refine kVi (As := [.int (nI 102)]) (rest := []) X hW hM_98 yw_X5_takesOne lk_X5_174 ⟨Nat.le_of_ble_eq_true rfl, Nat.le_of_ble_eq_true rfl⟩ (wr := []) (List.Perm.refl _) (w' := refW k a z_94 f kp hi sl sv tx td) (List.Perm.refl _) (k_rcv X hW (ci := 5) (q0 := 0) rfl rfl) rfl hl.1 rfl (Nat.le_of_ble_eq_true rfl) ⟨Nat.zero_le _, Nat.zero_le _⟩ dX5_readsOrder_31 (fun H locs hW => ?_)
    refine lv_if_eq (tgt := 79) hx hb dX5_readsOrder_34 (by decide) (fun c_99 => ?_) (fun c_99 => ?_)
    · refine lv_aload_n hx hb dX5_readsOrder_79 rfl (lv_at hl 0 rfl) ?_
      refine lv_bipush (v := nI 116) hx hb dX5_readsOrder_80 (by decide +kernel) ?_
      obtain ⟨z_100, hz_100⟩ : ∃ zq, m_X5_takesOne_z z_94 tx (nI 116) = zq := ⟨_, rfl⟩
      have hP_z_100 : PT z_100 := by rw [← hz_100]; exact PT_takesOne hP_z_94
      have hq_101 := hP_z_100.1.2
      have hq_102 := hP_z_100.2.2
      obtain ⟨z_103, hz_103⟩ : ∃ zq, m_X5_takesOne_r z_94 tx (nI 116) = zq := ⟨_, rfl⟩
      have hM_104 := (c_X5_takesOne l D k a z_94 f kp hi sl sv tx td (nI 116) hP_z_94)
      rw [hz_100, hz_103] at hM_104
      refine kVi (As := [.int (nI 116)]) (rest := []) X hW hM_104 yw_X5_takesOne lk_X5_174 ⟨Nat.le_of_ble_eq_true rfl, Nat.le_of_ble_eq_true rfl⟩ (wr := []) (List.Perm.refl _) (w' := refW k a z_100 f kp hi sl sv tx td) (List.Perm.refl _) (k_rcv X hW (ci := 5) (q0 := 0) rfl rfl) rfl hl.1 rfl (Nat.le_of_ble_eq_true rfl) ⟨Nat.zero_le _, Nat.zero_le _⟩ dX5_readsOrder_82 (fun H locs hW => ?_)
      refine lv_if_eq (tgt := 95) hx hb dX5_readsOrder_85 (by decide) (fun c_105 => ?_) (fun c_105 => ?_)
      · refine lv_aload_n hx hb dX5_readsOrder_95 rfl (lv_at hl 0 rfl) ?_
        refine lv_bipush (v := nI 113) hx hb dX5_readsOrder_96 (by decide +kernel) ?_
        obtain ⟨z_106, hz_106⟩ : ∃ zq, m_X5_takesOne_z z_100 tx (nI 113) = zq := ⟨_, rfl⟩
        have hP_z_106 : PT z_106 := by rw [← hz_106]; exact PT_takesOne hP_z_100
        have hq_107 := hP_z_106.1.2
        have hq_108 := hP_z_106.2.2
        obtain ⟨z_109, hz_109⟩ : ∃ zq, m_X5_takesOne_r z_100 tx (nI 113) = zq := ⟨_, rfl⟩
        have hM_110 := (c_X5_takesOne l D k a z_100 f kp hi sl sv tx td (nI 113) hP_z_100)
        rw [hz_106, hz_109] at hM_110
        refine kVi (As := [.int (nI 113)]) (rest := []) X hW hM_110 yw_X5_takesOne lk_X5_174 ⟨Nat.le_of_ble_eq_true rfl, Nat.le_of_ble_eq_true rfl⟩ (wr := []) (List.Perm.refl _) (w' := refW k a z_106 f kp hi sl sv tx td) (List.Perm.refl _) (k_rcv X hW (ci := 5) (q0 := 0) rfl rfl) rfl hl.1 rfl (Nat.le_of_ble_eq_true rfl) ⟨Nat.zero_le _, Nat.zero_le _⟩ dX5_readsOrder_98 (fun H locs hW => ?_)
        refine lv_if_eq (tgt := 155) hx hb dX5_readsOrder_101 (by decide) (fun c_111 => ?_) (fun c_111 => ?_)
        · refine lv_aload_n hx hb dX5_readsOrder_155 rfl (lv_at hl 0 rfl) ?_
          refine lv_bipush (v := nI 109) hx hb dX5_readsOrder_156 (by decide +kernel) ?_
          obtain ⟨z_112, hz_112⟩ : ∃ zq, m_X5_takesOne_z z_106 tx (nI 109) = zq := ⟨_, rfl⟩
          have hP_z_112 : PT z_112 := by rw [← hz_112]; exact PT_takesOne hP_z_106
          have hq_113 := hP_z_112.1.2
          have hq_114 := hP_z_112.2.2
          obtain ⟨z_115, hz_115⟩ : ∃ zq, m_X5_takesOne_r z_106 tx (nI 109) = zq := ⟨_, rfl⟩
          have hM_116 := (c_X5_takesOne l D k a z_106 f kp hi sl sv tx td (nI 109) hP_z_106)
          rw [hz_112, hz_115] at hM_116
          refine kVi (As := [.int (nI 109)]) (rest := []) X hW hM_116 yw_X5_takesOne lk_X5_174 ⟨Nat.le_of_ble_eq_true rfl, Nat.le_of_ble_eq_true rfl⟩ (wr := []) (List.Perm.refl _) (w' := refW k a z_112 f kp hi sl sv tx td) (List.Perm.refl _) (k_rcv X hW (ci := 5) (q0 := 0) rfl rfl) rfl hl.1 rfl (Nat.le_of_ble_eq_true rfl) ⟨Nat.zero_le _, Nat.zero_le _⟩ dX5_readsOrder_158 (fun H locs hW => ?_)
          refine lv_if_eq (tgt := 177) hx hb dX5_readsOrder_161 (by decide) (fun c_117 => ?_) (fun c_117 => ?_)
          · refine lv_iconst (v := nI 0) hx hb dX5_readsOrder_177 (by decide +kernel) ?_
            exact hQ _ _ _ _ _ _ hW dX5_readsOrder_178 (by subst hz_115; subst hz_112; subst hz_109; subst hz_106; subst hz_103; subst hz_100; subst hz_97; subst hz_94; rw [m_X5_readsOrder_r, if_neg c_3, if_pos c_99, if_pos c_105, if_pos c_111, if_pos c_117]) (by subst hz_115; subst hz_112; subst hz_109; subst hz_106; subst hz_103; subst hz_100; subst hz_97; subst hz_94; rw [m_X5_readsOrder_z, if_neg c_3, if_pos c_99, if_pos c_105, if_pos c_111, if_pos c_117, m_X5_readsOrder_td, if_neg c_3, if_pos c_99, if_pos c_105, if_pos c_111, if_pos c_117])
          · refine lv_aload_n hx hb dX5_readsOrder_164 rfl (lv_at hl 0 rfl) ?_
            refine lv_iconst (v := nI 0) hx hb dX5_readsOrder_165 (by decide +kernel) ?_
            refine lv_iconst (v := nI 1) hx hb dX5_readsOrder_166 (by decide +kernel) ?_
            obtain ⟨z_118, hz_118⟩ : ∃ zq, m_X5_readsNumber_z z_112 tx (nI 1) = zq := ⟨_, rfl⟩
            have hP_z_118 : PT z_118 := by rw [← hz_118]; exact PT_readsNumber hP_z_112
            have hq_119 := hP_z_118.1.2
            have hq_120 := hP_z_118.2.2
            obtain ⟨z_121, hz_121⟩ : ∃ zq, m_X5_readsNumber_td z_112 tx td 0 (nI 1) = zq := ⟨_, rfl⟩
            obtain ⟨z_122, hz_122⟩ : ∃ zq, m_X5_readsNumber_r z_112 tx (nI 1) = zq := ⟨_, rfl⟩
            have hM_123 := (c_X5_readsNumber l D k a z_112 f kp hi sl sv tx td 0 (nI 1) hP_z_112 (by first | decide | omega))
            rw [hz_118, hz_121, hz_122] at hM_123
            refine kVi (As := [.int (nI 0), .int (nI 1)]) (rest := []) X hW hM_123 yw_X5_readsNumber lk_X5_177 ⟨Nat.le_of_ble_eq_true rfl, Nat.le_of_ble_eq_true rfl⟩ (wr := []) (List.Perm.refl _) (w' := refW k a z_118 f kp hi sl sv tx z_121) (List.Perm.refl _) (k_rcv X hW (ci := 5) (q0 := 0) rfl rfl) rfl hl.1 rfl (Nat.le_of_ble_eq_true rfl) ⟨Nat.zero_le _, Nat.zero_le _⟩ dX5_readsOrder_167 (fun H locs hW => ?_)
            refine lv_if_eq (tgt := 177) hx hb dX5_readsOrder_170 (by decide) (fun c_124 => ?_) (fun c_124 => ?_)
            · refine lv_iconst (v := nI 0) hx hb dX5_readsOrder_177 (by decide +kernel) ?_
              exact hQ _ _ _ _ _ _ hW dX5_readsOrder_178 (by subst hz_122; subst hz_121; subst hz_118; subst hz_115; subst hz_112; subst hz_109; subst hz_106; subst hz_103; subst hz_100; subst hz_97; subst hz_94; rw [m_X5_readsOrder_r, if_neg c_3, if_pos c_99, if_pos c_105, if_pos c_111, if_neg c_117, if_pos c_124]) (by subst hz_122; subst hz_121; subst hz_118; subst hz_115; subst hz_112; subst hz_109; subst hz_106; subst hz_103; subst hz_100; subst hz_97; subst hz_94; rw [m_X5_readsOrder_z, if_neg c_3, if_pos c_99, if_pos c_105, if_pos c_111, if_neg c_117, if_pos c_124, m_X5_readsOrder_td, if_neg c_3, if_pos c_99, if_pos c_105, if_pos c_111, if_neg c_117, if_pos c_124])
            · refine lv_iconst (v := nI 1) hx hb dX5_readsOrder_173 (by decide +kernel) ?_
              refine lv_goto (tgt := 178) hx hb dX5_readsOrder_174 (by decide) ?_
              exact hQ _ _ _ _ _ _ hW dX5_readsOrder_178 (by subst hz_122; subst hz_121; subst hz_118; subst hz_115; subst hz_112; subst hz_109; subst hz_106; subst hz_103; subst hz_100; subst hz_97; subst hz_94; rw [m_X5_readsOrder_r, if_neg c_3, if_pos c_99, if_pos c_105, if_pos c_111, if_neg c_117, if_neg c_124]) (by subst hz_122; subst hz_121; subst hz_118; subst hz_115; subst hz_112; subst hz_109; subst hz_106; subst hz_103; subst hz_100; subst hz_97; subst hz_94; rw [m_X5_readsOrder_z, if_neg c_3, if_pos c_99, if_pos c_105, if_pos c_111, if_neg c_117, if_neg c_124, m_X5_readsOrder_td, if_neg c_3, if_pos c_99, if_pos c_105, if_pos c_111, if_neg c_117, if_neg c_124])
        · refine lv_aload_n hx hb dX5_readsOrder_104 rfl (lv_at hl 0 rfl) ?_
          refine lv_iconst (v := nI 0) hx hb dX5_readsOrder_105 (by decide +kernel) ?_
          refine lv_iconst (v := nI 1) hx hb dX5_readsOrder_106 (by decide +kernel) ?_
          obtain ⟨z_125, hz_125⟩ : ∃ zq, m_X5_readsNumber_z z_106 tx (nI 1) = zq := ⟨_, rfl⟩
          have hP_z_125 : PT z_125 := by rw [← hz_125]; exact PT_readsNumber hP_z_106
          have hq_126 := hP_z_125.1.2
          have hq_127 := hP_z_125.2.2
          obtain ⟨z_128, hz_128⟩ : ∃ zq, m_X5_readsNumber_td z_106 tx td 0 (nI 1) = zq := ⟨_, rfl⟩
          obtain ⟨z_129, hz_129⟩ : ∃ zq, m_X5_readsNumber_r z_106 tx (nI 1) = zq := ⟨_, rfl⟩
          have hM_130 := (c_X5_readsNumber l D k a z_106 f kp hi sl sv tx td 0 (nI 1) hP_z_106 (by first | decide | omega))
          rw [hz_125, hz_128, hz_129] at hM_130
          refine kVi (As := [.int (nI 0), .int (nI 1)]) (rest := []) X hW hM_130 yw_X5_readsNumber lk_X5_177 ⟨Nat.le_of_ble_eq_true rfl, Nat.le_of_ble_eq_true rfl⟩ (wr := []) (List.Perm.refl _) (w' := refW k a z_125 f kp hi sl sv tx z_128) (List.Perm.refl _) (k_rcv X hW (ci := 5) (q0 := 0) rfl rfl) rfl hl.1 rfl (Nat.le_of_ble_eq_true rfl) ⟨Nat.zero_le _, Nat.zero_le _⟩ dX5_readsOrder_107 (fun H locs hW => ?_)
          refine lv_if_eq (tgt := 153) hx hb dX5_readsOrder_110 (by decide) (fun c_131 => ?_) (fun c_131 => ?_)
          · refine lv_iconst (v := nI 0) hx hb dX5_readsOrder_153 (by decide +kernel) ?_
            exact hQ _ _ _ _ _ _ hW dX5_readsOrder_154 (by subst hz_129; subst hz_128; subst hz_125; subst hz_109; subst hz_106; subst hz_103; subst hz_100; subst hz_97; subst hz_94; rw [m_X5_readsOrder_r, if_neg c_3, if_pos c_99, if_pos c_105, if_neg c_111, if_pos c_131]) (by subst hz_129; subst hz_128; subst hz_125; subst hz_109; subst hz_106; subst hz_103; subst hz_100; subst hz_97; subst hz_94; rw [m_X5_readsOrder_z, if_neg c_3, if_pos c_99, if_pos c_105, if_neg c_111, if_pos c_131, m_X5_readsOrder_td, if_neg c_3, if_pos c_99, if_pos c_105, if_neg c_111, if_pos c_131])
          · refine lv_aload_n hx hb dX5_readsOrder_113 rfl (lv_at hl 0 rfl) ?_
            refine lv_bipush (v := nI 61) hx hb dX5_readsOrder_114 (by decide +kernel) ?_
            obtain ⟨z_132, hz_132⟩ : ∃ zq, m_X5_takesOne_z z_125 tx (nI 61) = zq := ⟨_, rfl⟩
            have hP_z_132 : PT z_132 := by rw [← hz_132]; exact PT_takesOne hP_z_125
            have hq_133 := hP_z_132.1.2
            have hq_134 := hP_z_132.2.2
            obtain ⟨z_135, hz_135⟩ : ∃ zq, m_X5_takesOne_r z_125 tx (nI 61) = zq := ⟨_, rfl⟩
            have hM_136 := (c_X5_takesOne l D k a z_125 f kp hi sl sv tx z_128 (nI 61) hP_z_125)
            rw [hz_132, hz_135] at hM_136
            refine kVi (As := [.int (nI 61)]) (rest := []) X hW hM_136 yw_X5_takesOne lk_X5_174 ⟨Nat.le_of_ble_eq_true rfl, Nat.le_of_ble_eq_true rfl⟩ (wr := []) (List.Perm.refl _) (w' := refW k a z_132 f kp hi sl sv tx z_128) (List.Perm.refl _) (k_rcv X hW (ci := 5) (q0 := 0) rfl rfl) rfl hl.1 rfl (Nat.le_of_ble_eq_true rfl) ⟨Nat.zero_le _, Nat.zero_le _⟩ dX5_readsOrder_116 (fun H locs hW => ?_)
            refine lv_if_eq (tgt := 153) hx hb dX5_readsOrder_119 (by decide) (fun c_137 => ?_) (fun c_137 => ?_)
            · refine lv_iconst (v := nI 0) hx hb dX5_readsOrder_153 (by decide +kernel) ?_
              exact hQ _ _ _ _ _ _ hW dX5_readsOrder_154 (by subst hz_135; subst hz_132; subst hz_129; subst hz_128; subst hz_125; subst hz_109; subst hz_106; subst hz_103; subst hz_100; subst hz_97; subst hz_94; rw [m_X5_readsOrder_r, if_neg c_3, if_pos c_99, if_pos c_105, if_neg c_111, if_neg c_131, if_pos c_137]) (by subst hz_135; subst hz_132; subst hz_129; subst hz_128; subst hz_125; subst hz_109; subst hz_106; subst hz_103; subst hz_100; subst hz_97; subst hz_94; rw [m_X5_readsOrder_z, if_neg c_3, if_pos c_99, if_pos c_105, if_neg c_111, if_neg c_131, if_pos c_137, m_X5_readsOrder_td, if_neg c_3, if_pos c_99, if_pos c_105, if_neg c_111, if_neg c_131, if_pos c_137])
            · refine lv_aload_n hx hb dX5_readsOrder_122 rfl (lv_at hl 0 rfl) ?_
              refine lv_iconst (v := nI 1) hx hb dX5_readsOrder_123 (by decide +kernel) ?_
              refine lv_iconst (v := nI 2) hx hb dX5_readsOrder_124 (by decide +kernel) ?_
              obtain ⟨z_138, hz_138⟩ : ∃ zq, m_X5_readsNumber_z z_132 tx (nI 2) = zq := ⟨_, rfl⟩
              have hP_z_138 : PT z_138 := by rw [← hz_138]; exact PT_readsNumber hP_z_132
              have hq_139 := hP_z_138.1.2
              have hq_140 := hP_z_138.2.2
              obtain ⟨z_141, hz_141⟩ : ∃ zq, m_X5_readsNumber_td z_132 tx z_128 1 (nI 2) = zq := ⟨_, rfl⟩
              obtain ⟨z_142, hz_142⟩ : ∃ zq, m_X5_readsNumber_r z_132 tx (nI 2) = zq := ⟨_, rfl⟩
              have hM_143 := (c_X5_readsNumber l D k a z_132 f kp hi sl sv tx z_128 1 (nI 2) hP_z_132 (by first | decide | omega))
              rw [hz_138, hz_141, hz_142] at hM_143
              refine kVi (As := [.int (nI 1), .int (nI 2)]) (rest := []) X hW hM_143 yw_X5_readsNumber lk_X5_177 ⟨Nat.le_of_ble_eq_true rfl, Nat.le_of_ble_eq_true rfl⟩ (wr := []) (List.Perm.refl _) (w' := refW k a z_138 f kp hi sl sv tx z_141) (List.Perm.refl _) (k_rcv X hW (ci := 5) (q0 := 0) rfl rfl) rfl hl.1 rfl (Nat.le_of_ble_eq_true rfl) ⟨Nat.zero_le _, Nat.zero_le _⟩ dX5_readsOrder_125 (fun H locs hW => ?_)
              refine lv_if_eq (tgt := 153) hx hb dX5_readsOrder_128 (by decide) (fun c_144 => ?_) (fun c_144 => ?_)
              · refine lv_iconst (v := nI 0) hx hb dX5_readsOrder_153 (by decide +kernel) ?_
                exact hQ _ _ _ _ _ _ hW dX5_readsOrder_154 (by subst hz_142; subst hz_141; subst hz_138; subst hz_135; subst hz_132; subst hz_129; subst hz_128; subst hz_125; subst hz_109; subst hz_106; subst hz_103; subst hz_100; subst hz_97; subst hz_94; rw [m_X5_readsOrder_r, if_neg c_3, if_pos c_99, if_pos c_105, if_neg c_111, if_neg c_131, if_neg c_137, if_pos c_144]) (by subst hz_142; subst hz_141; subst hz_138; subst hz_135; subst hz_132; subst hz_129; subst hz_128; subst hz_125; subst hz_109; subst hz_106; subst hz_103; subst hz_100; subst hz_97; subst hz_94; rw [m_X5_readsOrder_z, if_neg c_3, if_pos c_99, if_pos c_105, if_neg c_111, if_neg c_131, if_neg c_137, if_pos c_144, m_X5_readsOrder_td, if_neg c_3, if_pos c_99, if_pos c_105, if_neg c_111, if_neg c_131, if_neg c_137, if_pos c_144])
              · refine lv_aload_n hx hb dX5_readsOrder_131 rfl (lv_at hl 0 rfl) ?_
                refine lv_bipush (v := nI 44) hx hb dX5_readsOrder_132 (by decide +kernel) ?_
                obtain ⟨z_145, hz_145⟩ : ∃ zq, m_X5_takesOne_z z_138 tx (nI 44) = zq := ⟨_, rfl⟩
                have hP_z_145 : PT z_145 := by rw [← hz_145]; exact PT_takesOne hP_z_138
                have hq_146 := hP_z_145.1.2
                have hq_147 := hP_z_145.2.2
                obtain ⟨z_148, hz_148⟩ : ∃ zq, m_X5_takesOne_r z_138 tx (nI 44) = zq := ⟨_, rfl⟩
                have hM_149 := (c_X5_takesOne l D k a z_138 f kp hi sl sv tx z_141 (nI 44) hP_z_138)
                rw [hz_145, hz_148] at hM_149
                refine kVi (As := [.int (nI 44)]) (rest := []) X hW hM_149 yw_X5_takesOne lk_X5_174 ⟨Nat.le_of_ble_eq_true rfl, Nat.le_of_ble_eq_true rfl⟩ (wr := []) (List.Perm.refl _) (w' := refW k a z_145 f kp hi sl sv tx z_141) (List.Perm.refl _) (k_rcv X hW (ci := 5) (q0 := 0) rfl rfl) rfl hl.1 rfl (Nat.le_of_ble_eq_true rfl) ⟨Nat.zero_le _, Nat.zero_le _⟩ dX5_readsOrder_134 (fun H locs hW => ?_)
                refine lv_if_eq (tgt := 153) hx hb dX5_readsOrder_137 (by decide) (fun c_150 => ?_) (fun c_150 => ?_)
                · refine lv_iconst (v := nI 0) hx hb dX5_readsOrder_153 (by decide +kernel) ?_
                  exact hQ _ _ _ _ _ _ hW dX5_readsOrder_154 (by subst hz_148; subst hz_145; subst hz_142; subst hz_141; subst hz_138; subst hz_135; subst hz_132; subst hz_129; subst hz_128; subst hz_125; subst hz_109; subst hz_106; subst hz_103; subst hz_100; subst hz_97; subst hz_94; rw [m_X5_readsOrder_r, if_neg c_3, if_pos c_99, if_pos c_105, if_neg c_111, if_neg c_131, if_neg c_137, if_neg c_144, if_pos c_150]) (by subst hz_148; subst hz_145; subst hz_142; subst hz_141; subst hz_138; subst hz_135; subst hz_132; subst hz_129; subst hz_128; subst hz_125; subst hz_109; subst hz_106; subst hz_103; subst hz_100; subst hz_97; subst hz_94; rw [m_X5_readsOrder_z, if_neg c_3, if_pos c_99, if_pos c_105, if_neg c_111, if_neg c_131, if_neg c_137, if_neg c_144, if_pos c_150, m_X5_readsOrder_td, if_neg c_3, if_pos c_99, if_pos c_105, if_neg c_111, if_neg c_131, if_neg c_137, if_neg c_144, if_pos c_150])
                · refine lv_aload_n hx hb dX5_readsOrder_140 rfl (lv_at hl 0 rfl) ?_
                  refine lv_iconst (v := nI 2) hx hb dX5_readsOrder_141 (by decide +kernel) ?_
                  refine lv_iconst (v := nI 2) hx hb dX5_readsOrder_142 (by decide +kernel) ?_
                  obtain ⟨z_151, hz_151⟩ : ∃ zq, m_X5_readsNumber_z z_145 tx (nI 2) = zq := ⟨_, rfl⟩
                  have hP_z_151 : PT z_151 := by rw [← hz_151]; exact PT_readsNumber hP_z_145
                  have hq_152 := hP_z_151.1.2
                  have hq_153 := hP_z_151.2.2
                  obtain ⟨z_154, hz_154⟩ : ∃ zq, m_X5_readsNumber_td z_145 tx z_141 2 (nI 2) = zq := ⟨_, rfl⟩
                  obtain ⟨z_155, hz_155⟩ : ∃ zq, m_X5_readsNumber_r z_145 tx (nI 2) = zq := ⟨_, rfl⟩
                  have hM_156 := (c_X5_readsNumber l D k a z_145 f kp hi sl sv tx z_141 2 (nI 2) hP_z_145 (by first | decide | omega))
                  rw [hz_151, hz_154, hz_155] at hM_156
                  refine kVi (As := [.int (nI 2), .int (nI 2)]) (rest := []) X hW hM_156 yw_X5_readsNumber lk_X5_177 ⟨Nat.le_of_ble_eq_true rfl, Nat.le_of_ble_eq_true rfl⟩ (wr := []) (List.Perm.refl _) (w' := refW k a z_151 f kp hi sl sv tx z_154) (List.Perm.refl _) (k_rcv X hW (ci := 5) (q0 := 0) rfl rfl) rfl hl.1 rfl (Nat.le_of_ble_eq_true rfl) ⟨Nat.zero_le _, Nat.zero_le _⟩ dX5_readsOrder_143 (fun H locs hW => ?_)
                  refine lv_if_eq (tgt := 153) hx hb dX5_readsOrder_146 (by decide) (fun c_157 => ?_) (fun c_157 => ?_)
                  · refine lv_iconst (v := nI 0) hx hb dX5_readsOrder_153 (by decide +kernel) ?_
                    exact hQ _ _ _ _ _ _ hW dX5_readsOrder_154 (by subst hz_155; subst hz_154; subst hz_151; subst hz_148; subst hz_145; subst hz_142; subst hz_141; subst hz_138; subst hz_135; subst hz_132; subst hz_129; subst hz_128; subst hz_125; subst hz_109; subst hz_106; subst hz_103; subst hz_100; subst hz_97; subst hz_94; rw [m_X5_readsOrder_r, if_neg c_3, if_pos c_99, if_pos c_105, if_neg c_111, if_neg c_131, if_neg c_137, if_neg c_144, if_neg c_150, if_pos c_157]) (by subst hz_155; subst hz_154; subst hz_151; subst hz_148; subst hz_145; subst hz_142; subst hz_141; subst hz_138; subst hz_135; subst hz_132; subst hz_129; subst hz_128; subst hz_125; subst hz_109; subst hz_106; subst hz_103; subst hz_100; subst hz_97; subst hz_94; rw [m_X5_readsOrder_z, if_neg c_3, if_pos c_99, if_pos c_105, if_neg c_111, if_neg c_131, if_neg c_137, if_neg c_144, if_neg c_150, if_pos c_157, m_X5_readsOrder_td, if_neg c_3, if_pos c_99, if_pos c_105, if_neg c_111, if_neg c_131, if_neg c_137, if_neg c_144, if_neg c_150, if_pos c_157])
                  · refine lv_iconst (v := nI 1) hx hb dX5_readsOrder_149 (by decide +kernel) ?_
                    refine lv_goto (tgt := 154) hx hb dX5_readsOrder_150 (by decide) ?_
                    exact hQ _ _ _ _ _ _ hW dX5_readsOrder_154 (by subst hz_155; subst hz_154; subst hz_151; subst hz_148; subst hz_145; subst hz_142; subst hz_141; subst hz_138; subst hz_135; subst hz_132; subst hz_129; subst hz_128; subst hz_125; subst hz_109; subst hz_106; subst hz_103; subst hz_100; subst hz_97; subst hz_94; rw [m_X5_readsOrder_r, if_neg c_3, if_pos c_99, if_pos c_105, if_neg c_111, if_neg c_131, if_neg c_137, if_neg c_144, if_neg c_150, if_neg c_157]) (by subst hz_155; subst hz_154; subst hz_151; subst hz_148; subst hz_145; subst hz_142; subst hz_141; subst hz_138; subst hz_135; subst hz_132; subst hz_129; subst hz_128; subst hz_125; subst hz_109; subst hz_106; subst hz_103; subst hz_100; subst hz_97; subst hz_94; rw [m_X5_readsOrder_z, if_neg c_3, if_pos c_99, if_pos c_105, if_neg c_111, if_neg c_131, if_neg c_137, if_neg c_144, if_neg c_150, if_neg c_157, m_X5_readsOrder_td, if_neg c_3, if_pos c_99, if_pos c_105, if_neg c_111, if_neg c_131, if_neg c_137, if_neg c_144, if_neg c_150, if_neg c_157])
      · refine lv_aload_n hx hb dX5_readsOrder_88 rfl (lv_at hl 0 rfl) ?_
        refine lv_iconst (v := nI 0) hx hb dX5_readsOrder_89 (by decide +kernel) ?_
        refine lv_iconst (v := nI 2) hx hb dX5_readsOrder_90 (by decide +kernel) ?_
        obtain ⟨z_158, hz_158⟩ : ∃ zq, m_X5_readsNumber_z z_100 tx (nI 2) = zq := ⟨_, rfl⟩
        have hP_z_158 : PT z_158 := by rw [← hz_158]; exact PT_readsNumber hP_z_100
        have hq_159 := hP_z_158.1.2
        have hq_160 := hP_z_158.2.2
        obtain ⟨z_161, hz_161⟩ : ∃ zq, m_X5_readsNumber_td z_100 tx td 0 (nI 2) = zq := ⟨_, rfl⟩
        obtain ⟨z_162, hz_162⟩ : ∃ zq, m_X5_readsNumber_r z_100 tx (nI 2) = zq := ⟨_, rfl⟩
        have hM_163 := (c_X5_readsNumber l D k a z_100 f kp hi sl sv tx td 0 (nI 2) hP_z_100 (by first | decide | omega))
        rw [hz_158, hz_161, hz_162] at hM_163
        refine kVi (As := [.int (nI 0), .int (nI 2)]) (rest := []) X hW hM_163 yw_X5_readsNumber lk_X5_177 ⟨Nat.le_of_ble_eq_true rfl, Nat.le_of_ble_eq_true rfl⟩ (wr := []) (List.Perm.refl _) (w' := refW k a z_158 f kp hi sl sv tx z_161) (List.Perm.refl _) (k_rcv X hW (ci := 5) (q0 := 0) rfl rfl) rfl hl.1 rfl (Nat.le_of_ble_eq_true rfl) ⟨Nat.zero_le _, Nat.zero_le _⟩ dX5_readsOrder_91 (fun H locs hW => ?_)
        exact hQ _ _ _ _ _ _ hW dX5_readsOrder_94 (by subst hz_162; subst hz_161; subst hz_158; subst hz_103; subst hz_100; subst hz_97; subst hz_94; rw [m_X5_readsOrder_r, if_neg c_3, if_pos c_99, if_neg c_105]) (by subst hz_162; subst hz_161; subst hz_158; subst hz_103; subst hz_100; subst hz_97; subst hz_94; rw [m_X5_readsOrder_z, if_neg c_3, if_pos c_99, if_neg c_105, m_X5_readsOrder_td, if_neg c_3, if_pos c_99, if_neg c_105])
    · refine lv_aload_n hx hb dX5_readsOrder_37 rfl (lv_at hl 0 rfl) ?_
      refine lv_iconst (v := nI 0) hx hb dX5_readsOrder_38 (by decide +kernel) ?_
      refine lv_iconst (v := nI 2) hx hb dX5_readsOrder_39 (by decide +kernel) ?_
      obtain ⟨z_164, hz_164⟩ : ∃ zq, m_X5_readsNumber_z z_94 tx (nI 2) = zq := ⟨_, rfl⟩
      have hP_z_164 : PT z_164 := by rw [← hz_164]; exact PT_readsNumber hP_z_94
      have hq_165 := hP_z_164.1.2
      have hq_166 := hP_z_164.2.2
      obtain ⟨z_167, hz_167⟩ : ∃ zq, m_X5_readsNumber_td z_94 tx td 0 (nI 2) = zq := ⟨_, rfl⟩
      obtain ⟨z_168, hz_168⟩ : ∃ zq, m_X5_readsNumber_r z_94 tx (nI 2) = zq := ⟨_, rfl⟩
      have hM_169 := (c_X5_readsNumber l D k a z_94 f kp hi sl sv tx td 0 (nI 2) hP_z_94 (by first | decide | omega))
      rw [hz_164, hz_167, hz_168] at hM_169
      refine kVi (As := [.int (nI 0), .int (nI 2)]) (rest := []) X hW hM_169 yw_X5_readsNumber lk_X5_177 ⟨Nat.le_of_ble_eq_true rfl, Nat.le_of_ble_eq_true rfl⟩ (wr := []) (List.Perm.refl _) (w' := refW k a z_164 f kp hi sl sv tx z_167) (List.Perm.refl _) (k_rcv X hW (ci := 5) (q0 := 0) rfl rfl) rfl hl.1 rfl (Nat.le_of_ble_eq_true rfl) ⟨Nat.zero_le _, Nat.zero_le _⟩ dX5_readsOrder_40 (fun H locs hW => ?_)
      refine lv_istore_n (lv' := [(1, .int z_168), (0, .ref (a 0))]) hx hb dX5_readsOrder_43 rfl hl (by decide) rfl (fun ls hl => ?_)
      refine lv_aload_n hx hb dX5_readsOrder_44 rfl (lv_at hl 1 rfl) ?_
      refine k_get X hW inG5 rfl 10 (by decide) fl_X5_28 rfl 0 rfl (v := .ref (a 7)) rfl dX5_readsOrder_45 ?_
      refine lv_iconst (v := nI 1) hx hb dX5_readsOrder_48 (by decide +kernel) ?_
      refine lv_iconst (v := nI 1) hx hb dX5_readsOrder_49 (by decide +kernel) ?_
      refine k_iast X hW 7 rfl (j := 1) rfl (by decide) (by decide) dX5_readsOrder_50 (w' := refW k a z_164 f kp hi sl sv tx (upd z_167 1 (nI 1))) rfl (fun H locs hW => ?_)
      refine lv_iload_n hx hb dX5_readsOrder_51 rfl (lv_at hl 0 rfl) ?_
      refine lv_if_eq (tgt := 77) hx hb dX5_readsOrder_52 (by decide) (fun c_170 => ?_) (fun c_170 => ?_)
      · refine lv_iconst (v := nI 0) hx hb dX5_readsOrder_77 (by decide +kernel) ?_
        exact hQ _ _ _ _ _ _ hW dX5_readsOrder_78 (by subst hz_168; subst hz_167; subst hz_164; subst hz_97; subst hz_94; rw [m_X5_readsOrder_r, if_neg c_3, if_neg c_99, if_pos c_170]) (by subst hz_168; subst hz_167; subst hz_164; subst hz_97; subst hz_94; rw [m_X5_readsOrder_z, if_neg c_3, if_neg c_99, if_pos c_170, m_X5_readsOrder_td, if_neg c_3, if_neg c_99, if_pos c_170])
      · refine lv_aload_n hx hb dX5_readsOrder_55 rfl (lv_at hl 1 rfl) ?_
        refine lv_bipush (v := nI 42) hx hb dX5_readsOrder_56 (by decide +kernel) ?_
        obtain ⟨z_171, hz_171⟩ : ∃ zq, m_X5_takesOne_z z_164 tx (nI 42) = zq := ⟨_, rfl⟩
        have hP_z_171 : PT z_171 := by rw [← hz_171]; exact PT_takesOne hP_z_164
        have hq_172 := hP_z_171.1.2
        have hq_173 := hP_z_171.2.2
        obtain ⟨z_174, hz_174⟩ : ∃ zq, m_X5_takesOne_r z_164 tx (nI 42) = zq := ⟨_, rfl⟩
        have hM_175 := (c_X5_takesOne l D k a z_164 f kp hi sl sv tx (upd z_167 1 (nI 1)) (nI 42) hP_z_164)
        rw [hz_171, hz_174] at hM_175
        refine kVi (As := [.int (nI 42)]) (rest := []) X hW hM_175 yw_X5_takesOne lk_X5_174 ⟨Nat.le_of_ble_eq_true rfl, Nat.le_of_ble_eq_true rfl⟩ (wr := []) (List.Perm.refl _) (w' := refW k a z_171 f kp hi sl sv tx (upd z_167 1 (nI 1))) (List.Perm.refl _) (k_rcv X hW (ci := 5) (q0 := 0) rfl rfl) rfl hl.1 rfl (Nat.le_of_ble_eq_true rfl) ⟨Nat.zero_le _, Nat.zero_le _⟩ dX5_readsOrder_58 (fun H locs hW => ?_)
        refine lv_if_eq (tgt := 73) hx hb dX5_readsOrder_61 (by decide) (fun c_176 => ?_) (fun c_176 => ?_)
        · refine lv_iconst (v := nI 1) hx hb dX5_readsOrder_73 (by decide +kernel) ?_
          refine lv_goto (tgt := 78) hx hb dX5_readsOrder_74 (by decide) ?_
          exact hQ _ _ _ _ _ _ hW dX5_readsOrder_78 (by subst hz_174; subst hz_171; subst hz_168; subst hz_167; subst hz_164; subst hz_97; subst hz_94; rw [m_X5_readsOrder_r, if_neg c_3, if_neg c_99, if_neg c_170, if_pos c_176]) (by subst hz_174; subst hz_171; subst hz_168; subst hz_167; subst hz_164; subst hz_97; subst hz_94; rw [m_X5_readsOrder_z, if_neg c_3, if_neg c_99, if_neg c_170, if_pos c_176, m_X5_readsOrder_td, if_neg c_3, if_neg c_99, if_neg c_170, if_pos c_176])
        · refine lv_aload_n hx hb dX5_readsOrder_64 rfl (lv_at hl 1 rfl) ?_
          refine lv_iconst (v := nI 1) hx hb dX5_readsOrder_65 (by decide +kernel) ?_
          refine lv_iconst (v := nI 2) hx hb dX5_readsOrder_66 (by decide +kernel) ?_
          obtain ⟨z_177, hz_177⟩ : ∃ zq, m_X5_readsNumber_z z_171 tx (nI 2) = zq := ⟨_, rfl⟩
          have hP_z_177 : PT z_177 := by rw [← hz_177]; exact PT_readsNumber hP_z_171
          have hq_178 := hP_z_177.1.2
          have hq_179 := hP_z_177.2.2
          obtain ⟨z_180, hz_180⟩ : ∃ zq, m_X5_readsNumber_td z_171 tx (upd z_167 1 (nI 1)) 1 (nI 2) = zq := ⟨_, rfl⟩
          obtain ⟨z_181, hz_181⟩ : ∃ zq, m_X5_readsNumber_r z_171 tx (nI 2) = zq := ⟨_, rfl⟩
          have hM_182 := (c_X5_readsNumber l D k a z_171 f kp hi sl sv tx (upd z_167 1 (nI 1)) 1 (nI 2) hP_z_171 (by first | decide | omega))
          rw [hz_177, hz_180, hz_181] at hM_182
          refine kVi (As := [.int (nI 1), .int (nI 2)]) (rest := []) X hW hM_182 yw_X5_readsNumber lk_X5_177 ⟨Nat.le_of_ble_eq_true rfl, Nat.le_of_ble_eq_true rfl⟩ (wr := []) (List.Perm.refl _) (w' := refW k a z_177 f kp hi sl sv tx z_180) (List.Perm.refl _) (k_rcv X hW (ci := 5) (q0 := 0) rfl rfl) rfl hl.1 rfl (Nat.le_of_ble_eq_true rfl) ⟨Nat.zero_le _, Nat.zero_le _⟩ dX5_readsOrder_67 (fun H locs hW => ?_)
          refine lv_if_eq (tgt := 77) hx hb dX5_readsOrder_70 (by decide) (fun c_183 => ?_) (fun c_183 => ?_)
          · refine lv_iconst (v := nI 0) hx hb dX5_readsOrder_77 (by decide +kernel) ?_
            exact hQ _ _ _ _ _ _ hW dX5_readsOrder_78 (by subst hz_181; subst hz_180; subst hz_177; subst hz_174; subst hz_171; subst hz_168; subst hz_167; subst hz_164; subst hz_97; subst hz_94; rw [m_X5_readsOrder_r, if_neg c_3, if_neg c_99, if_neg c_170, if_neg c_176, if_pos c_183]) (by subst hz_181; subst hz_180; subst hz_177; subst hz_174; subst hz_171; subst hz_168; subst hz_167; subst hz_164; subst hz_97; subst hz_94; rw [m_X5_readsOrder_z, if_neg c_3, if_neg c_99, if_neg c_170, if_neg c_176, if_pos c_183, m_X5_readsOrder_td, if_neg c_3, if_neg c_99, if_neg c_170, if_neg c_176, if_pos c_183])
          · refine lv_iconst (v := nI 1) hx hb dX5_readsOrder_73 (by decide +kernel) ?_
            refine lv_goto (tgt := 78) hx hb dX5_readsOrder_74 (by decide) ?_
            exact hQ _ _ _ _ _ _ hW dX5_readsOrder_78 (by subst hz_181; subst hz_180; subst hz_177; subst hz_174; subst hz_171; subst hz_168; subst hz_167; subst hz_164; subst hz_97; subst hz_94; rw [m_X5_readsOrder_r, if_neg c_3, if_neg c_99, if_neg c_170, if_neg c_176, if_neg c_183]) (by subst hz_181; subst hz_180; subst hz_177; subst hz_174; subst hz_171; subst hz_168; subst hz_167; subst hz_164; subst hz_97; subst hz_94; rw [m_X5_readsOrder_z, if_neg c_3, if_neg c_99, if_neg c_170, if_neg c_176, if_neg c_183, m_X5_readsOrder_td, if_neg c_3, if_neg c_99, if_neg c_170, if_neg c_176, if_neg c_183])
theorem PT_readsOrder {z tx : Nat → Int32} (h : PT z) : PT (m_X5_readsOrder_z z tx) := by
  rw [m_X5_readsOrder_z]
  by_cases hc_0 : tn (z 7) ≤ tn (z 8)
  · rw [if_pos hc_0]
    by_cases hc_1 : (m_X5_takesOne_r (upd z 9 (nI 0)) tx (nI 102)) = 0
    · rw [if_pos hc_1]
      by_cases hc_2 : (m_X5_takesOne_r (m_X5_takesOne_z (upd z 9 (nI 0)) tx (nI 102)) tx (nI 116)) = 0
      · rw [if_pos hc_2]
        by_cases hc_3 : (m_X5_takesOne_r (m_X5_takesOne_z (m_X5_takesOne_z (upd z 9 (nI 0)) tx (nI 102)) tx (nI 116)) tx (nI 113)) = 0
        · rw [if_pos hc_3]
          by_cases hc_4 : (m_X5_takesOne_r (m_X5_takesOne_z (m_X5_takesOne_z (m_X5_takesOne_z (upd z 9 (nI 0)) tx (nI 102)) tx (nI 116)) tx (nI 113)) tx (nI 109)) = 0
          · rw [if_pos hc_4]
            exact (PT_takesOne (PT_takesOne (PT_takesOne (PT_takesOne (PT_u h (by decide) (by decide))))))
          · rw [if_neg hc_4]
            by_cases hc_5 : (m_X5_readsNumber_r (m_X5_takesOne_z (m_X5_takesOne_z (m_X5_takesOne_z (m_X5_takesOne_z (upd z 9 (nI 0)) tx (nI 102)) tx (nI 116)) tx (nI 113)) tx (nI 109)) tx (nI 1)) = 0
            · rw [if_pos hc_5]
              exact (PT_readsNumber (PT_takesOne (PT_takesOne (PT_takesOne (PT_takesOne (PT_u h (by decide) (by decide)))))))
            · rw [if_neg hc_5]
              exact (PT_readsNumber (PT_takesOne (PT_takesOne (PT_takesOne (PT_takesOne (PT_u h (by decide) (by decide)))))))
        · rw [if_neg hc_3]
          by_cases hc_4 : (m_X5_readsNumber_r (m_X5_takesOne_z (m_X5_takesOne_z (m_X5_takesOne_z (upd z 9 (nI 0)) tx (nI 102)) tx (nI 116)) tx (nI 113)) tx (nI 1)) = 0
          · rw [if_pos hc_4]
            exact (PT_readsNumber (PT_takesOne (PT_takesOne (PT_takesOne (PT_u h (by decide) (by decide))))))
          · rw [if_neg hc_4]
            by_cases hc_5 : (m_X5_takesOne_r (m_X5_readsNumber_z (m_X5_takesOne_z (m_X5_takesOne_z (m_X5_takesOne_z (upd z 9 (nI 0)) tx (nI 102)) tx (nI 116)) tx (nI 113)) tx (nI 1)) tx (nI 61)) = 0
            · rw [if_pos hc_5]
              exact (PT_takesOne (PT_readsNumber (PT_takesOne (PT_takesOne (PT_takesOne (PT_u h (by decide) (by decide)))))))
            · rw [if_neg hc_5]
              by_cases hc_6 : (m_X5_readsNumber_r (m_X5_takesOne_z (m_X5_readsNumber_z (m_X5_takesOne_z (m_X5_takesOne_z (m_X5_takesOne_z (upd z 9 (nI 0)) tx (nI 102)) tx (nI 116)) tx (nI 113)) tx (nI 1)) tx (nI 61)) tx (nI 2)) = 0
              · rw [if_pos hc_6]
                exact (PT_readsNumber (PT_takesOne (PT_readsNumber (PT_takesOne (PT_takesOne (PT_takesOne (PT_u h (by decide) (by decide))))))))
              · rw [if_neg hc_6]
                by_cases hc_7 : (m_X5_takesOne_r (m_X5_readsNumber_z (m_X5_takesOne_z (m_X5_readsNumber_z (m_X5_takesOne_z (m_X5_takesOne_z (m_X5_takesOne_z (upd z 9 (nI 0)) tx (nI 102)) tx (nI 116)) tx (nI 113)) tx (nI 1)) tx (nI 61)) tx (nI 2)) tx (nI 44)) = 0
                · rw [if_pos hc_7]
                  exact (PT_takesOne (PT_readsNumber (PT_takesOne (PT_readsNumber (PT_takesOne (PT_takesOne (PT_takesOne (PT_u h (by decide) (by decide)))))))))
                · rw [if_neg hc_7]
                  by_cases hc_8 : (m_X5_readsNumber_r (m_X5_takesOne_z (m_X5_readsNumber_z (m_X5_takesOne_z (m_X5_readsNumber_z (m_X5_takesOne_z (m_X5_takesOne_z (m_X5_takesOne_z (upd z 9 (nI 0)) tx (nI 102)) tx (nI 116)) tx (nI 113)) tx (nI 1)) tx (nI 61)) tx (nI 2)) tx (nI 44)) tx (nI 2)) = 0
                  · rw [if_pos hc_8]
                    exact (PT_readsNumber (PT_takesOne (PT_readsNumber (PT_takesOne (PT_readsNumber (PT_takesOne (PT_takesOne (PT_takesOne (PT_u h (by decide) (by decide))))))))))
                  · rw [if_neg hc_8]
                    exact (PT_readsNumber (PT_takesOne (PT_readsNumber (PT_takesOne (PT_readsNumber (PT_takesOne (PT_takesOne (PT_takesOne (PT_u h (by decide) (by decide))))))))))
      · rw [if_neg hc_2]
        exact (PT_readsNumber (PT_takesOne (PT_takesOne (PT_u h (by decide) (by decide)))))
    · rw [if_neg hc_1]
      by_cases hc_2 : (m_X5_readsNumber_r (m_X5_takesOne_z (upd z 9 (nI 0)) tx (nI 102)) tx (nI 2)) = 0
      · rw [if_pos hc_2]
        exact (PT_readsNumber (PT_takesOne (PT_u h (by decide) (by decide))))
      · rw [if_neg hc_2]
        by_cases hc_3 : (m_X5_takesOne_r (m_X5_readsNumber_z (m_X5_takesOne_z (upd z 9 (nI 0)) tx (nI 102)) tx (nI 2)) tx (nI 42)) = 0
        · rw [if_pos hc_3]
          exact (PT_takesOne (PT_readsNumber (PT_takesOne (PT_u h (by decide) (by decide)))))
        · rw [if_neg hc_3]
          by_cases hc_4 : (m_X5_readsNumber_r (m_X5_takesOne_z (m_X5_readsNumber_z (m_X5_takesOne_z (upd z 9 (nI 0)) tx (nI 102)) tx (nI 2)) tx (nI 42)) tx (nI 2)) = 0
          · rw [if_pos hc_4]
            exact (PT_readsNumber (PT_takesOne (PT_readsNumber (PT_takesOne (PT_u h (by decide) (by decide))))))
          · rw [if_neg hc_4]
            exact (PT_readsNumber (PT_takesOne (PT_readsNumber (PT_takesOne (PT_u h (by decide) (by decide))))))
  · rw [if_neg hc_0]
    by_cases hc_1 : (m_X5_takesOne_r (upd z 9 (tx (tn (z 8)))) tx (nI 102)) = 0
    · rw [if_pos hc_1]
      by_cases hc_2 : (m_X5_takesOne_r (m_X5_takesOne_z (upd z 9 (tx (tn (z 8)))) tx (nI 102)) tx (nI 116)) = 0
      · rw [if_pos hc_2]
        by_cases hc_3 : (m_X5_takesOne_r (m_X5_takesOne_z (m_X5_takesOne_z (upd z 9 (tx (tn (z 8)))) tx (nI 102)) tx (nI 116)) tx (nI 113)) = 0
        · rw [if_pos hc_3]
          by_cases hc_4 : (m_X5_takesOne_r (m_X5_takesOne_z (m_X5_takesOne_z (m_X5_takesOne_z (upd z 9 (tx (tn (z 8)))) tx (nI 102)) tx (nI 116)) tx (nI 113)) tx (nI 109)) = 0
          · rw [if_pos hc_4]
            exact (PT_takesOne (PT_takesOne (PT_takesOne (PT_takesOne (PT_u h (by decide) (by decide))))))
          · rw [if_neg hc_4]
            by_cases hc_5 : (m_X5_readsNumber_r (m_X5_takesOne_z (m_X5_takesOne_z (m_X5_takesOne_z (m_X5_takesOne_z (upd z 9 (tx (tn (z 8)))) tx (nI 102)) tx (nI 116)) tx (nI 113)) tx (nI 109)) tx (nI 1)) = 0
            · rw [if_pos hc_5]
              exact (PT_readsNumber (PT_takesOne (PT_takesOne (PT_takesOne (PT_takesOne (PT_u h (by decide) (by decide)))))))
            · rw [if_neg hc_5]
              exact (PT_readsNumber (PT_takesOne (PT_takesOne (PT_takesOne (PT_takesOne (PT_u h (by decide) (by decide)))))))
        · rw [if_neg hc_3]
          by_cases hc_4 : (m_X5_readsNumber_r (m_X5_takesOne_z (m_X5_takesOne_z (m_X5_takesOne_z (upd z 9 (tx (tn (z 8)))) tx (nI 102)) tx (nI 116)) tx (nI 113)) tx (nI 1)) = 0
          · rw [if_pos hc_4]
            exact (PT_readsNumber (PT_takesOne (PT_takesOne (PT_takesOne (PT_u h (by decide) (by decide))))))
          · rw [if_neg hc_4]
            by_cases hc_5 : (m_X5_takesOne_r (m_X5_readsNumber_z (m_X5_takesOne_z (m_X5_takesOne_z (m_X5_takesOne_z (upd z 9 (tx (tn (z 8)))) tx (nI 102)) tx (nI 116)) tx (nI 113)) tx (nI 1)) tx (nI 61)) = 0
            · rw [if_pos hc_5]
              exact (PT_takesOne (PT_readsNumber (PT_takesOne (PT_takesOne (PT_takesOne (PT_u h (by decide) (by decide)))))))
            · rw [if_neg hc_5]
              by_cases hc_6 : (m_X5_readsNumber_r (m_X5_takesOne_z (m_X5_readsNumber_z (m_X5_takesOne_z (m_X5_takesOne_z (m_X5_takesOne_z (upd z 9 (tx (tn (z 8)))) tx (nI 102)) tx (nI 116)) tx (nI 113)) tx (nI 1)) tx (nI 61)) tx (nI 2)) = 0
              · rw [if_pos hc_6]
                exact (PT_readsNumber (PT_takesOne (PT_readsNumber (PT_takesOne (PT_takesOne (PT_takesOne (PT_u h (by decide) (by decide))))))))
              · rw [if_neg hc_6]
                by_cases hc_7 : (m_X5_takesOne_r (m_X5_readsNumber_z (m_X5_takesOne_z (m_X5_readsNumber_z (m_X5_takesOne_z (m_X5_takesOne_z (m_X5_takesOne_z (upd z 9 (tx (tn (z 8)))) tx (nI 102)) tx (nI 116)) tx (nI 113)) tx (nI 1)) tx (nI 61)) tx (nI 2)) tx (nI 44)) = 0
                · rw [if_pos hc_7]
                  exact (PT_takesOne (PT_readsNumber (PT_takesOne (PT_readsNumber (PT_takesOne (PT_takesOne (PT_takesOne (PT_u h (by decide) (by decide)))))))))
                · rw [if_neg hc_7]
                  by_cases hc_8 : (m_X5_readsNumber_r (m_X5_takesOne_z (m_X5_readsNumber_z (m_X5_takesOne_z (m_X5_readsNumber_z (m_X5_takesOne_z (m_X5_takesOne_z (m_X5_takesOne_z (upd z 9 (tx (tn (z 8)))) tx (nI 102)) tx (nI 116)) tx (nI 113)) tx (nI 1)) tx (nI 61)) tx (nI 2)) tx (nI 44)) tx (nI 2)) = 0
                  · rw [if_pos hc_8]
                    exact (PT_readsNumber (PT_takesOne (PT_readsNumber (PT_takesOne (PT_readsNumber (PT_takesOne (PT_takesOne (PT_takesOne (PT_u h (by decide) (by decide))))))))))
                  · rw [if_neg hc_8]
                    exact (PT_readsNumber (PT_takesOne (PT_readsNumber (PT_takesOne (PT_readsNumber (PT_takesOne (PT_takesOne (PT_takesOne (PT_u h (by decide) (by decide))))))))))
      · rw [if_neg hc_2]
        exact (PT_readsNumber (PT_takesOne (PT_takesOne (PT_u h (by decide) (by decide)))))
    · rw [if_neg hc_1]
      by_cases hc_2 : (m_X5_readsNumber_r (m_X5_takesOne_z (upd z 9 (tx (tn (z 8)))) tx (nI 102)) tx (nI 2)) = 0
      · rw [if_pos hc_2]
        exact (PT_readsNumber (PT_takesOne (PT_u h (by decide) (by decide))))
      · rw [if_neg hc_2]
        by_cases hc_3 : (m_X5_takesOne_r (m_X5_readsNumber_z (m_X5_takesOne_z (upd z 9 (tx (tn (z 8)))) tx (nI 102)) tx (nI 2)) tx (nI 42)) = 0
        · rw [if_pos hc_3]
          exact (PT_takesOne (PT_readsNumber (PT_takesOne (PT_u h (by decide) (by decide)))))
        · rw [if_neg hc_3]
          by_cases hc_4 : (m_X5_readsNumber_r (m_X5_takesOne_z (m_X5_readsNumber_z (m_X5_takesOne_z (upd z 9 (tx (tn (z 8)))) tx (nI 102)) tx (nI 2)) tx (nI 42)) tx (nI 2)) = 0
          · rw [if_pos hc_4]
            exact (PT_readsNumber (PT_takesOne (PT_readsNumber (PT_takesOne (PT_u h (by decide) (by decide))))))
          · rw [if_neg hc_4]
            exact (PT_readsNumber (PT_takesOne (PT_readsNumber (PT_takesOne (PT_u h (by decide) (by decide))))))
