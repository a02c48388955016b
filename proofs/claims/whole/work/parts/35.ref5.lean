theorem nb_in {v lo up : Int64} : narrow .boolean (.int (m_X5_in_r v lo up)) = .int (m_X5_in_r v lo up) := by
  unfold m_X5_in_r
  exact nb_ite rfl (nb_ite rfl rfl)
theorem in_t {v lo up : Int64} (h : ¬ m_X5_in_r v lo up = 0) : ¬ v < lo ∧ ¬ up < v := by
  unfold m_X5_in_r at h
  by_cases h0 : v < lo
  · rw [if_pos h0] at h; exact absurd rfl h
  · rw [if_neg h0] at h
    by_cases h1 : up < v
    · rw [if_pos h1] at h; exact absurd rfl h
    · exact ⟨h0, h1⟩
theorem in_n {x : Int32} {lo up : Int64} {a b : Nat} (hlo : lo.toInt = a) (hup : up.toInt = b) (hb : b < 2 ^ 31) (h : ¬ m_X5_in_r x.toInt64 lo up = 0) : x = nI (tn x) ∧ a ≤ tn x ∧ tn x ≤ b := by
  obtain ⟨h0, h1⟩ := in_t h
  rw [Int64.lt_iff_toInt_lt, Int32.toInt_toInt64] at h0 h1
  have hx : ¬ x < 0 := by rw [Int32.lt_iff_toInt_lt]; show ¬ x.toInt < 0; omega
  have e := tn_ge hx
  have e2 : x.toInt = (tn x : Int) := by have := nI_toInt (tn_lt x); rw [← e] at this; exact this
  refine ⟨e, ?_, ?_⟩ <;> omega
theorem in_f {x : Int32} {n : Nat} (hn : n ≤ 400) (h : ¬ m_X5_in_r x.toInt64 0 ((nI n).toInt64 - 1) = 0) : x = nI (tn x) ∧ tn x < n := by
  rw [nI_l (by omega)] at h
  rcases Nat.eq_zero_or_pos n with g | g
  · subst g
    obtain ⟨h0, h1⟩ := in_t h
    rw [Int64.lt_iff_toInt_lt] at h0 h1
    have e : (lN 0 - 1).toInt = -1 := by decide +kernel
    have e0 : (0 : Int64).toInt = 0 := rfl
    omega
  · have e1 : lN n - 1 = lN (n - 1) := by rw [show (1 : Int64) = lN 1 from rfl, lN_sub g]
    rw [e1] at h
    obtain ⟨a1, a2, a3⟩ := in_n (a := 0) (b := n - 1) rfl (lN_toInt (by omega)) (by omega) h
    exact ⟨a1, by omega⟩
def m_X5_isQueue_r (x : Int32) : Int32 := (m_X5_in_r ((x).toInt64) 0 2)
set_option maxHeartbeats 4000000 in
set_option maxRecDepth 100000 in
theorem c_X5_isQueue (l : Launch) (D : va_G) (k : Nat → ClassId)   (x : Int32)  : mI l yX5_isQueue (wsY yX5_isQueue cX5_isQueue 1 (some .boolean)) 1 D k [.int x] [] [] (m_X5_isQueue_r x) := by
  refine mI_intro rfl (Nat.le_of_ble_eq_true rfl) (Or.inr ⟨rfl, nb_in⟩) ?_
  intro p e s m args below meth c A Q ls X hW hl hQ
  have hx := X.hx
  have hb := X.hb
  have hl : lv_has ls 1 [(0, .int x)] := hl
  refine lv_iload_n hx hb dX5_isQueue_0 rfl (lv_at hl 0 rfl) ?_
  refine lv_i2l hx hb dX5_isQueue_1 rfl ?_
  refine lv_lconst (v := 0) hx hb dX5_isQueue_2 (by decide +kernel) ?_
  refine lv_ldc2 hx hb X.hown (X.wd kl_X5_39) dX5_isQueue_3 ?_
  obtain ⟨z_1, hz_1⟩ : ∃ zq, m_X5_in_r ((x).toInt64) 0 2 = zq := ⟨_, rfl⟩
  have hM_2 := (c_X5_in l D k ((x).toInt64) 0 2)
  rw [hz_1] at hM_2
  refine kSi (As := [.long ((x).toInt64), .long 0, .long 2]) (rest := []) X hW hM_2 yw_X5_in lk_X5_41 ⟨Nat.le_of_ble_eq_true rfl, Nat.le_of_ble_eq_true rfl⟩ rfl hl.1 rfl (Nat.le_of_ble_eq_true rfl) ⟨Nat.zero_le _, Nat.zero_le _⟩ dX5_isQueue_6 (fun H locs hW => ?_)
  exact hQ _ _ _ _ _ _ hW dX5_isQueue_9 (by subst hz_1; rw [m_X5_isQueue_r]) rfl
def m_X5_areTicks_r (x : Int32) : Int32 := (m_X5_in_r ((x).toInt64) 1 99)
set_option maxHeartbeats 4000000 in
set_option maxRecDepth 100000 in
theorem c_X5_areTicks (l : Launch) (D : va_G) (k : Nat → ClassId)   (x : Int32)  : mI l yX5_areTicks (wsY yX5_areTicks cX5_areTicks 1 (some .boolean)) 1 D k [.int x] [] [] (m_X5_areTicks_r x) := by
  refine mI_intro rfl (Nat.le_of_ble_eq_true rfl) (Or.inr ⟨rfl, nb_in⟩) ?_
  intro p e s m args below meth c A Q ls X hW hl hQ
  have hx := X.hx
  have hb := X.hb
  have hl : lv_has ls 1 [(0, .int x)] := hl
  refine lv_iload_n hx hb dX5_areTicks_0 rfl (lv_at hl 0 rfl) ?_
  refine lv_i2l hx hb dX5_areTicks_1 rfl ?_
  refine lv_lconst (v := 1) hx hb dX5_areTicks_2 (by decide +kernel) ?_
  refine lv_ldc2 hx hb X.hown (X.wd kl_X5_94) dX5_areTicks_3 ?_
  obtain ⟨z_1, hz_1⟩ : ∃ zq, m_X5_in_r ((x).toInt64) 1 99 = zq := ⟨_, rfl⟩
  have hM_2 := (c_X5_in l D k ((x).toInt64) 1 99)
  rw [hz_1] at hM_2
  refine kSi (As := [.long ((x).toInt64), .long 1, .long 99]) (rest := []) X hW hM_2 yw_X5_in lk_X5_41 ⟨Nat.le_of_ble_eq_true rfl, Nat.le_of_ble_eq_true rfl⟩ rfl hl.1 rfl (Nat.le_of_ble_eq_true rfl) ⟨Nat.zero_le _, Nat.zero_le _⟩ dX5_areTicks_6 (fun H locs hW => ?_)
  exact hQ _ _ _ _ _ _ hW dX5_areTicks_9 (by subst hz_1; rw [m_X5_areTicks_r]) rfl
def m_X5_areBounds_r (c1 : Int32) (w1 : Int32) : Int32 := if (m_X5_in_r ((c1).toInt64) 1 32) = 0 then nI 0 else if (m_X5_in_r ((w1).toInt64) 1 99) = 0 then nI 0 else nI 1
set_option maxHeartbeats 4000000 in
set_option maxRecDepth 100000 in
theorem c_X5_areBounds (l : Launch) (D : va_G) (k : Nat → ClassId)   (c1 : Int32) (w1 : Int32)  : mI l yX5_areBounds (wsY yX5_areBounds cX5_areBounds 2 (some .boolean)) 1 D k [.int c1, .int w1] [] [] (m_X5_areBounds_r c1 w1) := by
  refine mI_intro rfl (Nat.le_of_ble_eq_true rfl) (Or.inr ⟨rfl, by rw [m_X5_areBounds_r]; exact (nb_ite rfl (nb_ite rfl rfl))⟩) ?_
  intro p e s m args below meth c A Q ls X hW hl hQ
  have hx := X.hx
  have hb := X.hb
  have hl : lv_has ls 2 [(0, .int c1), (1, .int w1)] := hl
  refine lv_iload_n hx hb dX5_areBounds_0 rfl (lv_at hl 0 rfl) ?_
  refine lv_i2l hx hb dX5_areBounds_1 rfl ?_
  refine lv_lconst (v := 1) hx hb dX5_areBounds_2 (by decide +kernel) ?_
  refine lv_ldc2 hx hb X.hown (X.wd kl_X5_92) dX5_areBounds_3 ?_
  obtain ⟨z_1, hz_1⟩ : ∃ zq, m_X5_in_r ((c1).toInt64) 1 32 = zq := ⟨_, rfl⟩
  have hM_2 := (c_X5_in l D k ((c1).toInt64) 1 32)
  rw [hz_1] at hM_2
  refine kSi (As := [.long ((c1).toInt64), .long 1, .long 32]) (rest := []) X hW hM_2 yw_X5_in lk_X5_41 ⟨Nat.le_of_ble_eq_true rfl, Nat.le_of_ble_eq_true rfl⟩ rfl hl.1 rfl (Nat.le_of_ble_eq_true rfl) ⟨Nat.zero_le _, Nat.zero_le _⟩ dX5_areBounds_6 (fun H locs hW => ?_)
  refine lv_if_eq (tgt := 28) hx hb dX5_areBounds_9 (by decide) (fun c_3 => ?_) (fun c_3 => ?_)
  · refine lv_iconst (v := nI 0) hx hb dX5_areBounds_28 (by decide +kernel) ?_
    exact hQ _ _ _ _ _ _ hW dX5_areBounds_29 (by subst hz_1; rw [m_X5_areBounds_r, if_pos c_3]) rfl
  · refine lv_iload_n hx hb dX5_areBounds_12 rfl (lv_at hl 1 rfl) ?_
    refine lv_i2l hx hb dX5_areBounds_13 rfl ?_
    refine lv_lconst (v := 1) hx hb dX5_areBounds_14 (by decide +kernel) ?_
    refine lv_ldc2 hx hb X.hown (X.wd kl_X5_94) dX5_areBounds_15 ?_
    obtain ⟨z_4, hz_4⟩ : ∃ zq, m_X5_in_r ((w1).toInt64) 1 99 = zq := ⟨_, rfl⟩
    have hM_5 := (c_X5_in l D k ((w1).toInt64) 1 99)
    rw [hz_4] at hM_5
    refine kSi (As := [.long ((w1).toInt64), .long 1, .long 99]) (rest := []) X hW hM_5 yw_X5_in lk_X5_41 ⟨Nat.le_of_ble_eq_true rfl, Nat.le_of_ble_eq_true rfl⟩ rfl hl.1 rfl (Nat.le_of_ble_eq_true rfl) ⟨Nat.zero_le _, Nat.zero_le _⟩ dX5_areBounds_18 (fun H locs hW => ?_)
    refine lv_if_eq (tgt := 28) hx hb dX5_areBounds_21 (by decide) (fun c_6 => ?_) (fun c_6 => ?_)
    · refine lv_iconst (v := nI 0) hx hb dX5_areBounds_28 (by decide +kernel) ?_
      exact hQ _ _ _ _ _ _ hW dX5_areBounds_29 (by subst hz_4; subst hz_1; rw [m_X5_areBounds_r, if_neg c_3, if_pos c_6]) rfl
    · refine lv_iconst (v := nI 1) hx hb dX5_areBounds_24 (by decide +kernel) ?_
      refine lv_goto (tgt := 29) hx hb dX5_areBounds_25 (by decide) ?_
      exact hQ _ _ _ _ _ _ hW dX5_areBounds_29 (by subst hz_4; subst hz_1; rw [m_X5_areBounds_r, if_neg c_3, if_neg c_6]) rfl
def m_X5_isSetting_r (x : Int32) (v : Int32) : Int32 := if x = nI 0 then (m_X5_in_r ((v).toInt64) 1 32) else if x = nI 1 then (m_X5_in_r ((v).toInt64) 1 16) else if x = nI 2 then (m_X5_in_r ((v).toInt64) 0 1) else if x = nI 3 then (m_X5_in_r ((v).toInt64) 0 50) else nI 0
set_option maxHeartbeats 4000000 in
set_option maxRecDepth 100000 in
theorem c_X5_isSetting (l : Launch) (D : va_G) (k : Nat → ClassId)   (x : Int32) (v : Int32)  : mI l yX5_isSetting (wsY yX5_isSetting cX5_isSetting 2 (some .boolean)) 1 D k [.int x, .int v] [] [] (m_X5_isSetting_r x v) := by
  refine mI_intro rfl (Nat.le_of_ble_eq_true rfl) (Or.inr ⟨rfl, by unfold m_X5_isSetting_r; exact nb_ite nb_in (nb_ite nb_in (nb_ite nb_in (nb_ite nb_in rfl)))⟩) ?_
  intro p e s m args below meth c A Q ls X hW hl hQ
  have hx := X.hx
  have hb := X.hb
  have hl : lv_has ls 2 [(0, .int x), (1, .int v)] := hl
  refine lv_iload_n hx hb dX5_isSetting_0 rfl (lv_at hl 0 rfl) ?_
  by_cases c_2 : x = nI 0
  · refine lv_tableIn (off := 31) (tgt := 32) hx hb dX5_isSetting_1 (by rw [c_2]; decide +kernel) (by rw [c_2]; decide +kernel) (by rw [c_2]; decide +kernel) (by decide) ?_
    refine lv_iload_n hx hb dX5_isSetting_32 rfl (lv_at hl 1 rfl) ?_
    refine lv_i2l hx hb dX5_isSetting_33 rfl ?_
    refine lv_lconst (v := 1) hx hb dX5_isSetting_34 (by decide +kernel) ?_
    refine lv_ldc2 hx hb X.hown (X.wd kl_X5_92) dX5_isSetting_35 ?_
    obtain ⟨z_3, hz_3⟩ : ∃ zq, m_X5_in_r ((v).toInt64) 1 32 = zq := ⟨_, rfl⟩
    have hM_4 := (c_X5_in l D k ((v).toInt64) 1 32)
    rw [hz_3] at hM_4
    refine kSi (As := [.long ((v).toInt64), .long 1, .long 32]) (rest := []) X hW hM_4 yw_X5_in lk_X5_41 ⟨Nat.le_of_ble_eq_true rfl, Nat.le_of_ble_eq_true rfl⟩ rfl hl.1 rfl (Nat.le_of_ble_eq_true rfl) ⟨Nat.zero_le _, Nat.zero_le _⟩ dX5_isSetting_38 (fun H locs hW => ?_)
    exact hQ _ _ _ _ _ _ hW dX5_isSetting_41 (by subst hz_3; rw [m_X5_isSetting_r, if_pos c_2]) rfl
  by_cases c_5 : x = nI 1
  · refine lv_tableIn (off := 41) (tgt := 42) hx hb dX5_isSetting_1 (by rw [c_5]; decide +kernel) (by rw [c_5]; decide +kernel) (by rw [c_5]; decide +kernel) (by decide) ?_
    refine lv_iload_n hx hb dX5_isSetting_42 rfl (lv_at hl 1 rfl) ?_
    refine lv_i2l hx hb dX5_isSetting_43 rfl ?_
    refine lv_lconst (v := 1) hx hb dX5_isSetting_44 (by decide +kernel) ?_
    refine lv_ldc2 hx hb X.hown (X.wd kl_X5_96) dX5_isSetting_45 ?_
    obtain ⟨z_6, hz_6⟩ : ∃ zq, m_X5_in_r ((v).toInt64) 1 16 = zq := ⟨_, rfl⟩
    have hM_7 := (c_X5_in l D k ((v).toInt64) 1 16)
    rw [hz_6] at hM_7
    refine kSi (As := [.long ((v).toInt64), .long 1, .long 16]) (rest := []) X hW hM_7 yw_X5_in lk_X5_41 ⟨Nat.le_of_ble_eq_true rfl, Nat.le_of_ble_eq_true rfl⟩ rfl hl.1 rfl (Nat.le_of_ble_eq_true rfl) ⟨Nat.zero_le _, Nat.zero_le _⟩ dX5_isSetting_48 (fun H locs hW => ?_)
    exact hQ _ _ _ _ _ _ hW dX5_isSetting_51 (by subst hz_6; rw [m_X5_isSetting_r, if_neg c_2, if_pos c_5]) rfl
  by_cases c_8 : x = nI 2
  · refine lv_tableIn (off := 51) (tgt := 52) hx hb dX5_isSetting_1 (by rw [c_8]; decide +kernel) (by rw [c_8]; decide +kernel) (by rw [c_8]; decide +kernel) (by decide) ?_
    refine lv_iload_n hx hb dX5_isSetting_52 rfl (lv_at hl 1 rfl) ?_
    refine lv_i2l hx hb dX5_isSetting_53 rfl ?_
    refine lv_lconst (v := 0) hx hb dX5_isSetting_54 (by decide +kernel) ?_
    refine lv_lconst (v := 1) hx hb dX5_isSetting_55 (by decide +kernel) ?_
    obtain ⟨z_9, hz_9⟩ : ∃ zq, m_X5_in_r ((v).toInt64) 0 1 = zq := ⟨_, rfl⟩
    have hM_10 := (c_X5_in l D k ((v).toInt64) 0 1)
    rw [hz_9] at hM_10
    refine kSi (As := [.long ((v).toInt64), .long 0, .long 1]) (rest := []) X hW hM_10 yw_X5_in lk_X5_41 ⟨Nat.le_of_ble_eq_true rfl, Nat.le_of_ble_eq_true rfl⟩ rfl hl.1 rfl (Nat.le_of_ble_eq_true rfl) ⟨Nat.zero_le _, Nat.zero_le _⟩ dX5_isSetting_56 (fun H locs hW => ?_)
    exact hQ _ _ _ _ _ _ hW dX5_isSetting_59 (by subst hz_9; rw [m_X5_isSetting_r, if_neg c_2, if_neg c_5, if_pos c_8]) rfl
  by_cases c_11 : x = nI 3
  · refine lv_tableIn (off := 59) (tgt := 60) hx hb dX5_isSetting_1 (by rw [c_11]; decide +kernel) (by rw [c_11]; decide +kernel) (by rw [c_11]; decide +kernel) (by decide) ?_
    refine lv_iload_n hx hb dX5_isSetting_60 rfl (lv_at hl 1 rfl) ?_
    refine lv_i2l hx hb dX5_isSetting_61 rfl ?_
    refine lv_lconst (v := 0) hx hb dX5_isSetting_62 (by decide +kernel) ?_
    refine lv_ldc2 hx hb X.hown (X.wd kl_X5_98) dX5_isSetting_63 ?_
    obtain ⟨z_12, hz_12⟩ : ∃ zq, m_X5_in_r ((v).toInt64) 0 50 = zq := ⟨_, rfl⟩
    have hM_13 := (c_X5_in l D k ((v).toInt64) 0 50)
    rw [hz_12] at hM_13
    refine kSi (As := [.long ((v).toInt64), .long 0, .long 50]) (rest := []) X hW hM_13 yw_X5_in lk_X5_41 ⟨Nat.le_of_ble_eq_true rfl, Nat.le_of_ble_eq_true rfl⟩ rfl hl.1 rfl (Nat.le_of_ble_eq_true rfl) ⟨Nat.zero_le _, Nat.zero_le _⟩ dX5_isSetting_66 (fun H locs hW => ?_)
    exact hQ _ _ _ _ _ _ hW dX5_isSetting_69 (by subst hz_12; rw [m_X5_isSetting_r, if_neg c_2, if_neg c_5, if_neg c_8, if_pos c_11]) rfl
  refine lv_tableOut (tgt := 70) hx hb dX5_isSetting_1 (k_sw3 c_2 c_5 c_8 c_11) (by decide) ?_
  refine lv_iconst (v := nI 0) hx hb dX5_isSetting_70 (by decide +kernel) ?_
  exact hQ _ _ _ _ _ _ hW dX5_isSetting_71 (by rw [m_X5_isSetting_r, if_neg c_2, if_neg c_5, if_neg c_8, if_neg c_11]) rfl
def m_X5_isSlot_r (x : Int32) : Int32 := if x = 0 then nI 1 else if x = nI 1 then nI 1 else nI 0
set_option maxHeartbeats 4000000 in
set_option maxRecDepth 100000 in
theorem c_X5_isSlot (l : Launch) (D : va_G) (k : Nat → ClassId)   (x : Int32)  : mI l yX5_isSlot (wsY yX5_isSlot cX5_isSlot 1 (some .boolean)) 0 D k [.int x] [] [] (m_X5_isSlot_r x) := by
  refine mI_intro rfl (Nat.le_of_ble_eq_true rfl) (Or.inr ⟨rfl, by rw [m_X5_isSlot_r]; exact (nb_ite rfl (nb_ite rfl rfl))⟩) ?_
  intro p e s m args below meth c A Q ls X hW hl hQ
  have hx := X.hx
  have hb := X.hb
  have hl : lv_has ls 1 [(0, .int x)] := hl
  refine lv_iload_n hx hb dX5_isSlot_0 rfl (lv_at hl 0 rfl) ?_
  refine lv_if_eq (tgt := 9) hx hb dX5_isSlot_1 (by decide) (fun c_1 => ?_) (fun c_1 => ?_)
  · refine lv_iconst (v := nI 1) hx hb dX5_isSlot_9 (by decide +kernel) ?_
    refine lv_goto (tgt := 14) hx hb dX5_isSlot_10 (by decide) ?_
    exact hQ _ _ _ _ _ _ hW dX5_isSlot_14 (by rw [m_X5_isSlot_r, if_pos c_1]) rfl
  · refine lv_iload_n hx hb dX5_isSlot_4 rfl (lv_at hl 0 rfl) ?_
    refine lv_iconst (v := nI 1) hx hb dX5_isSlot_5 (by decide +kernel) ?_
    refine lv_icmp_ne (tgt := 13) hx hb dX5_isSlot_6 (by decide) (fun c_2 => ?_) (fun c_2 => ?_)
    · refine lv_iconst (v := nI 0) hx hb dX5_isSlot_13 (by decide +kernel) ?_
      exact hQ _ _ _ _ _ _ hW dX5_isSlot_14 (by rw [m_X5_isSlot_r, if_neg c_1, if_neg c_2]) rfl
    · refine lv_iconst (v := nI 1) hx hb dX5_isSlot_9 (by decide +kernel) ?_
      refine lv_goto (tgt := 14) hx hb dX5_isSlot_10 (by decide) ?_
      exact hQ _ _ _ _ _ _ hW dX5_isSlot_14 (by rw [m_X5_isSlot_r, if_neg c_1, if_pos c_2]) rfl
theorem rq3 {x : Int32} (h : ¬ m_X5_isQueue_r x = 0) : x = nI (tn x) ∧ tn x < 3 := by
  obtain ⟨a1, a2, a3⟩ := in_n (a := 0) (b := 2) rfl rfl (by decide) (show ¬ m_X5_in_r x.toInt64 0 2 = 0 from h)
  exact ⟨a1, by omega⟩
def m_X5_isFrame_r (f : Nat → Int32) (x : Int32) : Int32 := (m_X5_in_r ((x).toInt64) 0 (((nI (tn (f 5))).toInt64) - 1))
set_option maxHeartbeats 4000000 in
set_option maxRecDepth 100000 in
theorem c_X5_isFrame (l : Launch) (D : va_G) (k : Nat → ClassId) (a : Nat → Nat) (z : Nat → Int32) (f : Nat → Int32) (kp : Nat → Int32) (hi : Nat → Int32) (sl : Nat → Int32) (sv : Nat → Int32) (tx : Nat → Int32) (td : Nat → Int32) (x : Int32) (hf : WF f)  : mI l yX5_isFrame (wsY yX5_isFrame cX5_isFrame 2 (some .boolean)) 1 D k [.ref (a 0), .int x] (refW k a z f kp hi sl sv tx td) (refW k a z f kp hi sl sv tx td) (m_X5_isFrame_r f x) := by
  refine mI_intro rfl (Nat.le_of_ble_eq_true rfl) (Or.inr ⟨rfl, nb_in⟩) ?_
  intro p e s m args below meth c A Q ls X hW hl hQ
  have hx := X.hx
  have hb := X.hb
  have hl : lv_has ls 2 [(0, .ref (a 0)), (1, .int x)] := hl
  have hq_1 := hf.1.2
  have hq_2 := hf.2.1.2
  have hq_3 := hf.2.2.1.2
  refine lv_iload_n hx hb dX5_isFrame_0 rfl (lv_at hl 1 rfl) ?_
  refine lv_i2l hx hb dX5_isFrame_1 rfl ?_
  refine lv_lconst (v := 0) hx hb dX5_isFrame_2 (by decide +kernel) ?_
  refine lv_aload_n hx hb dX5_isFrame_3 rfl (lv_at hl 0 rfl) ?_
  refine k_get X hW inG5 rfl 0 (by decide) fl_X5_7 rfl 0 rfl (v := .ref (a 1)) rfl dX5_isFrame_4 ?_
  refine lv_iconst (v := nI 5) hx hb dX5_isFrame_7 (by decide +kernel) ?_
  refine k_iald X hW 1 rfl (j := 5) (v := f 5) rfl (by decide) (by decide) rfl dX5_isFrame_8 ?_
  refine k_top (y := nI (tn (f 5))) (hf.1.1) ?_
  refine lv_i2l hx hb dX5_isFrame_9 rfl ?_
  refine lv_lconst (v := 1) hx hb dX5_isFrame_10 (by decide +kernel) ?_
  refine lv_lsub hx hb dX5_isFrame_11 ?_
  obtain ⟨z_4, hz_4⟩ : ∃ zq, m_X5_in_r ((x).toInt64) 0 (((nI (tn (f 5))).toInt64) - 1) = zq := ⟨_, rfl⟩
  have hM_5 := (c_X5_in l D k ((x).toInt64) 0 (((nI (tn (f 5))).toInt64) - 1))
  rw [hz_4] at hM_5
  refine kSi (As := [.long ((x).toInt64), .long 0, .long (((nI (tn (f 5))).toInt64) - 1)]) (rest := []) X hW hM_5 yw_X5_in lk_X5_41 ⟨Nat.le_of_ble_eq_true rfl, Nat.le_of_ble_eq_true rfl⟩ rfl hl.1 rfl (Nat.le_of_ble_eq_true rfl) ⟨Nat.zero_le _, Nat.zero_le _⟩ dX5_isFrame_12 (fun H locs hW => ?_)
  exact hQ _ _ _ _ _ _ hW dX5_isFrame_15 (by subst hz_4; rw [m_X5_isFrame_r]) rfl
def m_X5_waitOf_r (f : Nat → Int32) (fr : Nat) : Int32 := if (m_X5_frameAt_r f fr 2) = nI 2 then (-6) else if (m_X5_frameAt_r f fr 2) = nI 1 then (m_X5_frameAt_r f fr 3) else (f 4) - (m_X5_frameAt_r f fr 1)
set_option maxHeartbeats 4000000 in
set_option maxRecDepth 100000 in
theorem c_X5_waitOf (l : Launch) (D : va_G) (k : Nat → ClassId) (a : Nat → Nat) (z : Nat → Int32) (f : Nat → Int32) (kp : Nat → Int32) (hi : Nat → Int32) (sl : Nat → Int32) (sv : Nat → Int32) (tx : Nat → Int32) (td : Nat → Int32) (fr : Nat) (hfr : fr < 400) : mI l yX5_waitOf (wsY yX5_waitOf cX5_waitOf 3 (some .int)) 1 D k [.ref (a 0), .int (nI fr)] (refW k a z f kp hi sl sv tx td) (refW k a z f kp hi sl sv tx td) (m_X5_waitOf_r f fr) := by
  refine mI_intro rfl (Nat.le_of_ble_eq_true rfl) (Or.inl rfl) ?_
  intro p e s m args below meth c A Q ls X hW hl hQ
  have hx := X.hx
  have hb := X.hb
  have hl : lv_has ls 3 [(0, .ref (a 0)), (1, .int (nI fr))] := hl
  refine lv_aload_n hx hb dX5_waitOf_0 rfl (lv_at hl 0 rfl) ?_
  refine lv_iload_n hx hb dX5_waitOf_1 rfl (lv_at hl 1 rfl) ?_
  refine lv_iconst (v := nI 2) hx hb dX5_waitOf_2 (by decide +kernel) ?_
  obtain ⟨z_1, hz_1⟩ : ∃ zq, m_X5_frameAt_r f fr 2 = zq := ⟨_, rfl⟩
  have hM_2 := (c_X5_frameAt l D k a z f kp hi sl sv tx td fr 2 (by first | decide | omega) (by first | decide | omega))
  rw [hz_1] at hM_2
  refine kVi (As := [.int (nI fr), .int (nI 2)]) (rest := []) X hW hM_2 yw_X5_frameAt lk_X5_45 ⟨Nat.le_of_ble_eq_true rfl, Nat.le_of_ble_eq_true rfl⟩ (wr := []) (List.Perm.refl _) (w' := refW k a z f kp hi sl sv tx td) (List.Perm.refl _) (k_rcv X hW (ci := 5) (q0 := 0) rfl rfl) rfl hl.1 rfl (Nat.le_of_ble_eq_true rfl) ⟨Nat.zero_le _, Nat.zero_le _⟩ dX5_waitOf_3 (fun H locs hW => ?_)
  refine lv_istore_n (lv' := [(2, .int z_1), (0, .ref (a 0)), (1, .int (nI fr))]) hx hb dX5_waitOf_6 rfl hl (by decide) rfl (fun ls hl => ?_)
  refine lv_iload_n hx hb dX5_waitOf_7 rfl (lv_at hl 0 rfl) ?_
  refine lv_iconst (v := nI 2) hx hb dX5_waitOf_8 (by decide +kernel) ?_
  refine lv_icmp_ne (tgt := 17) hx hb dX5_waitOf_9 (by decide) (fun c_3 => ?_) (fun c_3 => ?_)
  · refine lv_iload_n hx hb dX5_waitOf_17 rfl (lv_at hl 0 rfl) ?_
    refine lv_iconst (v := nI 1) hx hb dX5_waitOf_18 (by decide +kernel) ?_
    refine lv_icmp_ne (tgt := 31) hx hb dX5_waitOf_19 (by decide) (fun c_4 => ?_) (fun c_4 => ?_)
    · refine lv_aload_n hx hb dX5_waitOf_31 rfl (lv_at hl 1 rfl) ?_
      refine k_get X hW inG5 rfl 0 (by decide) fl_X5_7 rfl 0 rfl (v := .ref (a 1)) rfl dX5_waitOf_32 ?_
      refine lv_iconst (v := nI 4) hx hb dX5_waitOf_35 (by decide +kernel) ?_
      refine k_iald X hW 1 rfl (j := 4) (v := f 4) rfl (by decide) (by decide) rfl dX5_waitOf_36 ?_
      refine lv_aload_n hx hb dX5_waitOf_37 rfl (lv_at hl 1 rfl) ?_
      refine lv_iload_n hx hb dX5_waitOf_38 rfl (lv_at hl 2 rfl) ?_
      refine lv_iconst (v := nI 1) hx hb dX5_waitOf_39 (by decide +kernel) ?_
      obtain ⟨z_5, hz_5⟩ : ∃ zq, m_X5_frameAt_r f fr 1 = zq := ⟨_, rfl⟩
      have hM_6 := (c_X5_frameAt l D k a z f kp hi sl sv tx td fr 1 (by first | decide | omega) (by first | decide | omega))
      rw [hz_5] at hM_6
      refine kVi (As := [.int (nI fr), .int (nI 1)]) (rest := [.int (f 4)]) X hW hM_6 yw_X5_frameAt lk_X5_45 ⟨Nat.le_of_ble_eq_true rfl, Nat.le_of_ble_eq_true rfl⟩ (wr := []) (List.Perm.refl _) (w' := refW k a z f kp hi sl sv tx td) (List.Perm.refl _) (k_rcv X hW (ci := 5) (q0 := 0) rfl rfl) rfl hl.1 rfl (Nat.le_of_ble_eq_true rfl) ⟨Nat.zero_le _, Nat.zero_le _⟩ dX5_waitOf_40 (fun H locs hW => ?_)
      refine lv_isub hx hb dX5_waitOf_43 ?_
      exact hQ _ _ _ _ _ _ hW dX5_waitOf_44 (by subst hz_5; subst hz_1; rw [m_X5_waitOf_r, if_neg c_3, if_neg c_4]) rfl
    · refine lv_aload_n hx hb dX5_waitOf_22 rfl (lv_at hl 1 rfl) ?_
      refine lv_iload_n hx hb dX5_waitOf_23 rfl (lv_at hl 2 rfl) ?_
      refine lv_iconst (v := nI 3) hx hb dX5_waitOf_24 (by decide +kernel) ?_
      obtain ⟨z_7, hz_7⟩ : ∃ zq, m_X5_frameAt_r f fr 3 = zq := ⟨_, rfl⟩
      have hM_8 := (c_X5_frameAt l D k a z f kp hi sl sv tx td fr 3 (by first | decide | omega) (by first | decide | omega))
      rw [hz_7] at hM_8
      refine kVi (As := [.int (nI fr), .int (nI 3)]) (rest := []) X hW hM_8 yw_X5_frameAt lk_X5_45 ⟨Nat.le_of_ble_eq_true rfl, Nat.le_of_ble_eq_true rfl⟩ (wr := []) (List.Perm.refl _) (w' := refW k a z f kp hi sl sv tx td) (List.Perm.refl _) (k_rcv X hW (ci := 5) (q0 := 0) rfl rfl) rfl hl.1 rfl (Nat.le_of_ble_eq_true rfl) ⟨Nat.zero_le _, Nat.zero_le _⟩ dX5_waitOf_25 (fun H locs hW => ?_)
      refine lv_goto (tgt := 44) hx hb dX5_waitOf_28 (by decide) ?_
      exact hQ _ _ _ _ _ _ hW dX5_waitOf_44 (by subst hz_7; subst hz_1; rw [m_X5_waitOf_r, if_neg c_3, if_pos c_4]) rfl
  · refine lv_bipush (v := (-6)) hx hb dX5_waitOf_12 (by decide +kernel) ?_
    refine lv_goto (tgt := 44) hx hb dX5_waitOf_14 (by decide) ?_
    exact hQ _ _ _ _ _ _ hW dX5_waitOf_44 (by subst hz_1; rw [m_X5_waitOf_r, if_pos c_3]) rfl
def m_X5_why_r (f : Nat → Int32) (x : Int32) : Int32 := if (m_X5_isQueue_r x) = 0 then (-1) else (m_X5_reason_r f (tn x))
set_option maxHeartbeats 4000000 in
set_option maxRecDepth 100000 in
theorem c_X5_why (l : Launch) (D : va_G) (k : Nat → ClassId) (a : Nat → Nat) (z : Nat → Int32) (f : Nat → Int32) (kp : Nat → Int32) (hi : Nat → Int32) (sl : Nat → Int32) (sv : Nat → Int32) (tx : Nat → Int32) (td : Nat → Int32) (x : Int32) (hf : WF f)  : mI l yX5_why (wsY yX5_why cX5_why 2 (some .int)) 4 D k [.ref (a 0), .int x] (refW k a z f kp hi sl sv tx td) (refW k a z f kp hi sl sv tx td) (m_X5_why_r f x) := by
  refine mI_intro rfl (Nat.le_of_ble_eq_true rfl) (Or.inl rfl) ?_
  intro p e s m args below meth c A Q ls X hW hl hQ
  have hx := X.hx
  have hb := X.hb
  have hl : lv_has ls 2 [(0, .ref (a 0)), (1, .int x)] := hl
  have hq_1 := hf.1.2
  have hq_2 := hf.2.1.2
  have hq_3 := hf.2.2.1.2
  refine lv_iload_n hx hb dX5_why_0 rfl (lv_at hl 1 rfl) ?_
  obtain ⟨z_4, hz_4⟩ : ∃ zq, m_X5_isQueue_r x = zq := ⟨_, rfl⟩
  have hM_5 := (c_X5_isQueue l D k x)
  rw [hz_4] at hM_5
  refine kSi (As := [.int x]) (rest := []) X hW hM_5 yw_X5_isQueue lk_X5_106 ⟨Nat.le_of_ble_eq_true rfl, Nat.le_of_ble_eq_true rfl⟩ rfl hl.1 rfl (Nat.le_of_ble_eq_true rfl) ⟨Nat.zero_le _, Nat.zero_le _⟩ dX5_why_1 (fun H locs hW => ?_)
  refine lv_if_eq (tgt := 15) hx hb dX5_why_4 (by decide) (fun c_6 => ?_) (fun c_6 => ?_)
  · refine lv_iconst (v := (-1)) hx hb dX5_why_15 (by decide +kernel) ?_
    exact hQ _ _ _ _ _ _ hW dX5_why_16 (by subst hz_4; rw [m_X5_why_r, if_pos c_6]) rfl
  · obtain ⟨hs_7, ht_7⟩ := rq3 (x := x) (by rw [hz_4]; exact c_6)
    refine lv_aload_n hx hb dX5_why_7 rfl (lv_at hl 0 rfl) ?_
    refine lv_iload_n hx hb dX5_why_8 rfl (lv_at hl 1 rfl) ?_
    refine k_top (y := nI (tn x)) (hs_7) ?_
    obtain ⟨z_8, hz_8⟩ : ∃ zq, m_X5_reason_r f (tn x) = zq := ⟨_, rfl⟩
    have hM_9 := (c_X5_reason l D k a z f kp hi sl sv tx td (tn x) hf (by first | decide | omega))
    rw [hz_8] at hM_9
    refine kVi (As := [.int (nI (tn x))]) (rest := []) X hW hM_9 yw_X5_reason lk_X5_80 ⟨Nat.le_of_ble_eq_true rfl, Nat.le_of_ble_eq_true rfl⟩ (wr := []) (List.Perm.refl _) (w' := refW k a z f kp hi sl sv tx td) (List.Perm.refl _) (k_rcv X hW (ci := 5) (q0 := 0) rfl rfl) rfl hl.1 rfl (Nat.le_of_ble_eq_true rfl) ⟨Nat.zero_le _, Nat.zero_le _⟩ dX5_why_9 (fun H locs hW => ?_)
    refine lv_goto (tgt := 16) hx hb dX5_why_12 (by decide) ?_
    exact hQ _ _ _ _ _ _ hW dX5_why_16 (by subst hz_8; subst hz_4; rw [m_X5_why_r, if_neg c_6]) rfl
def m_X5_frame_r (f : Nat → Int32) (x : Int32) (w : Int32) : Int32 := if (m_X5_isFrame_r f x) = 0 then (-1) else if (m_X5_in_r ((w).toInt64) 0 2) = 0 then (if w = nI 3 then (m_X5_waitOf_r f (tn x)) else (-2)) else (m_X5_frameAt_r f (tn x) (tn w))
set_option maxHeartbeats 4000000 in
set_option maxRecDepth 100000 in
theorem c_X5_frame (l : Launch) (D : va_G) (k : Nat → ClassId) (a : Nat → Nat) (z : Nat → Int32) (f : Nat → Int32) (kp : Nat → Int32) (hi : Nat → Int32) (sl : Nat → Int32) (sv : Nat → Int32) (tx : Nat → Int32) (td : Nat → Int32) (x : Int32) (w : Int32) (hf : WF f)  : mI l yX5_frame (wsY yX5_frame cX5_frame 3 (some .int)) 2 D k [.ref (a 0), .int x, .int w] (refW k a z f kp hi sl sv tx td) (refW k a z f kp hi sl sv tx td) (m_X5_frame_r f x w) := by
  refine mI_intro rfl (Nat.le_of_ble_eq_true rfl) (Or.inl rfl) ?_
  intro p e s m args below meth c A Q ls X hW hl hQ
  have hx := X.hx
  have hb := X.hb
  have hl : lv_has ls 3 [(0, .ref (a 0)), (1, .int x), (2, .int w)] := hl
  have hq_1 := hf.1.2
  have hq_2 := hf.2.1.2
  have hq_3 := hf.2.2.1.2
  refine lv_aload_n hx hb dX5_frame_0 rfl (lv_at hl 0 rfl) ?_
  refine lv_iload_n hx hb dX5_frame_1 rfl (lv_at hl 1 rfl) ?_
  obtain ⟨z_4, hz_4⟩ : ∃ zq, m_X5_isFrame_r f x = zq := ⟨_, rfl⟩
  have hM_5 := (c_X5_isFrame l D k a z f kp hi sl sv tx td x hf)
  rw [hz_4] at hM_5
  refine kVi (As := [.int x]) (rest := []) X hW hM_5 yw_X5_isFrame lk_X5_126 ⟨Nat.le_of_ble_eq_true rfl, Nat.le_of_ble_eq_true rfl⟩ (wr := []) (List.Perm.refl _) (w' := refW k a z f kp hi sl sv tx td) (List.Perm.refl _) (k_rcv X hW (ci := 5) (q0 := 0) rfl rfl) rfl hl.1 rfl (Nat.le_of_ble_eq_true rfl) ⟨Nat.zero_le _, Nat.zero_le _⟩ dX5_frame_2 (fun H locs hW => ?_)
  refine lv_if_ne (tgt := 10) hx hb dX5_frame_5 (by decide) (fun c_6 => ?_) (fun c_6 => ?_)
  · obtain ⟨hs_7, ht_7⟩ := in_f (x := x) hf.1.2 (by have e : m_X5_isFrame_r f x = z_4 := hz_4; rw [m_X5_isFrame_r] at e; rw [e]; exact c_6)
    have hu_7 := hf.1.2
    refine lv_iload_n hx hb dX5_frame_10 rfl (lv_at hl 2 rfl) ?_
    refine lv_i2l hx hb dX5_frame_11 rfl ?_
    refine lv_lconst (v := 0) hx hb dX5_frame_12 (by decide +kernel) ?_
    refine lv_ldc2 hx hb X.hown (X.wd kl_X5_39) dX5_frame_13 ?_
    obtain ⟨z_8, hz_8⟩ : ∃ zq, m_X5_in_r ((w).toInt64) 0 2 = zq := ⟨_, rfl⟩
    have hM_9 := (c_X5_in l D k ((w).toInt64) 0 2)
    rw [hz_8] at hM_9
    refine kSi (As := [.long ((w).toInt64), .long 0, .long 2]) (rest := []) X hW hM_9 yw_X5_in lk_X5_41 ⟨Nat.le_of_ble_eq_true rfl, Nat.le_of_ble_eq_true rfl⟩ rfl hl.1 rfl (Nat.le_of_ble_eq_true rfl) ⟨Nat.zero_le _, Nat.zero_le _⟩ dX5_frame_16 (fun H locs hW => ?_)
    refine lv_if_eq (tgt := 31) hx hb dX5_frame_19 (by decide) (fun c_10 => ?_) (fun c_10 => ?_)
    · refine lv_iload_n hx hb dX5_frame_31 rfl (lv_at hl 2 rfl) ?_
      refine lv_iconst (v := nI 3) hx hb dX5_frame_32 (by decide +kernel) ?_
      refine lv_icmp_ne (tgt := 44) hx hb dX5_frame_33 (by decide) (fun c_11 => ?_) (fun c_11 => ?_)
      · refine lv_bipush (v := (-2)) hx hb dX5_frame_44 (by decide +kernel) ?_
        exact hQ _ _ _ _ _ _ hW dX5_frame_46 (by subst hz_8; subst hz_4; rw [m_X5_frame_r, if_neg c_6, if_pos c_10, if_neg c_11]) rfl
      · refine lv_aload_n hx hb dX5_frame_36 rfl (lv_at hl 0 rfl) ?_
        refine lv_iload_n hx hb dX5_frame_37 rfl (lv_at hl 1 rfl) ?_
        refine k_top (y := nI (tn x)) (hs_7) ?_
        obtain ⟨z_12, hz_12⟩ : ∃ zq, m_X5_waitOf_r f (tn x) = zq := ⟨_, rfl⟩
        have hM_13 := (c_X5_waitOf l D k a z f kp hi sl sv tx td (tn x) (by omega))
        rw [hz_12] at hM_13
        refine kVi (As := [.int (nI (tn x))]) (rest := []) X hW hM_13 yw_X5_waitOf lk_X5_129 ⟨Nat.le_of_ble_eq_true rfl, Nat.le_of_ble_eq_true rfl⟩ (wr := []) (List.Perm.refl _) (w' := refW k a z f kp hi sl sv tx td) (List.Perm.refl _) (k_rcv X hW (ci := 5) (q0 := 0) rfl rfl) rfl hl.1 rfl (Nat.le_of_ble_eq_true rfl) ⟨Nat.zero_le _, Nat.zero_le _⟩ dX5_frame_38 (fun H locs hW => ?_)
        refine lv_goto (tgt := 46) hx hb dX5_frame_41 (by decide) ?_
        exact hQ _ _ _ _ _ _ hW dX5_frame_46 (by subst hz_12; subst hz_8; subst hz_4; rw [m_X5_frame_r, if_neg c_6, if_pos c_10, if_pos c_11]) rfl
    · obtain ⟨hs_14, ht_14, hv_14⟩ := in_n (x := w) (lo := 0) (up := 2) (a := 0) (b := 2) rfl rfl (by decide) (by rw [hz_8]; exact c_10)
      refine lv_aload_n hx hb dX5_frame_22 rfl (lv_at hl 0 rfl) ?_
      refine lv_iload_n hx hb dX5_frame_23 rfl (lv_at hl 1 rfl) ?_
      refine k_top (y := nI (tn x)) (hs_7) ?_
      refine lv_iload_n hx hb dX5_frame_24 rfl (lv_at hl 2 rfl) ?_
      refine k_top (y := nI (tn w)) (hs_14) ?_
      obtain ⟨z_15, hz_15⟩ : ∃ zq, m_X5_frameAt_r f (tn x) (tn w) = zq := ⟨_, rfl⟩
      have hM_16 := (c_X5_frameAt l D k a z f kp hi sl sv tx td (tn x) (tn w) (by first | decide | omega) (by first | decide | omega))
      rw [hz_15] at hM_16
      refine kVi (As := [.int (nI (tn x)), .int (nI (tn w))]) (rest := []) X hW hM_16 yw_X5_frameAt lk_X5_45 ⟨Nat.le_of_ble_eq_true rfl, Nat.le_of_ble_eq_true rfl⟩ (wr := []) (List.Perm.refl _) (w' := refW k a z f kp hi sl sv tx td) (List.Perm.refl _) (k_rcv X hW (ci := 5) (q0 := 0) rfl rfl) rfl hl.1 rfl (Nat.le_of_ble_eq_true rfl) ⟨Nat.zero_le _, Nat.zero_le _⟩ dX5_frame_25 (fun H locs hW => ?_)
      refine lv_goto (tgt := 46) hx hb dX5_frame_28 (by decide) ?_
      exact hQ _ _ _ _ _ _ hW dX5_frame_46 (by subst hz_15; subst hz_8; subst hz_4; rw [m_X5_frame_r, if_neg c_6, if_neg c_10]) rfl
  · refine lv_iconst (v := (-1)) hx hb dX5_frame_8 (by decide +kernel) ?_
    exact hQ _ _ _ _ _ _ hW dX5_frame_9 (by subst hz_4; rw [m_X5_frame_r, if_pos c_6]) rfl
def m_X5_row_r (f : Nat → Int32) (x : Int32) : Int32 := if (m_X5_in_r ((x).toInt64) 0 (((nI (tn (f 6))).toInt64) - 1)) = 0 then (-1) else f (7 + (tn x))
set_option maxHeartbeats 4000000 in
set_option maxRecDepth 100000 in
theorem c_X5_row (l : Launch) (D : va_G) (k : Nat → ClassId) (a : Nat → Nat) (z : Nat → Int32) (f : Nat → Int32) (kp : Nat → Int32) (hi : Nat → Int32) (sl : Nat → Int32) (sv : Nat → Int32) (tx : Nat → Int32) (td : Nat → Int32) (x : Int32) (hf : WF f)  : mI l yX5_row (wsY yX5_row cX5_row 2 (some .int)) 1 D k [.ref (a 0), .int x] (refW k a z f kp hi sl sv tx td) (refW k a z f kp hi sl sv tx td) (m_X5_row_r f x) := by
  refine mI_intro rfl (Nat.le_of_ble_eq_true rfl) (Or.inl rfl) ?_
  intro p e s m args below meth c A Q ls X hW hl hQ
  have hx := X.hx
  have hb := X.hb
  have hl : lv_has ls 2 [(0, .ref (a 0)), (1, .int x)] := hl
  have hq_1 := hf.1.2
  have hq_2 := hf.2.1.2
  have hq_3 := hf.2.2.1.2
  refine lv_iload_n hx hb dX5_row_0 rfl (lv_at hl 1 rfl) ?_
  refine lv_i2l hx hb dX5_row_1 rfl ?_
  refine lv_lconst (v := 0) hx hb dX5_row_2 (by decide +kernel) ?_
  refine lv_aload_n hx hb dX5_row_3 rfl (lv_at hl 0 rfl) ?_
  refine k_get X hW inG5 rfl 0 (by decide) fl_X5_7 rfl 0 rfl (v := .ref (a 1)) rfl dX5_row_4 ?_
  refine lv_bipush (v := nI 6) hx hb dX5_row_7 (by decide +kernel) ?_
  refine k_iald X hW 1 rfl (j := 6) (v := f 6) rfl (by decide) (by decide) rfl dX5_row_9 ?_
  refine k_top (y := nI (tn (f 6))) (hf.2.1.1) ?_
  refine lv_i2l hx hb dX5_row_10 rfl ?_
  refine lv_lconst (v := 1) hx hb dX5_row_11 (by decide +kernel) ?_
  refine lv_lsub hx hb dX5_row_12 ?_
  obtain ⟨z_4, hz_4⟩ : ∃ zq, m_X5_in_r ((x).toInt64) 0 (((nI (tn (f 6))).toInt64) - 1) = zq := ⟨_, rfl⟩
  have hM_5 := (c_X5_in l D k ((x).toInt64) 0 (((nI (tn (f 6))).toInt64) - 1))
  rw [hz_4] at hM_5
  refine kSi (As := [.long ((x).toInt64), .long 0, .long (((nI (tn (f 6))).toInt64) - 1)]) (rest := []) X hW hM_5 yw_X5_in lk_X5_41 ⟨Nat.le_of_ble_eq_true rfl, Nat.le_of_ble_eq_true rfl⟩ rfl hl.1 rfl (Nat.le_of_ble_eq_true rfl) ⟨Nat.zero_le _, Nat.zero_le _⟩ dX5_row_13 (fun H locs hW => ?_)
  refine lv_if_eq (tgt := 31) hx hb dX5_row_16 (by decide) (fun c_6 => ?_) (fun c_6 => ?_)
  · refine lv_iconst (v := (-1)) hx hb dX5_row_31 (by decide +kernel) ?_
    exact hQ _ _ _ _ _ _ hW dX5_row_32 (by subst hz_4; rw [m_X5_row_r, if_pos c_6]) rfl
  · obtain ⟨hs_7, ht_7⟩ := in_f (x := x) (n := tn (f 6)) (by omega) (by rw [hz_4]; exact c_6)
    refine lv_aload_n hx hb dX5_row_19 rfl (lv_at hl 0 rfl) ?_
    refine k_get X hW inG5 rfl 0 (by decide) fl_X5_7 rfl 0 rfl (v := .ref (a 1)) rfl dX5_row_20 ?_
    refine lv_bipush (v := nI 7) hx hb dX5_row_23 (by decide +kernel) ?_
    refine lv_iload_n hx hb dX5_row_25 rfl (lv_at hl 1 rfl) ?_
    refine k_top (y := nI (tn x)) (hs_7) ?_
    refine lv_iadd hx hb dX5_row_26 ?_
    refine k_top (y := nI (7 + (tn x))) (nI_add _ _) ?_
    refine k_iald X hW 1 rfl (j := (7 + (tn x))) (v := f (7 + (tn x))) rfl (by omega) (by decide) rfl dX5_row_27 ?_
    refine lv_goto (tgt := 32) hx hb dX5_row_28 (by decide) ?_
    exact hQ _ _ _ _ _ _ hW dX5_row_32 (by subst hz_4; rw [m_X5_row_r, if_neg c_6]) rfl
