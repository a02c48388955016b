def lp_sh  : Nat → Nat → (Nat → Int32) → (Nat → Int32)
  | 0, _, y => y
  | r + 1, i, y => lp_sh  r (i + 1) (upd y i (y (i + 1640)))
def lp_ch (f : Nat → Int32) (mm : Nat) : Nat → Nat → (Nat → Int32) → (Nat → Int32)
  | 0, _, y => y
  | r + 1, i, y => lp_ch f mm r (i + 1) (upd y (1640 * mm + i) (f i))
def m_X5_changes_z (z : Nat → Int32) : Nat → Int32 := if tn (z 3) = 6 then upd (upd z 3 (nI (tn (z 3) - 1))) 3 (nI (tn (z 3) - 1 + 1)) else upd z 3 (nI (tn (z 3) + 1))
def m_X5_changes_hi (z : Nat → Int32) (f : Nat → Int32) (hi : Nat → Int32) : Nat → Int32 := if tn (z 3) = 6 then lp_ch f (tn (z 3) - 1) 1640 0 (lp_sh 8200 0 hi) else lp_ch f (tn (z 3)) 1640 0 hi
set_option maxHeartbeats 4000000 in
set_option maxRecDepth 100000 in
theorem c_X5_changes (l : Launch) (D : va_G) (k : Nat → ClassId) (a : Nat → Nat) (z : Nat → Int32) (f : Nat → Int32) (kp : Nat → Int32) (hi : Nat → Int32) (sl : Nat → Int32) (sv : Nat → Int32) (tx : Nat → Int32) (td : Nat → Int32)  (hz : z 3 = nI (tn (z 3))) (hz6 : tn (z 3) ≤ 6)  : mV l yX5_changes (wsY yX5_changes cX5_changes 2 none) 0 D k [.ref (a 0)] (refW k a z f kp hi sl sv tx td) (refW k a (m_X5_changes_z z) f kp (m_X5_changes_hi z f hi) sl sv tx td) := by
  refine mV_intro rfl (Nat.le_of_ble_eq_true rfl) ?_
  intro p e s m args below meth c A Q ls X hW hl hQ
  have hx := X.hx
  have hb := X.hb
  have hl : lv_has ls 2 [(0, .ref (a 0))] := hl
  have ky : ∀ (z1 y0 : Nat → Int32) (mm : Nat) (H : Heap) (locs : List Loc) (ls : Array Slot), z1 3 = nI mm → mm ≤ 5 → m_X5_changes_z z = upd z1 3 (nI (mm + 1)) → m_X5_changes_hi z f hi = lp_ch f mm 1640 0 y0 → KW D A s (refW k a z1 f kp y0 sl sv tx td) H locs → lv_has ls 2 [(0, .ref (a 0))] → W p l e (rmD 0) s m args below meth c H locs 0 0 Q (F0 m 50 ls []) := by
    intro z1 y0 mm H locs ls h3 hm hu hv hW hl
    refine lv_iconst (v := nI 0) hx hb dX5_changes_50 (by decide +kernel) ?_
    refine lv_istore_n (lv' := [(1, .int (nI 0)), (0, .ref (a 0))]) hx hb dX5_changes_51 rfl hl (by decide) rfl (fun ls hl => ?_)
    have lp52 : ∀ (r i : Nat) (y' : Nat → Int32) (H : Heap) (locs : List Loc) (ls : Array Slot), i + r = 1640 → lp_ch f mm 1640 0 y0 = lp_ch f mm r i y' → KW D A s (refW k a z1 f kp y' sl sv tx td) H locs → lv_has ls 2 [(1, .int (nI i)), (0, .ref (a 0))] → W p l e (rmD 0) s m args below meth c H locs 0 0 Q (F0 m 52 ls []) := by
      intro r
      induction r with
      | zero =>
        intro i y' H locs ls hir hy hW hl
        replace hy : lp_ch f mm 1640 0 y0 = y' := hy
        refine lv_iload_n hx hb dX5_changes_52 rfl (lv_at hl 0 rfl) ?_
        refine lv_sipush (v := nI 1640) hx hb dX5_changes_53 (by decide +kernel) ?_
        refine lv_icmp_ge (tgt := 86) hx hb dX5_changes_56 (by decide) (fun c_1 => ?_) (fun c_1 => ?_)
        · have c_1 : 1640 ≤ i := (nI_leI (a := 1640) (b := i) (by omega) (by omega)).mp c_1
          refine lv_aload_n hx hb dX5_changes_86 rfl (lv_at hl 1 rfl) ?_
          refine lv_dup hx hb dX5_changes_87 rfl ?_
          refine k_get X hW inG5 rfl 3 (by decide) fl_X5_35 rfl 0 rfl (v := .int (z1 3)) rfl dX5_changes_88 ?_
          refine k_top (y := nI mm) (h3) ?_
          refine lv_iconst (v := nI 1) hx hb dX5_changes_91 (by decide +kernel) ?_
          refine lv_iadd hx hb dX5_changes_92 ?_
          refine k_top (y := nI (mm + 1)) (nI_add _ _) ?_
          refine k_put X hW inG5 rfl tyX5_ok nmX5 3 (by decide) fl_X5_35 rfl rfl 0 rfl rfl rfl (Nat.le_of_ble_eq_true rfl) dX5_changes_93 (w' := refW k a (upd z1 3 (nI (mm + 1))) f kp y' sl sv tx td) rfl (fun H locs hW => ?_)
          exact hQ _ _ _ _ _ hW dX5_changes_96 (by rw [hu, hv, hy])
        · have c_1 : ¬ (1640 ≤ i) := fun h => c_1 ((nI_leI (a := 1640) (b := i) (by omega) (by omega)).mpr h)
          omega
      | succ r ih52 =>
        intro i y' H locs ls hir hy hW hl
        refine lv_iload_n hx hb dX5_changes_52 rfl (lv_at hl 0 rfl) ?_
        refine lv_sipush (v := nI 1640) hx hb dX5_changes_53 (by decide +kernel) ?_
        refine lv_icmp_ge (tgt := 86) hx hb dX5_changes_56 (by decide) (fun c_2 => ?_) (fun c_2 => ?_)
        · have c_2 : 1640 ≤ i := (nI_leI (a := 1640) (b := i) (by omega) (by omega)).mp c_2
          omega
        · have c_2 : ¬ (1640 ≤ i) := fun h => c_2 ((nI_leI (a := 1640) (b := i) (by omega) (by omega)).mpr h)
          refine lv_aload_n hx hb dX5_changes_59 rfl (lv_at hl 1 rfl) ?_
          refine k_get X hW inG5 rfl 2 (by decide) fl_X5_16 rfl 0 rfl (v := .ref (a 3)) rfl dX5_changes_60 ?_
          refine lv_sipush (v := nI 1640) hx hb dX5_changes_63 (by decide +kernel) ?_
          refine lv_aload_n hx hb dX5_changes_66 rfl (lv_at hl 1 rfl) ?_
          refine k_get X hW inG5 rfl 3 (by decide) fl_X5_35 rfl 0 rfl (v := .int (z1 3)) rfl dX5_changes_67 ?_
          refine k_top (y := nI mm) (h3) ?_
          refine lv_imul hx hb dX5_changes_70 ?_
          refine k_top (y := nI (1640 * mm)) (pk_mul _ _) ?_
          refine lv_iload_n hx hb dX5_changes_71 rfl (lv_at hl 0 rfl) ?_
          refine lv_iadd hx hb dX5_changes_72 ?_
          refine k_top (y := nI (1640 * mm + i)) (nI_add _ _) ?_
          refine lv_aload_n hx hb dX5_changes_73 rfl (lv_at hl 1 rfl) ?_
          refine k_get X hW inG5 rfl 0 (by decide) fl_X5_7 rfl 0 rfl (v := .ref (a 1)) rfl dX5_changes_74 ?_
          refine lv_iload_n hx hb dX5_changes_77 rfl (lv_at hl 0 rfl) ?_
          refine k_iald X hW 1 rfl (j := i) (v := f i) rfl (by omega) (by decide) rfl dX5_changes_78 ?_
          refine k_iast X hW 3 rfl (j := (1640 * mm + i)) rfl (by omega) (by decide) dX5_changes_79 (w' := refW k a z1 f kp (upd y' (1640 * mm + i) (f i)) sl sv tx td) rfl (fun H locs hW => ?_)
          refine lv_iinc (v := nI (i + 1)) (lv' := [(1, .int (nI (i + 1))), (0, .ref (a 0))]) hx hb dX5_changes_80 hl (k := 0) rfl (k_inc _) (by decide) rfl (fun ls hl => ?_)
          refine lv_goto (tgt := 52) hx hb dX5_changes_83 (by decide) ?_
          exact ih52 (i + 1) _ _ _ _ (by omega) (by rw [hy, lp_ch]) hW (lv_sub hl [0, 1] rfl)
    exact lp52 1640 0 _ _ _ _ (by omega) rfl hW (lv_sub hl [0, 1] rfl)
  refine lv_aload_n hx hb dX5_changes_0 rfl (lv_at hl 0 rfl) ?_
  refine k_get X hW inG5 rfl 3 (by decide) fl_X5_35 rfl 0 rfl (v := .int (z 3)) rfl dX5_changes_1 ?_
  refine k_top (y := nI (tn (z 3))) (hz) ?_
  refine lv_bipush (v := nI 6) hx hb dX5_changes_4 (by decide +kernel) ?_
  refine lv_icmp_ne (tgt := 50) hx hb dX5_changes_6 (by decide) (fun c_3 => ?_) (fun c_3 => ?_)
  · have c_3 : ¬ (tn (z 3) = 6) := fun h => c_3 ((nI_eq (a := tn (z 3)) (b := 6) (by omega) (by omega)).mpr h)
    exact ky z hi (tn (z 3)) _ _ _ hz (by omega) (by rw [m_X5_changes_z, if_neg c_3]) (by rw [m_X5_changes_hi, if_neg c_3]) hW (lv_sub hl [0] rfl)
  · have c_3 : tn (z 3) = 6 := (nI_eq (a := tn (z 3)) (b := 6) (by omega) (by omega)).mp c_3
    refine lv_iconst (v := nI 0) hx hb dX5_changes_9 (by decide +kernel) ?_
    refine lv_istore_n (lv' := [(1, .int (nI 0)), (0, .ref (a 0))]) hx hb dX5_changes_10 rfl hl (by decide) rfl (fun ls hl => ?_)
    have lp11 : ∀ (r i : Nat) (y' : Nat → Int32) (H : Heap) (locs : List Loc) (ls : Array Slot), i + r = 8200 → lp_sh  8200 0 hi = lp_sh  r i y' → KW D A s (refW k a z f kp y' sl sv tx td) H locs → lv_has ls 2 [(1, .int (nI i)), (0, .ref (a 0))] → W p l e (rmD 0) s m args below meth c H locs 0 0 Q (F0 m 11 ls []) := by
      intro r
      induction r with
      | zero =>
        intro i y' H locs ls hir hy hW hl
        replace hy : lp_sh  8200 0 hi = y' := hy
        refine lv_iload_n hx hb dX5_changes_11 rfl (lv_at hl 0 rfl) ?_
        refine lv_sipush (v := nI 8200) hx hb dX5_changes_12 (by decide +kernel) ?_
        refine lv_icmp_ge (tgt := 40) hx hb dX5_changes_15 (by decide) (fun c_4 => ?_) (fun c_4 => ?_)
        · have c_4 : 8200 ≤ i := (nI_leI (a := 8200) (b := i) (by omega) (by omega)).mp c_4
          refine lv_aload_n hx hb dX5_changes_40 rfl (lv_at hl 1 rfl) ?_
          refine lv_dup hx hb dX5_changes_41 rfl ?_
          refine k_get X hW inG5 rfl 3 (by decide) fl_X5_35 rfl 0 rfl (v := .int (z 3)) rfl dX5_changes_42 ?_
          refine k_top (y := nI (tn (z 3))) (hz) ?_
          refine lv_iconst (v := nI 1) hx hb dX5_changes_45 (by decide +kernel) ?_
          refine lv_isub hx hb dX5_changes_46 ?_
          refine k_top (y := nI ((tn (z 3)) - 1)) (pk_sub (by omega)) ?_
          refine k_put X hW inG5 rfl tyX5_ok nmX5 3 (by decide) fl_X5_35 rfl rfl 0 rfl rfl rfl (Nat.le_of_ble_eq_true rfl) dX5_changes_47 (w' := refW k a (upd z 3 (nI ((tn (z 3)) - 1))) f kp y' sl sv tx td) rfl (fun H locs hW => ?_)
          exact ky (upd z 3 (nI (tn (z 3) - 1))) y' (tn (z 3) - 1) _ _ _ rfl (by omega) (by rw [m_X5_changes_z, if_pos c_3]) (by rw [m_X5_changes_hi, if_pos c_3, hy]) hW (lv_sub hl [1] rfl)
        · have c_4 : ¬ (8200 ≤ i) := fun h => c_4 ((nI_leI (a := 8200) (b := i) (by omega) (by omega)).mpr h)
          omega
      | succ r ih11 =>
        intro i y' H locs ls hir hy hW hl
        refine lv_iload_n hx hb dX5_changes_11 rfl (lv_at hl 0 rfl) ?_
        refine lv_sipush (v := nI 8200) hx hb dX5_changes_12 (by decide +kernel) ?_
        refine lv_icmp_ge (tgt := 40) hx hb dX5_changes_15 (by decide) (fun c_5 => ?_) (fun c_5 => ?_)
        · have c_5 : 8200 ≤ i := (nI_leI (a := 8200) (b := i) (by omega) (by omega)).mp c_5
          omega
        · have c_5 : ¬ (8200 ≤ i) := fun h => c_5 ((nI_leI (a := 8200) (b := i) (by omega) (by omega)).mpr h)
          refine lv_aload_n hx hb dX5_changes_18 rfl (lv_at hl 1 rfl) ?_
          refine k_get X hW inG5 rfl 2 (by decide) fl_X5_16 rfl 0 rfl (v := .ref (a 3)) rfl dX5_changes_19 ?_
          refine lv_iload_n hx hb dX5_changes_22 rfl (lv_at hl 0 rfl) ?_
          refine lv_aload_n hx hb dX5_changes_23 rfl (lv_at hl 1 rfl) ?_
          refine k_get X hW inG5 rfl 2 (by decide) fl_X5_16 rfl 0 rfl (v := .ref (a 3)) rfl dX5_changes_24 ?_
          refine lv_iload_n hx hb dX5_changes_27 rfl (lv_at hl 0 rfl) ?_
          refine lv_sipush (v := nI 1640) hx hb dX5_changes_28 (by decide +kernel) ?_
          refine lv_iadd hx hb dX5_changes_31 ?_
          refine k_top (y := nI (i + 1640)) (nI_add _ _) ?_
          refine k_iald X hW 3 rfl (j := (i + 1640)) (v := y' (i + 1640)) rfl (by omega) (by decide) rfl dX5_changes_32 ?_
          refine k_iast X hW 3 rfl (j := i) rfl (by omega) (by decide) dX5_changes_33 (w' := refW k a z f kp (upd y' i (y' (i + 1640))) sl sv tx td) rfl (fun H locs hW => ?_)
          refine lv_iinc (v := nI (i + 1)) (lv' := [(1, .int (nI (i + 1))), (0, .ref (a 0))]) hx hb dX5_changes_34 hl (k := 0) rfl (k_inc _) (by decide) rfl (fun ls hl => ?_)
          refine lv_goto (tgt := 11) hx hb dX5_changes_37 (by decide) ?_
          exact ih11 (i + 1) _ _ _ _ (by omega) (by rw [hy, lp_sh]) hW (lv_sub hl [0, 1] rfl)
    exact lp11 8200 0 _ _ _ _ (by omega) rfl hW (lv_sub hl [0, 1] rfl)
theorem set_n {x v : Int32} (h : ¬ m_X5_isSetting_r x v = 0) : x = nI (tn x) ∧ tn x < 4 := by
  have key : ∀ j : Nat, j < 4 → x = nI j → x = nI (tn x) ∧ tn x < 4 := by
    intro j hj e
    rw [e, tn_of rfl (by omega)]
    exact ⟨rfl, hj⟩
  unfold m_X5_isSetting_r at h
  by_cases h0 : x = nI 0
  · exact key 0 (by decide) h0
  · rw [if_neg h0] at h
    by_cases h1 : x = nI 1
    · exact key 1 (by decide) h1
    · rw [if_neg h1] at h
      by_cases h2 : x = nI 2
      · exact key 2 (by decide) h2
      · rw [if_neg h2] at h
        by_cases h3 : x = nI 3
        · exact key 3 (by decide) h3
        · rw [if_neg h3] at h; exact absurd rfl h
theorem sl_n {x : Int32} (h : ¬ m_X5_isSlot_r x = 0) : x = nI (tn x) ∧ tn x < 2 := by
  have key : ∀ j : Nat, j < 2 → x = nI j → x = nI (tn x) ∧ tn x < 2 := by
    intro j hj e
    rw [e, tn_of rfl (by omega)]
    exact ⟨rfl, hj⟩
  unfold m_X5_isSlot_r at h
  by_cases h0 : x = 0
  · exact key 0 (by decide) h0
  · rw [if_neg h0] at h
    by_cases h1 : x = nI 1
    · exact key 1 (by decide) h1
    · rw [if_neg h1] at h; exact absurd rfl h
theorem at_n {x : Int32} (h : ¬ m_X5_areTicks_r x = 0) : x = nI (tn x) ∧ 1 ≤ tn x ∧ tn x ≤ 99 := in_n (x := x) (lo := 1) (up := 99) (a := 1) (b := 99) rfl rfl (by decide) (show ¬ m_X5_in_r x.toInt64 1 99 = 0 from h)
def m_X5_set_r (f : Nat → Int32) (x : Int32) (v : Int32) : Int32 := if (m_X5_isSetting_r x v) = 0 then (-2) else f (tn x)
def m_X5_set_z (z : Nat → Int32) (x : Int32) (v : Int32) : Nat → Int32 := if (m_X5_isSetting_r x v) = 0 then z else (m_X5_changes_z z)
def m_X5_set_f (f : Nat → Int32) (x : Int32) (v : Int32) : Nat → Int32 := if (m_X5_isSetting_r x v) = 0 then f else upd f (tn x) v
def m_X5_set_hi (z : Nat → Int32) (f : Nat → Int32) (hi : Nat → Int32) (x : Int32) (v : Int32) : Nat → Int32 := if (m_X5_isSetting_r x v) = 0 then hi else (m_X5_changes_hi z f hi)
set_option maxHeartbeats 4000000 in
set_option maxRecDepth 100000 in
theorem c_X5_set (l : Launch) (D : va_G) (k : Nat → ClassId) (a : Nat → Nat) (z : Nat → Int32) (f : Nat → Int32) (kp : Nat → Int32) (hi : Nat → Int32) (sl : Nat → Int32) (sv : Nat → Int32) (tx : Nat → Int32) (td : Nat → Int32) (x : Int32) (v : Int32) (hz : z 3 = nI (tn (z 3))) (hz6 : tn (z 3) ≤ 6)  : mI l yX5_set (wsY yX5_set cX5_set 4 (some .int)) 2 D k [.ref (a 0), .int x, .int v] (refW k a z f kp hi sl sv tx td) (refW k a (m_X5_set_z z x v) (m_X5_set_f f x v) kp (m_X5_set_hi z f hi x v) sl sv tx td) (m_X5_set_r f x v) := by
  refine mI_intro rfl (Nat.le_of_ble_eq_true rfl) (Or.inl rfl) ?_
  intro p e s m args below meth c A Q ls X hW hl hQ
  have hx := X.hx
  have hb := X.hb
  have hl : lv_has ls 4 [(0, .ref (a 0)), (1, .int x), (2, .int v)] := hl
  refine lv_iload_n hx hb dX5_set_0 rfl (lv_at hl 1 rfl) ?_
  refine lv_iload_n hx hb dX5_set_1 rfl (lv_at hl 2 rfl) ?_
  obtain ⟨z_1, hz_1⟩ : ∃ zq, m_X5_isSetting_r x v = zq := ⟨_, rfl⟩
  have hM_2 := (c_X5_isSetting l D k x v)
  rw [hz_1] at hM_2
  refine kSi (As := [.int x, .int v]) (rest := []) X hW hM_2 yw_X5_isSetting lk_X5_100 ⟨Nat.le_of_ble_eq_true rfl, Nat.le_of_ble_eq_true rfl⟩ rfl hl.1 rfl (Nat.le_of_ble_eq_true rfl) ⟨Nat.zero_le _, Nat.zero_le _⟩ dX5_set_2 (fun H locs hW => ?_)
  refine lv_if_ne (tgt := 11) hx hb dX5_set_5 (by decide) (fun c_3 => ?_) (fun c_3 => ?_)
  · obtain ⟨hs_4, ht_4⟩ := set_n (x := x) (v := v) (by rw [hz_1]; exact c_3)
    refine lv_aload_n hx hb dX5_set_11 rfl (lv_at hl 0 rfl) ?_
    obtain ⟨z_5, hz_5⟩ : ∃ zq, m_X5_changes_z z = zq := ⟨_, rfl⟩
    obtain ⟨z_6, hz_6⟩ : ∃ zq, m_X5_changes_hi z f hi = zq := ⟨_, rfl⟩
    have hM_7 := (c_X5_changes l D k a z f kp hi sl sv tx td  hz hz6)
    rw [hz_5, hz_6] at hM_7
    refine kVv (As := []) (rest := []) X hW hM_7 yw_X5_changes lk_X5_103 ⟨Nat.le_of_ble_eq_true rfl, Nat.le_of_ble_eq_true rfl⟩ (wr := []) (List.Perm.refl _) (w' := refW k a z_5 f kp z_6 sl sv tx td) (List.Perm.refl _) (k_rcv X hW (ci := 5) (q0 := 0) rfl rfl) rfl hl.1 rfl (Nat.le_of_ble_eq_true rfl) ⟨Nat.zero_le _, Nat.zero_le _⟩ dX5_set_12 (fun H locs hW => ?_)
    refine lv_aload_n hx hb dX5_set_15 rfl (lv_at hl 0 rfl) ?_
    refine k_get X hW inG5 rfl 0 (by decide) fl_X5_7 rfl 0 rfl (v := .ref (a 1)) rfl dX5_set_16 ?_
    refine lv_iload_n hx hb dX5_set_19 rfl (lv_at hl 1 rfl) ?_
    refine k_top (y := nI (tn x)) (hs_4) ?_
    refine k_iald X hW 1 rfl (j := (tn x)) (v := f (tn x)) rfl (by omega) (by decide) rfl dX5_set_20 ?_
    refine lv_istore_n (lv' := [(3, .int (f (tn x))), (0, .ref (a 0)), (1, .int x), (2, .int v)]) hx hb dX5_set_21 rfl hl (by decide) rfl (fun ls hl => ?_)
    refine lv_aload_n hx hb dX5_set_22 rfl (lv_at hl 1 rfl) ?_
    refine k_get X hW inG5 rfl 0 (by decide) fl_X5_7 rfl 0 rfl (v := .ref (a 1)) rfl dX5_set_23 ?_
    refine lv_iload_n hx hb dX5_set_26 rfl (lv_at hl 2 rfl) ?_
    refine k_top (y := nI (tn x)) (hs_4) ?_
    refine lv_iload_n hx hb dX5_set_27 rfl (lv_at hl 3 rfl) ?_
    refine k_iast X hW 1 rfl (j := (tn x)) rfl (by omega) (by decide) dX5_set_28 (w' := refW k a z_5 (upd f (tn x) v) kp z_6 sl sv tx td) rfl (fun H locs hW => ?_)
    refine lv_iload_n hx hb dX5_set_29 rfl (lv_at hl 0 rfl) ?_
    exact hQ _ _ _ _ _ _ hW dX5_set_30 (by subst hz_6; subst hz_5; subst hz_1; rw [m_X5_set_r, if_neg c_3]) (by subst hz_6; subst hz_5; subst hz_1; rw [m_X5_set_z, if_neg c_3, m_X5_set_f, if_neg c_3, m_X5_set_hi, if_neg c_3])
  · refine lv_bipush (v := (-2)) hx hb dX5_set_8 (by decide +kernel) ?_
    exact hQ _ _ _ _ _ _ hW dX5_set_10 (by subst hz_1; rw [m_X5_set_r, if_pos c_3]) (by subst hz_1; rw [m_X5_set_z, if_pos c_3, m_X5_set_f, if_pos c_3, m_X5_set_hi, if_pos c_3])
def m_X5_bounds_r (f : Nat → Int32) (x : Int32) (c1 : Int32) (w1 : Int32) : Int32 := if (m_X5_isQueue_r x) = 0 then (-1) else if (m_X5_areBounds_r c1 w1) = 0 then (-2) else (m_X5_doBounds_r f (tn x))
def m_X5_bounds_z (z : Nat → Int32) (x : Int32) (c1 : Int32) (w1 : Int32) : Nat → Int32 := if (m_X5_isQueue_r x) = 0 then z else if (m_X5_areBounds_r c1 w1) = 0 then z else (m_X5_changes_z z)
def m_X5_bounds_f (f : Nat → Int32) (x : Int32) (c1 : Int32) (w1 : Int32) : Nat → Int32 := if (m_X5_isQueue_r x) = 0 then f else if (m_X5_areBounds_r c1 w1) = 0 then f else (m_X5_doBounds_f f (tn x) c1 w1)
def m_X5_bounds_hi (z : Nat → Int32) (f : Nat → Int32) (hi : Nat → Int32) (x : Int32) (c1 : Int32) (w1 : Int32) : Nat → Int32 := if (m_X5_isQueue_r x) = 0 then hi else if (m_X5_areBounds_r c1 w1) = 0 then hi else (m_X5_changes_hi z f hi)
set_option maxHeartbeats 4000000 in
set_option maxRecDepth 100000 in
theorem c_X5_bounds (l : Launch) (D : va_G) (k : Nat → ClassId) (a : Nat → Nat) (z : Nat → Int32) (f : Nat → Int32) (kp : Nat → Int32) (hi : Nat → Int32) (sl : Nat → Int32) (sv : Nat → Int32) (tx : Nat → Int32) (td : Nat → Int32) (x : Int32) (c1 : Int32) (w1 : Int32) (hz : z 3 = nI (tn (z 3))) (hz6 : tn (z 3) ≤ 6)  : mI l yX5_bounds (wsY yX5_bounds cX5_bounds 4 (some .int)) 2 D k [.ref (a 0), .int x, .int c1, .int w1] (refW k a z f kp hi sl sv tx td) (refW k a (m_X5_bounds_z z x c1 w1) (m_X5_bounds_f f x c1 w1) kp (m_X5_bounds_hi z f hi x c1 w1) sl sv tx td) (m_X5_bounds_r f x c1 w1) := by
  refine mI_intro rfl (Nat.le_of_ble_eq_true rfl) (Or.inl rfl) ?_
  intro p e s m args below meth c A Q ls X hW hl hQ
  have hx := X.hx
  have hb := X.hb
  have hl : lv_has ls 4 [(0, .ref (a 0)), (1, .int x), (2, .int c1), (3, .int w1)] := hl
  refine lv_iload_n hx hb dX5_bounds_0 rfl (lv_at hl 1 rfl) ?_
  obtain ⟨z_1, hz_1⟩ : ∃ zq, m_X5_isQueue_r x = zq := ⟨_, rfl⟩
  have hM_2 := (c_X5_isQueue l D k x)
  rw [hz_1] at hM_2
  refine kSi (As := [.int x]) (rest := []) X hW hM_2 yw_X5_isQueue lk_X5_106 ⟨Nat.le_of_ble_eq_true rfl, Nat.le_of_ble_eq_true rfl⟩ rfl hl.1 rfl (Nat.le_of_ble_eq_true rfl) ⟨Nat.zero_le _, Nat.zero_le _⟩ dX5_bounds_1 (fun H locs hW => ?_)
  refine lv_if_ne (tgt := 9) hx hb dX5_bounds_4 (by decide) (fun c_3 => ?_) (fun c_3 => ?_)
  · obtain ⟨hs_4, ht_4⟩ := rq3 (x := x) (by rw [hz_1]; exact c_3)
    refine lv_iload_n hx hb dX5_bounds_9 rfl (lv_at hl 2 rfl) ?_
    refine lv_iload_n hx hb dX5_bounds_10 rfl (lv_at hl 3 rfl) ?_
    obtain ⟨z_5, hz_5⟩ : ∃ zq, m_X5_areBounds_r c1 w1 = zq := ⟨_, rfl⟩
    have hM_6 := (c_X5_areBounds l D k c1 w1)
    rw [hz_5] at hM_6
    refine kSi (As := [.int c1, .int w1]) (rest := []) X hW hM_6 yw_X5_areBounds lk_X5_110 ⟨Nat.le_of_ble_eq_true rfl, Nat.le_of_ble_eq_true rfl⟩ rfl hl.1 rfl (Nat.le_of_ble_eq_true rfl) ⟨Nat.zero_le _, Nat.zero_le _⟩ dX5_bounds_11 (fun H locs hW => ?_)
    refine lv_if_ne (tgt := 20) hx hb dX5_bounds_14 (by decide) (fun c_7 => ?_) (fun c_7 => ?_)
    · refine lv_aload_n hx hb dX5_bounds_20 rfl (lv_at hl 0 rfl) ?_
      obtain ⟨z_8, hz_8⟩ : ∃ zq, m_X5_changes_z z = zq := ⟨_, rfl⟩
      obtain ⟨z_9, hz_9⟩ : ∃ zq, m_X5_changes_hi z f hi = zq := ⟨_, rfl⟩
      have hM_10 := (c_X5_changes l D k a z f kp hi sl sv tx td  hz hz6)
      rw [hz_8, hz_9] at hM_10
      refine kVv (As := []) (rest := []) X hW hM_10 yw_X5_changes lk_X5_103 ⟨Nat.le_of_ble_eq_true rfl, Nat.le_of_ble_eq_true rfl⟩ (wr := []) (List.Perm.refl _) (w' := refW k a z_8 f kp z_9 sl sv tx td) (List.Perm.refl _) (k_rcv X hW (ci := 5) (q0 := 0) rfl rfl) rfl hl.1 rfl (Nat.le_of_ble_eq_true rfl) ⟨Nat.zero_le _, Nat.zero_le _⟩ dX5_bounds_21 (fun H locs hW => ?_)
      refine lv_aload_n hx hb dX5_bounds_24 rfl (lv_at hl 0 rfl) ?_
      refine lv_iload_n hx hb dX5_bounds_25 rfl (lv_at hl 1 rfl) ?_
      refine k_top (y := nI (tn x)) (hs_4) ?_
      refine lv_iload_n hx hb dX5_bounds_26 rfl (lv_at hl 2 rfl) ?_
      refine lv_iload_n hx hb dX5_bounds_27 rfl (lv_at hl 3 rfl) ?_
      obtain ⟨z_11, hz_11⟩ : ∃ zq, m_X5_doBounds_f f (tn x) c1 w1 = zq := ⟨_, rfl⟩
      obtain ⟨z_12, hz_12⟩ : ∃ zq, m_X5_doBounds_r f (tn x) = zq := ⟨_, rfl⟩
      have hM_13 := (c_X5_doBounds l D k a z_8 f kp z_9 sl sv tx td (tn x) c1 w1 (by omega))
      rw [hz_11, hz_12] at hM_13
      refine kVi (As := [.int (nI (tn x)), .int c1, .int w1]) (rest := []) X hW hM_13 yw_X5_doBounds lk_X5_113 ⟨Nat.le_of_ble_eq_true rfl, Nat.le_of_ble_eq_true rfl⟩ (wr := []) (List.Perm.refl _) (w' := refW k a z_8 z_11 kp z_9 sl sv tx td) (List.Perm.refl _) (k_rcv X hW (ci := 5) (q0 := 0) rfl rfl) rfl hl.1 rfl (Nat.le_of_ble_eq_true rfl) ⟨Nat.zero_le _, Nat.zero_le _⟩ dX5_bounds_28 (fun H locs hW => ?_)
      exact hQ _ _ _ _ _ _ hW dX5_bounds_31 (by subst hz_12; subst hz_11; subst hz_9; subst hz_8; subst hz_5; subst hz_1; rw [m_X5_bounds_r, if_neg c_3, if_neg c_7]) (by subst hz_12; subst hz_11; subst hz_9; subst hz_8; subst hz_5; subst hz_1; rw [m_X5_bounds_z, if_neg c_3, if_neg c_7, m_X5_bounds_f, if_neg c_3, if_neg c_7, m_X5_bounds_hi, if_neg c_3, if_neg c_7])
    · refine lv_bipush (v := (-2)) hx hb dX5_bounds_17 (by decide +kernel) ?_
      exact hQ _ _ _ _ _ _ hW dX5_bounds_19 (by subst hz_5; subst hz_1; rw [m_X5_bounds_r, if_neg c_3, if_pos c_7]) (by subst hz_5; subst hz_1; rw [m_X5_bounds_z, if_neg c_3, if_pos c_7, m_X5_bounds_f, if_neg c_3, if_pos c_7, m_X5_bounds_hi, if_neg c_3, if_pos c_7])
  · refine lv_iconst (v := (-1)) hx hb dX5_bounds_7 (by decide +kernel) ?_
    exact hQ _ _ _ _ _ _ hW dX5_bounds_8 (by subst hz_1; rw [m_X5_bounds_r, if_pos c_3]) (by subst hz_1; rw [m_X5_bounds_z, if_pos c_3, m_X5_bounds_f, if_pos c_3, m_X5_bounds_hi, if_pos c_3])
def m_X5_come_r (f : Nat → Int32) (x : Int32) : Int32 := if (m_X5_in_r ((x).toInt64) 0 99) = 0 then (-2) else if tn (f 5) = 400 then (-4) else (m_X5_doCome_r f (tn x))
def m_X5_come_z (z : Nat → Int32) (f : Nat → Int32) (x : Int32) : Nat → Int32 := if (m_X5_in_r ((x).toInt64) 0 99) = 0 then z else if tn (f 5) = 400 then z else (m_X5_changes_z z)
def m_X5_come_f (f : Nat → Int32) (x : Int32) : Nat → Int32 := if (m_X5_in_r ((x).toInt64) 0 99) = 0 then f else if tn (f 5) = 400 then f else (m_X5_doCome_f f (tn x))
def m_X5_come_hi (z : Nat → Int32) (f : Nat → Int32) (hi : Nat → Int32) (x : Int32) : Nat → Int32 := if (m_X5_in_r ((x).toInt64) 0 99) = 0 then hi else if tn (f 5) = 400 then hi else (m_X5_changes_hi z f hi)
set_option maxHeartbeats 4000000 in
set_option maxRecDepth 100000 in
theorem c_X5_come (l : Launch) (D : va_G) (k : Nat → ClassId) (a : Nat → Nat) (z : Nat → Int32) (f : Nat → Int32) (kp : Nat → Int32) (hi : Nat → Int32) (sl : Nat → Int32) (sv : Nat → Int32) (tx : Nat → Int32) (td : Nat → Int32) (x : Int32) (hf : WF f) (hz : z 3 = nI (tn (z 3))) (hz6 : tn (z 3) ≤ 6)  : mI l yX5_come (wsY yX5_come cX5_come 2 (some .int)) 4 D k [.ref (a 0), .int x] (refW k a z f kp hi sl sv tx td) (refW k a (m_X5_come_z z f x) (m_X5_come_f f x) kp (m_X5_come_hi z f hi x) sl sv tx td) (m_X5_come_r f x) := by
  refine mI_intro rfl (Nat.le_of_ble_eq_true rfl) (Or.inl rfl) ?_
  intro p e s m args below meth c A Q ls X hW hl hQ
  have hx := X.hx
  have hb := X.hb
  have hl : lv_has ls 2 [(0, .ref (a 0)), (1, .int x)] := hl
  have hq_1 := hf.1.2
  have hq_2 := hf.2.1.2
  have hq_3 := hf.2.2.1.2
  refine lv_iload_n hx hb dX5_come_0 rfl (lv_at hl 1 rfl) ?_
  refine lv_i2l hx hb dX5_come_1 rfl ?_
  refine lv_lconst (v := 0) hx hb dX5_come_2 (by decide +kernel) ?_
  refine lv_ldc2 hx hb X.hown (X.wd kl_X5_94) dX5_come_3 ?_
  obtain ⟨z_4, hz_4⟩ : ∃ zq, m_X5_in_r ((x).toInt64) 0 99 = zq := ⟨_, rfl⟩
  have hM_5 := (c_X5_in l D k ((x).toInt64) 0 99)
  rw [hz_4] at hM_5
  refine kSi (As := [.long ((x).toInt64), .long 0, .long 99]) (rest := []) X hW hM_5 yw_X5_in lk_X5_41 ⟨Nat.le_of_ble_eq_true rfl, Nat.le_of_ble_eq_true rfl⟩ rfl hl.1 rfl (Nat.le_of_ble_eq_true rfl) ⟨Nat.zero_le _, Nat.zero_le _⟩ dX5_come_6 (fun H locs hW => ?_)
  refine lv_if_ne (tgt := 15) hx hb dX5_come_9 (by decide) (fun c_6 => ?_) (fun c_6 => ?_)
  · refine lv_aload_n hx hb dX5_come_15 rfl (lv_at hl 0 rfl) ?_
    refine k_get X hW inG5 rfl 0 (by decide) fl_X5_7 rfl 0 rfl (v := .ref (a 1)) rfl dX5_come_16 ?_
    refine lv_iconst (v := nI 5) hx hb dX5_come_19 (by decide +kernel) ?_
    refine k_iald X hW 1 rfl (j := 5) (v := f 5) rfl (by decide) (by decide) rfl dX5_come_20 ?_
    refine k_top (y := nI (tn (f 5))) (hf.1.1) ?_
    refine lv_sipush (v := nI 400) hx hb dX5_come_21 (by decide +kernel) ?_
    refine lv_icmp_ne (tgt := 30) hx hb dX5_come_24 (by decide) (fun c_7 => ?_) (fun c_7 => ?_)
    · have c_7 : ¬ (tn (f 5) = 400) := fun h => c_7 ((nI_eq (a := tn (f 5)) (b := 400) (by omega) (by omega)).mpr h)
      refine lv_aload_n hx hb dX5_come_30 rfl (lv_at hl 0 rfl) ?_
      obtain ⟨z_8, hz_8⟩ : ∃ zq, m_X5_changes_z z = zq := ⟨_, rfl⟩
      obtain ⟨z_9, hz_9⟩ : ∃ zq, m_X5_changes_hi z f hi = zq := ⟨_, rfl⟩
      have hM_10 := (c_X5_changes l D k a z f kp hi sl sv tx td  hz hz6)
      rw [hz_8, hz_9] at hM_10
      refine kVv (As := []) (rest := []) X hW hM_10 yw_X5_changes lk_X5_103 ⟨Nat.le_of_ble_eq_true rfl, Nat.le_of_ble_eq_true rfl⟩ (wr := []) (List.Perm.refl _) (w' := refW k a z_8 f kp z_9 sl sv tx td) (List.Perm.refl _) (k_rcv X hW (ci := 5) (q0 := 0) rfl rfl) rfl hl.1 rfl (Nat.le_of_ble_eq_true rfl) ⟨Nat.zero_le _, Nat.zero_le _⟩ dX5_come_31 (fun H locs hW => ?_)
      obtain ⟨hs_11, ht_11, hv_11⟩ := in_n (x := x) (lo := 0) (up := 99) (a := 0) (b := 99) rfl rfl (by decide) (by rw [hz_4]; exact c_6)
      refine lv_aload_n hx hb dX5_come_34 rfl (lv_at hl 0 rfl) ?_
      refine lv_iload_n hx hb dX5_come_35 rfl (lv_at hl 1 rfl) ?_
      refine k_top (y := nI (tn x)) (hs_11) ?_
      obtain ⟨z_12, hz_12⟩ : ∃ zq, m_X5_doCome_f f (tn x) = zq := ⟨_, rfl⟩
      have hf_z_12 : WF z_12 := by rw [← hz_12]; exact WF_doCome hf (by omega)
      have hq_13 := hf_z_12.1.2
      have hq_14 := hf_z_12.2.1.2
      have hq_15 := hf_z_12.2.2.1.2
      obtain ⟨z_16, hz_16⟩ : ∃ zq, m_X5_doCome_r f (tn x) = zq := ⟨_, rfl⟩
      have hM_17 := (c_X5_doCome l D k a z_8 f kp z_9 sl sv tx td (tn x) hf (by omega) (by omega))
      rw [hz_12, hz_16] at hM_17
      refine kVi (As := [.int (nI (tn x))]) (rest := []) X hW hM_17 yw_X5_doCome lk_X5_117 ⟨Nat.le_of_ble_eq_true rfl, Nat.le_of_ble_eq_true rfl⟩ (wr := []) (List.Perm.refl _) (w' := refW k a z_8 z_12 kp z_9 sl sv tx td) (List.Perm.refl _) (k_rcv X hW (ci := 5) (q0 := 0) rfl rfl) rfl hl.1 rfl (Nat.le_of_ble_eq_true rfl) ⟨Nat.zero_le _, Nat.zero_le _⟩ dX5_come_36 (fun H locs hW => ?_)
      exact hQ _ _ _ _ _ _ hW dX5_come_39 (by subst hz_16; subst hz_12; subst hz_9; subst hz_8; subst hz_4; rw [m_X5_come_r, if_neg c_6, if_neg c_7]) (by subst hz_16; subst hz_12; subst hz_9; subst hz_8; subst hz_4; rw [m_X5_come_z, if_neg c_6, if_neg c_7, m_X5_come_f, if_neg c_6, if_neg c_7, m_X5_come_hi, if_neg c_6, if_neg c_7])
    · have c_7 : tn (f 5) = 400 := (nI_eq (a := tn (f 5)) (b := 400) (by omega) (by omega)).mp c_7
      refine lv_bipush (v := (-4)) hx hb dX5_come_27 (by decide +kernel) ?_
      exact hQ _ _ _ _ _ _ hW dX5_come_29 (by subst hz_4; rw [m_X5_come_r, if_neg c_6, if_pos c_7]) (by subst hz_4; rw [m_X5_come_z, if_neg c_6, if_pos c_7, m_X5_come_f, if_neg c_6, if_pos c_7, m_X5_come_hi, if_neg c_6, if_pos c_7])
  · refine lv_bipush (v := (-2)) hx hb dX5_come_12 (by decide +kernel) ?_
    exact hQ _ _ _ _ _ _ hW dX5_come_14 (by subst hz_4; rw [m_X5_come_r, if_pos c_6]) (by subst hz_4; rw [m_X5_come_z, if_pos c_6, m_X5_come_f, if_pos c_6, m_X5_come_hi, if_pos c_6])
def m_X5_mask_r (f : Nat → Int32) (x : Int32) : Int32 := if (m_X5_isQueue_r x) = 0 then (-1) else (m_X5_get_r (m_X5_lays_f f (tn x) 3 ((nI 1) - (m_X5_get_r f (tn x) 3))) (tn x) 3)
def m_X5_mask_z (z : Nat → Int32) (x : Int32) : Nat → Int32 := if (m_X5_isQueue_r x) = 0 then z else (m_X5_changes_z z)
def m_X5_mask_f (f : Nat → Int32) (x : Int32) : Nat → Int32 := if (m_X5_isQueue_r x) = 0 then f else (m_X5_lays_f f (tn x) 3 ((nI 1) - (m_X5_get_r f (tn x) 3)))
def m_X5_mask_hi (z : Nat → Int32) (f : Nat → Int32) (hi : Nat → Int32) (x : Int32) : Nat → Int32 := if (m_X5_isQueue_r x) = 0 then hi else (m_X5_changes_hi z f hi)
set_option maxHeartbeats 4000000 in
set_option maxRecDepth 100000 in
theorem c_X5_mask (l : Launch) (D : va_G) (k : Nat → ClassId) (a : Nat → Nat) (z : Nat → Int32) (f : Nat → Int32) (kp : Nat → Int32) (hi : Nat → Int32) (sl : Nat → Int32) (sv : Nat → Int32) (tx : Nat → Int32) (td : Nat → Int32) (x : Int32) (hz : z 3 = nI (tn (z 3))) (hz6 : tn (z 3) ≤ 6)  : mI l yX5_mask (wsY yX5_mask cX5_mask 2 (some .int)) 2 D k [.ref (a 0), .int x] (refW k a z f kp hi sl sv tx td) (refW k a (m_X5_mask_z z x) (m_X5_mask_f f x) kp (m_X5_mask_hi z f hi x) sl sv tx td) (m_X5_mask_r f x) := by
  refine mI_intro rfl (Nat.le_of_ble_eq_true rfl) (Or.inl rfl) ?_
  intro p e s m args below meth c A Q ls X hW hl hQ
  have hx := X.hx
  have hb := X.hb
  have hl : lv_has ls 2 [(0, .ref (a 0)), (1, .int x)] := hl
  refine lv_iload_n hx hb dX5_mask_0 rfl (lv_at hl 1 rfl) ?_
  obtain ⟨z_1, hz_1⟩ : ∃ zq, m_X5_isQueue_r x = zq := ⟨_, rfl⟩
  have hM_2 := (c_X5_isQueue l D k x)
  rw [hz_1] at hM_2
  refine kSi (As := [.int x]) (rest := []) X hW hM_2 yw_X5_isQueue lk_X5_106 ⟨Nat.le_of_ble_eq_true rfl, Nat.le_of_ble_eq_true rfl⟩ rfl hl.1 rfl (Nat.le_of_ble_eq_true rfl) ⟨Nat.zero_le _, Nat.zero_le _⟩ dX5_mask_1 (fun H locs hW => ?_)
  refine lv_if_ne (tgt := 9) hx hb dX5_mask_4 (by decide) (fun c_3 => ?_) (fun c_3 => ?_)
  · obtain ⟨hs_4, ht_4⟩ := rq3 (x := x) (by rw [hz_1]; exact c_3)
    refine lv_aload_n hx hb dX5_mask_9 rfl (lv_at hl 0 rfl) ?_
    obtain ⟨z_5, hz_5⟩ : ∃ zq, m_X5_changes_z z = zq := ⟨_, rfl⟩
    obtain ⟨z_6, hz_6⟩ : ∃ zq, m_X5_changes_hi z f hi = zq := ⟨_, rfl⟩
    have hM_7 := (c_X5_changes l D k a z f kp hi sl sv tx td  hz hz6)
    rw [hz_5, hz_6] at hM_7
    refine kVv (As := []) (rest := []) X hW hM_7 yw_X5_changes lk_X5_103 ⟨Nat.le_of_ble_eq_true rfl, Nat.le_of_ble_eq_true rfl⟩ (wr := []) (List.Perm.refl _) (w' := refW k a z_5 f kp z_6 sl sv tx td) (List.Perm.refl _) (k_rcv X hW (ci := 5) (q0 := 0) rfl rfl) rfl hl.1 rfl (Nat.le_of_ble_eq_true rfl) ⟨Nat.zero_le _, Nat.zero_le _⟩ dX5_mask_10 (fun H locs hW => ?_)
    refine lv_aload_n hx hb dX5_mask_13 rfl (lv_at hl 0 rfl) ?_
    refine lv_iload_n hx hb dX5_mask_14 rfl (lv_at hl 1 rfl) ?_
    refine k_top (y := nI (tn x)) (hs_4) ?_
    refine lv_iconst (v := nI 3) hx hb dX5_mask_15 (by decide +kernel) ?_
    refine lv_iconst (v := nI 1) hx hb dX5_mask_16 (by decide +kernel) ?_
    refine lv_aload_n hx hb dX5_mask_17 rfl (lv_at hl 0 rfl) ?_
    refine lv_iload_n hx hb dX5_mask_18 rfl (lv_at hl 1 rfl) ?_
    refine k_top (y := nI (tn x)) (hs_4) ?_
    refine lv_iconst (v := nI 3) hx hb dX5_mask_19 (by decide +kernel) ?_
    obtain ⟨z_8, hz_8⟩ : ∃ zq, m_X5_get_r f (tn x) 3 = zq := ⟨_, rfl⟩
    have hM_9 := (c_X5_get l D k a z_5 f kp z_6 sl sv tx td (tn x) 3 (by first | decide | omega) (by first | decide | omega))
    rw [hz_8] at hM_9
    refine kVi (As := [.int (nI (tn x)), .int (nI 3)]) (rest := [.int (nI 1), .int (nI 3), .int (nI (tn x)), .ref (a 0)]) X hW hM_9 yw_X5_get lk_X5_53 ⟨Nat.le_of_ble_eq_true rfl, Nat.le_of_ble_eq_true rfl⟩ (wr := []) (List.Perm.refl _) (w' := refW k a z_5 f kp z_6 sl sv tx td) (List.Perm.refl _) (k_rcv X hW (ci := 5) (q0 := 0) rfl rfl) rfl hl.1 rfl (Nat.le_of_ble_eq_true rfl) ⟨Nat.zero_le _, Nat.zero_le _⟩ dX5_mask_20 (fun H locs hW => ?_)
    refine lv_isub hx hb dX5_mask_23 ?_
    obtain ⟨z_10, hz_10⟩ : ∃ zq, m_X5_lays_f f (tn x) 3 ((nI 1) - z_8) = zq := ⟨_, rfl⟩
    have hM_11 := (c_X5_lays l D k a z_5 f kp z_6 sl sv tx td (tn x) 3 ((nI 1) - z_8) (by first | decide | omega) (by first | decide | omega))
    rw [hz_10] at hM_11
    refine kVv (As := [.int (nI (tn x)), .int (nI 3), .int ((nI 1) - z_8)]) (rest := []) X hW hM_11 yw_X5_lays lk_X5_31 ⟨Nat.le_of_ble_eq_true rfl, Nat.le_of_ble_eq_true rfl⟩ (wr := []) (List.Perm.refl _) (w' := refW k a z_5 z_10 kp z_6 sl sv tx td) (List.Perm.refl _) (k_rcv X hW (ci := 5) (q0 := 0) rfl rfl) rfl hl.1 rfl (Nat.le_of_ble_eq_true rfl) ⟨Nat.zero_le _, Nat.zero_le _⟩ dX5_mask_24 (fun H locs hW => ?_)
    refine lv_aload_n hx hb dX5_mask_27 rfl (lv_at hl 0 rfl) ?_
    refine lv_iload_n hx hb dX5_mask_28 rfl (lv_at hl 1 rfl) ?_
    refine k_top (y := nI (tn x)) (hs_4) ?_
    refine lv_iconst (v := nI 3) hx hb dX5_mask_29 (by decide +kernel) ?_
    obtain ⟨z_12, hz_12⟩ : ∃ zq, m_X5_get_r z_10 (tn x) 3 = zq := ⟨_, rfl⟩
    have hM_13 := (c_X5_get l D k a z_5 z_10 kp z_6 sl sv tx td (tn x) 3 (by first | decide | omega) (by first | decide | omega))
    rw [hz_12] at hM_13
    refine kVi (As := [.int (nI (tn x)), .int (nI 3)]) (rest := []) X hW hM_13 yw_X5_get lk_X5_53 ⟨Nat.le_of_ble_eq_true rfl, Nat.le_of_ble_eq_true rfl⟩ (wr := []) (List.Perm.refl _) (w' := refW k a z_5 z_10 kp z_6 sl sv tx td) (List.Perm.refl _) (k_rcv X hW (ci := 5) (q0 := 0) rfl rfl) rfl hl.1 rfl (Nat.le_of_ble_eq_true rfl) ⟨Nat.zero_le _, Nat.zero_le _⟩ dX5_mask_30 (fun H locs hW => ?_)
    exact hQ _ _ _ _ _ _ hW dX5_mask_33 (by subst hz_12; subst hz_10; subst hz_8; subst hz_6; subst hz_5; subst hz_1; rw [m_X5_mask_r, if_neg c_3]) (by subst hz_12; subst hz_10; subst hz_8; subst hz_6; subst hz_5; subst hz_1; rw [m_X5_mask_z, if_neg c_3, m_X5_mask_f, if_neg c_3, m_X5_mask_hi, if_neg c_3])
  · refine lv_iconst (v := (-1)) hx hb dX5_mask_7 (by decide +kernel) ?_
    exact hQ _ _ _ _ _ _ hW dX5_mask_8 (by subst hz_1; rw [m_X5_mask_r, if_pos c_3]) (by subst hz_1; rw [m_X5_mask_z, if_pos c_3, m_X5_mask_f, if_pos c_3, m_X5_mask_hi, if_pos c_3])
def m_X5_call_r (f : Nat → Int32) (x : Int32) : Int32 := if (m_X5_isQueue_r x) = 0 then (-1) else if (m_X5_placeInRow_r f (tn x)) = (-6) then (if (m_X5_oldest_r f (tn x)) = (-6) then (-5) else ((m_X5_doCall_f f (tn x)) 6) - (nI 1)) else (-5)
def m_X5_call_z (z : Nat → Int32) (f : Nat → Int32) (x : Int32) : Nat → Int32 := if (m_X5_isQueue_r x) = 0 then z else if (m_X5_placeInRow_r f (tn x)) = (-6) then (if (m_X5_oldest_r f (tn x)) = (-6) then z else (m_X5_changes_z z)) else z
def m_X5_call_f (f : Nat → Int32) (x : Int32) : Nat → Int32 := if (m_X5_isQueue_r x) = 0 then f else if (m_X5_placeInRow_r f (tn x)) = (-6) then (if (m_X5_oldest_r f (tn x)) = (-6) then f else (m_X5_doCall_f f (tn x))) else f
def m_X5_call_hi (z : Nat → Int32) (f : Nat → Int32) (hi : Nat → Int32) (x : Int32) : Nat → Int32 := if (m_X5_isQueue_r x) = 0 then hi else if (m_X5_placeInRow_r f (tn x)) = (-6) then (if (m_X5_oldest_r f (tn x)) = (-6) then hi else (m_X5_changes_hi z f hi)) else hi
set_option maxHeartbeats 4000000 in
set_option maxRecDepth 100000 in
theorem c_X5_call (l : Launch) (D : va_G) (k : Nat → ClassId) (a : Nat → Nat) (z : Nat → Int32) (f : Nat → Int32) (kp : Nat → Int32) (hi : Nat → Int32) (sl : Nat → Int32) (sv : Nat → Int32) (tx : Nat → Int32) (td : Nat → Int32) (x : Int32) (hf : WF f) (hz : z 3 = nI (tn (z 3))) (hz6 : tn (z 3) ≤ 6)  : mI l yX5_call (wsY yX5_call cX5_call 2 (some .int)) 3 D k [.ref (a 0), .int x] (refW k a z f kp hi sl sv tx td) (refW k a (m_X5_call_z z f x) (m_X5_call_f f x) kp (m_X5_call_hi z f hi x) sl sv tx td) (m_X5_call_r f x) := by
  refine mI_intro rfl (Nat.le_of_ble_eq_true rfl) (Or.inl rfl) ?_
  intro p e s m args below meth c A Q ls X hW hl hQ
  have hx := X.hx
  have hb := X.hb
  have hl : lv_has ls 2 [(0, .ref (a 0)), (1, .int x)] := hl
  have hq_1 := hf.1.2
  have hq_2 := hf.2.1.2
  have hq_3 := hf.2.2.1.2
  refine lv_iload_n hx hb dX5_call_0 rfl (lv_at hl 1 rfl) ?_
  obtain ⟨z_4, hz_4⟩ : ∃ zq, m_X5_isQueue_r x = zq := ⟨_, rfl⟩
  have hM_5 := (c_X5_isQueue l D k x)
  rw [hz_4] at hM_5
  refine kSi (As := [.int x]) (rest := []) X hW hM_5 yw_X5_isQueue lk_X5_106 ⟨Nat.le_of_ble_eq_true rfl, Nat.le_of_ble_eq_true rfl⟩ rfl hl.1 rfl (Nat.le_of_ble_eq_true rfl) ⟨Nat.zero_le _, Nat.zero_le _⟩ dX5_call_1 (fun H locs hW => ?_)
  refine lv_if_ne (tgt := 9) hx hb dX5_call_4 (by decide) (fun c_6 => ?_) (fun c_6 => ?_)
  · obtain ⟨hs_7, ht_7⟩ := rq3 (x := x) (by rw [hz_4]; exact c_6)
    refine lv_aload_n hx hb dX5_call_9 rfl (lv_at hl 0 rfl) ?_
    refine lv_iload_n hx hb dX5_call_10 rfl (lv_at hl 1 rfl) ?_
    refine k_top (y := nI (tn x)) (hs_7) ?_
    obtain ⟨z_8, hz_8⟩ : ∃ zq, m_X5_placeInRow_r f (tn x) = zq := ⟨_, rfl⟩
    have hM_9 := (c_X5_placeInRow l D k a z f kp hi sl sv tx td (tn x) hf)
    rw [hz_8] at hM_9
    refine kVi (As := [.int (nI (tn x))]) (rest := []) X hW hM_9 yw_X5_placeInRow lk_X5_74 ⟨Nat.le_of_ble_eq_true rfl, Nat.le_of_ble_eq_true rfl⟩ (wr := []) (List.Perm.refl _) (w' := refW k a z f kp hi sl sv tx td) (List.Perm.refl _) (k_rcv X hW (ci := 5) (q0 := 0) rfl rfl) rfl hl.1 rfl (Nat.le_of_ble_eq_true rfl) ⟨Nat.zero_le _, Nat.zero_le _⟩ dX5_call_11 (fun H locs hW => ?_)
    refine lv_bipush (v := (-6)) hx hb dX5_call_14 (by decide +kernel) ?_
    refine lv_icmp_ne (tgt := 29) hx hb dX5_call_16 (by decide) (fun c_10 => ?_) (fun c_10 => ?_)
    · refine lv_bipush (v := (-5)) hx hb dX5_call_29 (by decide +kernel) ?_
      exact hQ _ _ _ _ _ _ hW dX5_call_31 (by subst hz_8; subst hz_4; rw [m_X5_call_r, if_neg c_6, if_neg c_10]) (by subst hz_8; subst hz_4; rw [m_X5_call_z, if_neg c_6, if_neg c_10, m_X5_call_f, if_neg c_6, if_neg c_10, m_X5_call_hi, if_neg c_6, if_neg c_10])
    · refine lv_aload_n hx hb dX5_call_19 rfl (lv_at hl 0 rfl) ?_
      refine lv_iload_n hx hb dX5_call_20 rfl (lv_at hl 1 rfl) ?_
      refine k_top (y := nI (tn x)) (hs_7) ?_
      obtain ⟨z_11, hz_11⟩ : ∃ zq, m_X5_oldest_r f (tn x) = zq := ⟨_, rfl⟩
      have hM_12 := (c_X5_oldest l D k a z f kp hi sl sv tx td (tn x) hf)
      rw [hz_11] at hM_12
      refine kVi (As := [.int (nI (tn x))]) (rest := []) X hW hM_12 yw_X5_oldest lk_X5_63 ⟨Nat.le_of_ble_eq_true rfl, Nat.le_of_ble_eq_true rfl⟩ (wr := []) (List.Perm.refl _) (w' := refW k a z f kp hi sl sv tx td) (List.Perm.refl _) (k_rcv X hW (ci := 5) (q0 := 0) rfl rfl) rfl hl.1 rfl (Nat.le_of_ble_eq_true rfl) ⟨Nat.zero_le _, Nat.zero_le _⟩ dX5_call_21 (fun H locs hW => ?_)
      refine lv_bipush (v := (-6)) hx hb dX5_call_24 (by decide +kernel) ?_
      refine lv_icmp_ne (tgt := 32) hx hb dX5_call_26 (by decide) (fun c_13 => ?_) (fun c_13 => ?_)
      · refine lv_aload_n hx hb dX5_call_32 rfl (lv_at hl 0 rfl) ?_
        obtain ⟨z_14, hz_14⟩ : ∃ zq, m_X5_changes_z z = zq := ⟨_, rfl⟩
        obtain ⟨z_15, hz_15⟩ : ∃ zq, m_X5_changes_hi z f hi = zq := ⟨_, rfl⟩
        have hM_16 := (c_X5_changes l D k a z f kp hi sl sv tx td  hz hz6)
        rw [hz_14, hz_15] at hM_16
        refine kVv (As := []) (rest := []) X hW hM_16 yw_X5_changes lk_X5_103 ⟨Nat.le_of_ble_eq_true rfl, Nat.le_of_ble_eq_true rfl⟩ (wr := []) (List.Perm.refl _) (w' := refW k a z_14 f kp z_15 sl sv tx td) (List.Perm.refl _) (k_rcv X hW (ci := 5) (q0 := 0) rfl rfl) rfl hl.1 rfl (Nat.le_of_ble_eq_true rfl) ⟨Nat.zero_le _, Nat.zero_le _⟩ dX5_call_33 (fun H locs hW => ?_)
        refine lv_aload_n hx hb dX5_call_36 rfl (lv_at hl 0 rfl) ?_
        refine lv_iload_n hx hb dX5_call_37 rfl (lv_at hl 1 rfl) ?_
        refine k_top (y := nI (tn x)) (hs_7) ?_
        obtain ⟨z_17, hz_17⟩ : ∃ zq, m_X5_doCall_f f (tn x) = zq := ⟨_, rfl⟩
        have hM_18 := (c_X5_doCall l D k a z_14 f kp z_15 sl sv tx td (tn x) hf (by first | decide | omega))
        rw [hz_17] at hM_18
        refine kVv (As := [.int (nI (tn x))]) (rest := []) X hW hM_18 yw_X5_doCall lk_X5_83 ⟨Nat.le_of_ble_eq_true rfl, Nat.le_of_ble_eq_true rfl⟩ (wr := []) (List.Perm.refl _) (w' := refW k a z_14 z_17 kp z_15 sl sv tx td) (List.Perm.refl _) (k_rcv X hW (ci := 5) (q0 := 0) rfl rfl) rfl hl.1 rfl (Nat.le_of_ble_eq_true rfl) ⟨Nat.zero_le _, Nat.zero_le _⟩ dX5_call_38 (fun H locs hW => ?_)
        refine lv_aload_n hx hb dX5_call_41 rfl (lv_at hl 0 rfl) ?_
        refine k_get X hW inG5 rfl 0 (by decide) fl_X5_7 rfl 0 rfl (v := .ref (a 1)) rfl dX5_call_42 ?_
        refine lv_bipush (v := nI 6) hx hb dX5_call_45 (by decide +kernel) ?_
        refine k_iald X hW 1 rfl (j := 6) (v := z_17 6) rfl (by decide) (by decide) rfl dX5_call_47 ?_
        refine lv_iconst (v := nI 1) hx hb dX5_call_48 (by decide +kernel) ?_
        refine lv_isub hx hb dX5_call_49 ?_
        exact hQ _ _ _ _ _ _ hW dX5_call_50 (by subst hz_17; subst hz_15; subst hz_14; subst hz_11; subst hz_8; subst hz_4; rw [m_X5_call_r, if_neg c_6, if_pos c_10, if_neg c_13]) (by subst hz_17; subst hz_15; subst hz_14; subst hz_11; subst hz_8; subst hz_4; rw [m_X5_call_z, if_neg c_6, if_pos c_10, if_neg c_13, m_X5_call_f, if_neg c_6, if_pos c_10, if_neg c_13, m_X5_call_hi, if_neg c_6, if_pos c_10, if_neg c_13])
      · refine lv_bipush (v := (-5)) hx hb dX5_call_29 (by decide +kernel) ?_
        exact hQ _ _ _ _ _ _ hW dX5_call_31 (by subst hz_11; subst hz_8; subst hz_4; rw [m_X5_call_r, if_neg c_6, if_pos c_10, if_pos c_13]) (by subst hz_11; subst hz_8; subst hz_4; rw [m_X5_call_z, if_neg c_6, if_pos c_10, if_pos c_13, m_X5_call_f, if_neg c_6, if_pos c_10, if_pos c_13, m_X5_call_hi, if_neg c_6, if_pos c_10, if_pos c_13])
  · refine lv_iconst (v := (-1)) hx hb dX5_call_7 (by decide +kernel) ?_
    exact hQ _ _ _ _ _ _ hW dX5_call_8 (by subst hz_4; rw [m_X5_call_r, if_pos c_6]) (by subst hz_4; rw [m_X5_call_z, if_pos c_6, m_X5_call_f, if_pos c_6, m_X5_call_hi, if_pos c_6])
def m_X5_pass_r (f : Nat → Int32) (x : Int32) : Int32 := if (m_X5_areTicks_r x) = 0 then (-2) else if (f 4) + x ≤ nI 9999 then (m_X5_ticks_r f (tn x)) else (-5)
def m_X5_pass_z (z : Nat → Int32) (f : Nat → Int32) (x : Int32) : Nat → Int32 := if (m_X5_areTicks_r x) = 0 then z else if (f 4) + x ≤ nI 9999 then (m_X5_changes_z z) else z
def m_X5_pass_f (f : Nat → Int32) (x : Int32) : Nat → Int32 := if (m_X5_areTicks_r x) = 0 then f else if (f 4) + x ≤ nI 9999 then (m_X5_ticks_f f (tn x)) else f
def m_X5_pass_hi (z : Nat → Int32) (f : Nat → Int32) (hi : Nat → Int32) (x : Int32) : Nat → Int32 := if (m_X5_areTicks_r x) = 0 then hi else if (f 4) + x ≤ nI 9999 then (m_X5_changes_hi z f hi) else hi
set_option maxHeartbeats 4000000 in
set_option maxRecDepth 100000 in
theorem c_X5_pass (l : Launch) (D : va_G) (k : Nat → ClassId) (a : Nat → Nat) (z : Nat → Int32) (f : Nat → Int32) (kp : Nat → Int32) (hi : Nat → Int32) (sl : Nat → Int32) (sv : Nat → Int32) (tx : Nat → Int32) (td : Nat → Int32) (x : Int32) (hR : RF f) (hz : z 3 = nI (tn (z 3))) (hz6 : tn (z 3) ≤ 6)  : mI l yX5_pass (wsY yX5_pass cX5_pass 2 (some .int)) 7 D k [.ref (a 0), .int x] (refW k a z f kp hi sl sv tx td) (refW k a (m_X5_pass_z z f x) (m_X5_pass_f f x) kp (m_X5_pass_hi z f hi x) sl sv tx td) (m_X5_pass_r f x) := by
  refine mI_intro rfl (Nat.le_of_ble_eq_true rfl) (Or.inl rfl) ?_
  intro p e s m args below meth c A Q ls X hW hl hQ
  have hx := X.hx
  have hb := X.hb
  have hl : lv_has ls 2 [(0, .ref (a 0)), (1, .int x)] := hl
  refine lv_iload_n hx hb dX5_pass_0 rfl (lv_at hl 1 rfl) ?_
  obtain ⟨z_1, hz_1⟩ : ∃ zq, m_X5_areTicks_r x = zq := ⟨_, rfl⟩
  have hM_2 := (c_X5_areTicks l D k x)
  rw [hz_1] at hM_2
  refine kSi (As := [.int x]) (rest := []) X hW hM_2 yw_X5_areTicks lk_X5_120 ⟨Nat.le_of_ble_eq_true rfl, Nat.le_of_ble_eq_true rfl⟩ rfl hl.1 rfl (Nat.le_of_ble_eq_true rfl) ⟨Nat.zero_le _, Nat.zero_le _⟩ dX5_pass_1 (fun H locs hW => ?_)
  refine lv_if_ne (tgt := 10) hx hb dX5_pass_4 (by decide) (fun c_3 => ?_) (fun c_3 => ?_)
  · refine lv_aload_n hx hb dX5_pass_10 rfl (lv_at hl 0 rfl) ?_
    refine k_get X hW inG5 rfl 0 (by decide) fl_X5_7 rfl 0 rfl (v := .ref (a 1)) rfl dX5_pass_11 ?_
    refine lv_iconst (v := nI 4) hx hb dX5_pass_14 (by decide +kernel) ?_
    refine k_iald X hW 1 rfl (j := 4) (v := f 4) rfl (by decide) (by decide) rfl dX5_pass_15 ?_
    refine lv_iload_n hx hb dX5_pass_16 rfl (lv_at hl 1 rfl) ?_
    refine lv_iadd hx hb dX5_pass_17 ?_
    refine lv_sipush (v := nI 9999) hx hb dX5_pass_18 (by decide +kernel) ?_
    refine lv_icmp_le (tgt := 27) hx hb dX5_pass_21 (by decide) (fun c_4 => ?_) (fun c_4 => ?_)
    · refine lv_aload_n hx hb dX5_pass_27 rfl (lv_at hl 0 rfl) ?_
      obtain ⟨z_5, hz_5⟩ : ∃ zq, m_X5_changes_z z = zq := ⟨_, rfl⟩
      obtain ⟨z_6, hz_6⟩ : ∃ zq, m_X5_changes_hi z f hi = zq := ⟨_, rfl⟩
      have hM_7 := (c_X5_changes l D k a z f kp hi sl sv tx td  hz hz6)
      rw [hz_5, hz_6] at hM_7
      refine kVv (As := []) (rest := []) X hW hM_7 yw_X5_changes lk_X5_103 ⟨Nat.le_of_ble_eq_true rfl, Nat.le_of_ble_eq_true rfl⟩ (wr := []) (List.Perm.refl _) (w' := refW k a z_5 f kp z_6 sl sv tx td) (List.Perm.refl _) (k_rcv X hW (ci := 5) (q0 := 0) rfl rfl) rfl hl.1 rfl (Nat.le_of_ble_eq_true rfl) ⟨Nat.zero_le _, Nat.zero_le _⟩ dX5_pass_28 (fun H locs hW => ?_)
      obtain ⟨hs_8, ht_8, hv_8⟩ := at_n (x := x) (by rw [hz_1]; exact c_3)
      refine lv_aload_n hx hb dX5_pass_31 rfl (lv_at hl 0 rfl) ?_
      refine lv_iload_n hx hb dX5_pass_32 rfl (lv_at hl 1 rfl) ?_
      refine k_top (y := nI (tn x)) (hs_8) ?_
      obtain ⟨z_9, hz_9⟩ : ∃ zq, m_X5_ticks_f f (tn x) = zq := ⟨_, rfl⟩
      have hR_z_9 : RF z_9 := by rw [← hz_9]; exact RF_ticks _ hR
      have hf_z_9 := hR_z_9.1
      have hq_10 := hf_z_9.1.2
      have hq_11 := hf_z_9.2.1.2
      have hq_12 := hf_z_9.2.2.1.2
      obtain ⟨z_13, hz_13⟩ : ∃ zq, m_X5_ticks_r f (tn x) = zq := ⟨_, rfl⟩
      have hM_14 := (c_X5_ticks l D k a z_5 f kp z_6 sl sv tx td (tn x) hR (by omega))
      rw [hz_9, hz_13] at hM_14
      refine kVi (As := [.int (nI (tn x))]) (rest := []) X hW hM_14 yw_X5_ticks lk_X5_123 ⟨Nat.le_of_ble_eq_true rfl, Nat.le_of_ble_eq_true rfl⟩ (wr := []) (List.Perm.refl _) (w' := refW k a z_5 z_9 kp z_6 sl sv tx td) (List.Perm.refl _) (k_rcv X hW (ci := 5) (q0 := 0) rfl rfl) rfl hl.1 rfl (Nat.le_of_ble_eq_true rfl) ⟨Nat.zero_le _, Nat.zero_le _⟩ dX5_pass_33 (fun H locs hW => ?_)
      exact hQ _ _ _ _ _ _ hW dX5_pass_36 (by subst hz_13; subst hz_9; subst hz_6; subst hz_5; subst hz_1; rw [m_X5_pass_r, if_neg c_3, if_pos c_4]) (by subst hz_13; subst hz_9; subst hz_6; subst hz_5; subst hz_1; rw [m_X5_pass_z, if_neg c_3, if_pos c_4, m_X5_pass_f, if_neg c_3, if_pos c_4, m_X5_pass_hi, if_neg c_3, if_pos c_4])
    · refine lv_bipush (v := (-5)) hx hb dX5_pass_24 (by decide +kernel) ?_
      exact hQ _ _ _ _ _ _ hW dX5_pass_26 (by subst hz_1; rw [m_X5_pass_r, if_neg c_3, if_neg c_4]) (by subst hz_1; rw [m_X5_pass_z, if_neg c_3, if_neg c_4, m_X5_pass_f, if_neg c_3, if_neg c_4, m_X5_pass_hi, if_neg c_3, if_neg c_4])
  · refine lv_bipush (v := (-2)) hx hb dX5_pass_7 (by decide +kernel) ?_
    exact hQ _ _ _ _ _ _ hW dX5_pass_9 (by subst hz_1; rw [m_X5_pass_r, if_pos c_3]) (by subst hz_1; rw [m_X5_pass_z, if_pos c_3, m_X5_pass_f, if_pos c_3, m_X5_pass_hi, if_pos c_3])
def lp_un (hi : Nat → Int32) (mm : Nat) : Nat → Nat → (Nat → Int32) → (Nat → Int32)
  | 0, _, y => y
  | r + 1, i, y => lp_un hi mm r (i + 1) (upd y i (hi (1640 * mm + i)))
def m_X5_undo_r (z : Nat → Int32) : Int32 := if tn (z 3) = 0 then (-5) else nI (tn (z 3) - 1)
def m_X5_undo_z (z : Nat → Int32) : Nat → Int32 := if tn (z 3) = 0 then z else upd z 3 (nI (tn (z 3) - 1))
def m_X5_undo_f (z : Nat → Int32) (f : Nat → Int32) (hi : Nat → Int32) : Nat → Int32 := if tn (z 3) = 0 then f else lp_un hi (tn (z 3) - 1) 1640 0 f
set_option maxHeartbeats 4000000 in
set_option maxRecDepth 100000 in
theorem c_X5_undo (l : Launch) (D : va_G) (k : Nat → ClassId) (a : Nat → Nat) (z : Nat → Int32) (f : Nat → Int32) (kp : Nat → Int32) (hi : Nat → Int32) (sl : Nat → Int32) (sv : Nat → Int32) (tx : Nat → Int32) (td : Nat → Int32)  (hz : z 3 = nI (tn (z 3))) (hz6 : tn (z 3) ≤ 6)  : mI l yX5_undo (wsY yX5_undo cX5_undo 2 (some .int)) 0 D k [.ref (a 0)] (refW k a z f kp hi sl sv tx td) (refW k a (m_X5_undo_z z) (m_X5_undo_f z f hi) kp hi sl sv tx td) (m_X5_undo_r z) := by
  refine mI_intro rfl (Nat.le_of_ble_eq_true rfl) (Or.inl rfl) ?_
  intro p e s m args below meth c A Q ls X hW hl hQ
  have hx := X.hx
  have hb := X.hb
  have hl : lv_has ls 2 [(0, .ref (a 0))] := hl
  refine lv_aload_n hx hb dX5_undo_0 rfl (lv_at hl 0 rfl) ?_
  refine k_get X hW inG5 rfl 3 (by decide) fl_X5_35 rfl 0 rfl (v := .int (z 3)) rfl dX5_undo_1 ?_
  refine k_top (y := nI (tn (z 3))) (hz) ?_
  refine lv_if_ne (tgt := 10) hx hb dX5_undo_4 (by decide) (fun c_1 => ?_) (fun c_1 => ?_)
  · have c_1 : ¬ (tn (z 3) = 0) := fun h => c_1 ((nI_eq (a := tn (z 3)) (b := 0) (by omega) (by omega)).mpr h)
    have hcu := c_1
    refine lv_aload_n hx hb dX5_undo_10 rfl (lv_at hl 0 rfl) ?_
    refine lv_dup hx hb dX5_undo_11 rfl ?_
    refine k_get X hW inG5 rfl 3 (by decide) fl_X5_35 rfl 0 rfl (v := .int (z 3)) rfl dX5_undo_12 ?_
    refine k_top (y := nI (tn (z 3))) (hz) ?_
    refine lv_iconst (v := nI 1) hx hb dX5_undo_15 (by decide +kernel) ?_
    refine lv_isub hx hb dX5_undo_16 ?_
    refine k_top (y := nI ((tn (z 3)) - 1)) (pk_sub (by omega)) ?_
    refine k_put X hW inG5 rfl tyX5_ok nmX5 3 (by decide) fl_X5_35 rfl rfl 0 rfl rfl rfl (Nat.le_of_ble_eq_true rfl) dX5_undo_17 (w' := refW k a (upd z 3 (nI ((tn (z 3)) - 1))) f kp hi sl sv tx td) rfl (fun H locs hW => ?_)
    refine lv_iconst (v := nI 0) hx hb dX5_undo_20 (by decide +kernel) ?_
    refine lv_istore_n (lv' := [(1, .int (nI 0)), (0, .ref (a 0))]) hx hb dX5_undo_21 rfl hl (by decide) rfl (fun ls hl => ?_)
    have lp22 : ∀ (r i : Nat) (y' : Nat → Int32) (H : Heap) (locs : List Loc) (ls : Array Slot), i + r = 1640 → lp_un hi (tn (z 3) - 1) 1640 0 f = lp_un hi (tn (z 3) - 1) r i y' → KW D A s (refW k a (upd z 3 (nI ((tn (z 3)) - 1))) y' kp hi sl sv tx td) H locs → lv_has ls 2 [(1, .int (nI i)), (0, .ref (a 0))] → W p l e (rmD 0) s m args below meth c H locs 0 0 Q (F0 m 22 ls []) := by
      intro r
      induction r with
      | zero =>
        intro i y' H locs ls hir hy hW hl
        replace hy : lp_un hi (tn (z 3) - 1) 1640 0 f = y' := hy
        refine lv_iload_n hx hb dX5_undo_22 rfl (lv_at hl 0 rfl) ?_
        refine lv_sipush (v := nI 1640) hx hb dX5_undo_23 (by decide +kernel) ?_
        refine lv_icmp_ge (tgt := 56) hx hb dX5_undo_26 (by decide) (fun c_2 => ?_) (fun c_2 => ?_)
        · have c_2 : 1640 ≤ i := (nI_leI (a := 1640) (b := i) (by omega) (by omega)).mp c_2
          refine lv_aload_n hx hb dX5_undo_56 rfl (lv_at hl 1 rfl) ?_
          refine k_get X hW inG5 rfl 3 (by decide) fl_X5_35 rfl 0 rfl (v := .int (nI ((tn (z 3)) - 1))) rfl dX5_undo_57 ?_
          exact hQ _ _ _ _ _ _ hW dX5_undo_60 (by rw [m_X5_undo_r, if_neg hcu]) (by rw [m_X5_undo_z, m_X5_undo_f, if_neg hcu, if_neg hcu, hy])
        · have c_2 : ¬ (1640 ≤ i) := fun h => c_2 ((nI_leI (a := 1640) (b := i) (by omega) (by omega)).mpr h)
          omega
      | succ r ih22 =>
        intro i y' H locs ls hir hy hW hl
        refine lv_iload_n hx hb dX5_undo_22 rfl (lv_at hl 0 rfl) ?_
        refine lv_sipush (v := nI 1640) hx hb dX5_undo_23 (by decide +kernel) ?_
        refine lv_icmp_ge (tgt := 56) hx hb dX5_undo_26 (by decide) (fun c_3 => ?_) (fun c_3 => ?_)
        · have c_3 : 1640 ≤ i := (nI_leI (a := 1640) (b := i) (by omega) (by omega)).mp c_3
          omega
        · have c_3 : ¬ (1640 ≤ i) := fun h => c_3 ((nI_leI (a := 1640) (b := i) (by omega) (by omega)).mpr h)
          refine lv_aload_n hx hb dX5_undo_29 rfl (lv_at hl 1 rfl) ?_
          refine k_get X hW inG5 rfl 0 (by decide) fl_X5_7 rfl 0 rfl (v := .ref (a 1)) rfl dX5_undo_30 ?_
          refine lv_iload_n hx hb dX5_undo_33 rfl (lv_at hl 0 rfl) ?_
          refine lv_aload_n hx hb dX5_undo_34 rfl (lv_at hl 1 rfl) ?_
          refine k_get X hW inG5 rfl 2 (by decide) fl_X5_16 rfl 0 rfl (v := .ref (a 3)) rfl dX5_undo_35 ?_
          refine lv_sipush (v := nI 1640) hx hb dX5_undo_38 (by decide +kernel) ?_
          refine lv_aload_n hx hb dX5_undo_41 rfl (lv_at hl 1 rfl) ?_
          refine k_get X hW inG5 rfl 3 (by decide) fl_X5_35 rfl 0 rfl (v := .int (nI ((tn (z 3)) - 1))) rfl dX5_undo_42 ?_
          refine lv_imul hx hb dX5_undo_45 ?_
          refine k_top (y := nI (1640 * ((tn (z 3)) - 1))) (pk_mul _ _) ?_
          refine lv_iload_n hx hb dX5_undo_46 rfl (lv_at hl 0 rfl) ?_
          refine lv_iadd hx hb dX5_undo_47 ?_
          refine k_top (y := nI (1640 * ((tn (z 3)) - 1) + i)) (nI_add _ _) ?_
          refine k_iald X hW 3 rfl (j := (1640 * ((tn (z 3)) - 1) + i)) (v := hi (1640 * ((tn (z 3)) - 1) + i)) rfl (by omega) (by decide) rfl dX5_undo_48 ?_
          refine k_iast X hW 1 rfl (j := i) rfl (by omega) (by decide) dX5_undo_49 (w' := refW k a (upd z 3 (nI ((tn (z 3)) - 1))) (upd y' i (hi (1640 * ((tn (z 3)) - 1) + i))) kp hi sl sv tx td) rfl (fun H locs hW => ?_)
          refine lv_iinc (v := nI (i + 1)) (lv' := [(1, .int (nI (i + 1))), (0, .ref (a 0))]) hx hb dX5_undo_50 hl (k := 0) rfl (k_inc _) (by decide) rfl (fun ls hl => ?_)
          refine lv_goto (tgt := 22) hx hb dX5_undo_53 (by decide) ?_
          exact ih22 (i + 1) _ _ _ _ (by omega) (by rw [hy, lp_un]) hW (lv_sub hl [0, 1] rfl)
    exact lp22 1640 0 _ _ _ _ (by omega) rfl hW (lv_sub hl [0, 1] rfl)
  · have c_1 : tn (z 3) = 0 := (nI_eq (a := tn (z 3)) (b := 0) (by omega) (by omega)).mp c_1
    refine lv_bipush (v := (-5)) hx hb dX5_undo_7 (by decide +kernel) ?_
    exact hQ _ _ _ _ _ _ hW dX5_undo_9 (by rw [m_X5_undo_r, if_pos c_1]) (by rw [m_X5_undo_z, m_X5_undo_f, if_pos c_1, if_pos c_1])
def m_X5_save_r (f : Nat → Int32) (x : Int32) : Int32 := if m_X5_isSlot_r x = 0 then (-2) else f 5
def m_X5_save_sl (f : Nat → Int32) (sl : Nat → Int32) (x : Int32) : Nat → Int32 := if m_X5_isSlot_r x = 0 then sl else lp_ch f (tn x) 1640 0 sl
def m_X5_save_sv (sv : Nat → Int32) (x : Int32) : Nat → Int32 := if m_X5_isSlot_r x = 0 then sv else upd sv (tn x) (nI 1)
set_option maxHeartbeats 4000000 in
set_option maxRecDepth 100000 in
theorem c_X5_save (l : Launch) (D : va_G) (k : Nat → ClassId) (a : Nat → Nat) (z : Nat → Int32) (f : Nat → Int32) (kp : Nat → Int32) (hi : Nat → Int32) (sl : Nat → Int32) (sv : Nat → Int32) (tx : Nat → Int32) (td : Nat → Int32) (x : Int32)  : mI l yX5_save (wsY yX5_save cX5_save 3 (some .int)) 1 D k [.ref (a 0), .int x] (refW k a z f kp hi sl sv tx td) (refW k a z f kp hi (m_X5_save_sl f sl x) (m_X5_save_sv sv x) tx td) (m_X5_save_r f x) := by
  refine mI_intro rfl (Nat.le_of_ble_eq_true rfl) (Or.inl rfl) ?_
  intro p e s m args below meth c A Q ls X hW hl hQ
  have hx := X.hx
  have hb := X.hb
  have hl : lv_has ls 3 [(0, .ref (a 0)), (1, .int x)] := hl
  refine lv_iload_n hx hb dX5_save_0 rfl (lv_at hl 1 rfl) ?_
  obtain ⟨z_1, hz_1⟩ : ∃ zq, m_X5_isSlot_r x = zq := ⟨_, rfl⟩
  have hM_2 := (c_X5_isSlot l D k x)
  rw [hz_1] at hM_2
  refine kSi (As := [.int x]) (rest := []) X hW hM_2 yw_X5_isSlot lk_X5_190 ⟨Nat.le_of_ble_eq_true rfl, Nat.le_of_ble_eq_true rfl⟩ rfl hl.1 rfl (Nat.le_of_ble_eq_true rfl) ⟨Nat.zero_le _, Nat.zero_le _⟩ dX5_save_1 (fun H locs hW => ?_)
  refine lv_if_ne (tgt := 10) hx hb dX5_save_4 (by decide) (fun c_3 => ?_) (fun c_3 => ?_)
  · obtain ⟨hs_4, ht_4⟩ := sl_n (x := x) (by rw [hz_1]; exact c_3)
    have hcu := c_3
    rw [← hz_1] at hcu
    refine lv_iconst (v := nI 0) hx hb dX5_save_10 (by decide +kernel) ?_
    refine lv_istore_n (lv' := [(2, .int (nI 0)), (0, .ref (a 0)), (1, .int x)]) hx hb dX5_save_11 rfl hl (by decide) rfl (fun ls hl => ?_)
    have lp12 : ∀ (r i : Nat) (y' : Nat → Int32) (H : Heap) (locs : List Loc) (ls : Array Slot), i + r = 1640 → lp_ch f (tn x) 1640 0 sl = lp_ch f (tn x) r i y' → KW D A s (refW k a z f kp hi y' sv tx td) H locs → lv_has ls 3 [(2, .int (nI i)), (0, .ref (a 0)), (1, .int x)] → W p l e (rmD 1) s m args below meth c H locs 0 0 Q (F0 m 12 ls []) := by
      intro r
      induction r with
      | zero =>
        intro i y' H locs ls hir hy hW hl
        replace hy : lp_ch f (tn x) 1640 0 sl = y' := hy
        refine lv_iload_n hx hb dX5_save_12 rfl (lv_at hl 0 rfl) ?_
        refine lv_sipush (v := nI 1640) hx hb dX5_save_13 (by decide +kernel) ?_
        refine lv_icmp_ge (tgt := 43) hx hb dX5_save_16 (by decide) (fun c_5 => ?_) (fun c_5 => ?_)
        · have c_5 : 1640 ≤ i := (nI_leI (a := 1640) (b := i) (by omega) (by omega)).mp c_5
          refine lv_aload_n hx hb dX5_save_43 rfl (lv_at hl 1 rfl) ?_
          refine k_get X hW inG5 rfl 5 (by decide) fl_X5_22 rfl 0 rfl (v := .ref (a 5)) rfl dX5_save_44 ?_
          refine lv_iload_n hx hb dX5_save_47 rfl (lv_at hl 2 rfl) ?_
          refine k_top (y := nI (tn x)) (hs_4) ?_
          refine lv_iconst (v := nI 1) hx hb dX5_save_48 (by decide +kernel) ?_
          refine k_iast X hW 5 rfl (j := (tn x)) rfl (by omega) (by decide) dX5_save_49 (w' := refW k a z f kp hi y' (upd sv (tn x) (nI 1)) tx td) rfl (fun H locs hW => ?_)
          refine lv_aload_n hx hb dX5_save_50 rfl (lv_at hl 1 rfl) ?_
          refine k_get X hW inG5 rfl 0 (by decide) fl_X5_7 rfl 0 rfl (v := .ref (a 1)) rfl dX5_save_51 ?_
          refine lv_iconst (v := nI 5) hx hb dX5_save_54 (by decide +kernel) ?_
          refine k_iald X hW 1 rfl (j := 5) (v := f 5) rfl (by decide) (by decide) rfl dX5_save_55 ?_
          exact hQ _ _ _ _ _ _ hW dX5_save_56 (by rw [m_X5_save_r, if_neg hcu]) (by rw [m_X5_save_sl, m_X5_save_sv, if_neg hcu, if_neg hcu, hy])
        · have c_5 : ¬ (1640 ≤ i) := fun h => c_5 ((nI_leI (a := 1640) (b := i) (by omega) (by omega)).mpr h)
          omega
      | succ r ih12 =>
        intro i y' H locs ls hir hy hW hl
        refine lv_iload_n hx hb dX5_save_12 rfl (lv_at hl 0 rfl) ?_
        refine lv_sipush (v := nI 1640) hx hb dX5_save_13 (by decide +kernel) ?_
        refine lv_icmp_ge (tgt := 43) hx hb dX5_save_16 (by decide) (fun c_6 => ?_) (fun c_6 => ?_)
        · have c_6 : 1640 ≤ i := (nI_leI (a := 1640) (b := i) (by omega) (by omega)).mp c_6
          omega
        · have c_6 : ¬ (1640 ≤ i) := fun h => c_6 ((nI_leI (a := 1640) (b := i) (by omega) (by omega)).mpr h)
          refine lv_aload_n hx hb dX5_save_19 rfl (lv_at hl 1 rfl) ?_
          refine k_get X hW inG5 rfl 4 (by decide) fl_X5_19 rfl 0 rfl (v := .ref (a 4)) rfl dX5_save_20 ?_
          refine lv_sipush (v := nI 1640) hx hb dX5_save_23 (by decide +kernel) ?_
          refine lv_iload_n hx hb dX5_save_26 rfl (lv_at hl 2 rfl) ?_
          refine k_top (y := nI (tn x)) (hs_4) ?_
          refine lv_imul hx hb dX5_save_27 ?_
          refine k_top (y := nI (1640 * (tn x))) (pk_mul _ _) ?_
          refine lv_iload_n hx hb dX5_save_28 rfl (lv_at hl 0 rfl) ?_
          refine lv_iadd hx hb dX5_save_29 ?_
          refine k_top (y := nI (1640 * (tn x) + i)) (nI_add _ _) ?_
          refine lv_aload_n hx hb dX5_save_30 rfl (lv_at hl 1 rfl) ?_
          refine k_get X hW inG5 rfl 0 (by decide) fl_X5_7 rfl 0 rfl (v := .ref (a 1)) rfl dX5_save_31 ?_
          refine lv_iload_n hx hb dX5_save_34 rfl (lv_at hl 0 rfl) ?_
          refine k_iald X hW 1 rfl (j := i) (v := f i) rfl (by omega) (by decide) rfl dX5_save_35 ?_
          refine k_iast X hW 4 rfl (j := (1640 * (tn x) + i)) rfl (by omega) (by decide) dX5_save_36 (w' := refW k a z f kp hi (upd y' (1640 * (tn x) + i) (f i)) sv tx td) rfl (fun H locs hW => ?_)
          refine lv_iinc (v := nI (i + 1)) (lv' := [(2, .int (nI (i + 1))), (0, .ref (a 0)), (1, .int x)]) hx hb dX5_save_37 hl (k := 0) rfl (k_inc _) (by decide) rfl (fun ls hl => ?_)
          refine lv_goto (tgt := 12) hx hb dX5_save_40 (by decide) ?_
          exact ih12 (i + 1) _ _ _ _ (by omega) (by rw [hy, lp_ch]) hW (lv_sub hl [0, 1, 2] rfl)
    exact lp12 1640 0 _ _ _ _ (by omega) rfl hW (lv_sub hl [0, 1, 2] rfl)
  · refine lv_bipush (v := (-2)) hx hb dX5_save_7 (by decide +kernel) ?_
    exact hQ _ _ _ _ _ _ hW dX5_save_9 (by subst hz_1; rw [m_X5_save_r, if_pos c_3]) (by subst hz_1; rw [m_X5_save_sl, m_X5_save_sv, if_pos c_3, if_pos c_3])
def m_X5_restore_r (f : Nat → Int32) (sl : Nat → Int32) (sv : Nat → Int32) (x : Int32) : Int32 := if m_X5_isSlot_r x = 0 then (-2) else if sv (tn x) = 0 then (-5) else (lp_un sl (tn x) 1640 0 f) 5
def m_X5_restore_z (z : Nat → Int32) (sv : Nat → Int32) (x : Int32) : Nat → Int32 := if m_X5_isSlot_r x = 0 then z else if sv (tn x) = 0 then z else m_X5_changes_z z
def m_X5_restore_f (f : Nat → Int32) (sl : Nat → Int32) (sv : Nat → Int32) (x : Int32) : Nat → Int32 := if m_X5_isSlot_r x = 0 then f else if sv (tn x) = 0 then f else lp_un sl (tn x) 1640 0 f
def m_X5_restore_hi (z : Nat → Int32) (f : Nat → Int32) (hi : Nat → Int32) (sv : Nat → Int32) (x : Int32) : Nat → Int32 := if m_X5_isSlot_r x = 0 then hi else if sv (tn x) = 0 then hi else m_X5_changes_hi z f hi
set_option maxHeartbeats 4000000 in
set_option maxRecDepth 100000 in
theorem c_X5_restore (l : Launch) (D : va_G) (k : Nat → ClassId) (a : Nat → Nat) (z : Nat → Int32) (f : Nat → Int32) (kp : Nat → Int32) (hi : Nat → Int32) (sl : Nat → Int32) (sv : Nat → Int32) (tx : Nat → Int32) (td : Nat → Int32) (x : Int32) (hz : z 3 = nI (tn (z 3))) (hz6 : tn (z 3) ≤ 6)  : mI l yX5_restore (wsY yX5_restore cX5_restore 3 (some .int)) 1 D k [.ref (a 0), .int x] (refW k a z f kp hi sl sv tx td) (refW k a (m_X5_restore_z z sv x) (m_X5_restore_f f sl sv x) kp (m_X5_restore_hi z f hi sv x) sl sv tx td) (m_X5_restore_r f sl sv x) := by
  refine mI_intro rfl (Nat.le_of_ble_eq_true rfl) (Or.inl rfl) ?_
  intro p e s m args below meth c A Q ls X hW hl hQ
  have hx := X.hx
  have hb := X.hb
  have hl : lv_has ls 3 [(0, .ref (a 0)), (1, .int x)] := hl
  refine lv_iload_n hx hb dX5_restore_0 rfl (lv_at hl 1 rfl) ?_
  obtain ⟨z_1, hz_1⟩ : ∃ zq, m_X5_isSlot_r x = zq := ⟨_, rfl⟩
  have hM_2 := (c_X5_isSlot l D k x)
  rw [hz_1] at hM_2
  refine kSi (As := [.int x]) (rest := []) X hW hM_2 yw_X5_isSlot lk_X5_190 ⟨Nat.le_of_ble_eq_true rfl, Nat.le_of_ble_eq_true rfl⟩ rfl hl.1 rfl (Nat.le_of_ble_eq_true rfl) ⟨Nat.zero_le _, Nat.zero_le _⟩ dX5_restore_1 (fun H locs hW => ?_)
  refine lv_if_ne (tgt := 10) hx hb dX5_restore_4 (by decide) (fun c_3 => ?_) (fun c_3 => ?_)
  · obtain ⟨hs_4, ht_4⟩ := sl_n (x := x) (by rw [hz_1]; exact c_3)
    have hcu := c_3
    rw [← hz_1] at hcu
    refine lv_aload_n hx hb dX5_restore_10 rfl (lv_at hl 0 rfl) ?_
    refine k_get X hW inG5 rfl 5 (by decide) fl_X5_22 rfl 0 rfl (v := .ref (a 5)) rfl dX5_restore_11 ?_
    refine lv_iload_n hx hb dX5_restore_14 rfl (lv_at hl 1 rfl) ?_
    refine k_top (y := nI (tn x)) (hs_4) ?_
    refine k_iald X hW 5 rfl (j := (tn x)) (v := sv (tn x)) rfl (by omega) (by decide) rfl dX5_restore_15 ?_
    refine lv_if_ne (tgt := 22) hx hb dX5_restore_16 (by decide) (fun c_5 => ?_) (fun c_5 => ?_)
    · have hcv := c_5
      refine lv_aload_n hx hb dX5_restore_22 rfl (lv_at hl 0 rfl) ?_
      obtain ⟨z_6, hz_6⟩ : ∃ zq, m_X5_changes_z z = zq := ⟨_, rfl⟩
      obtain ⟨z_7, hz_7⟩ : ∃ zq, m_X5_changes_hi z f hi = zq := ⟨_, rfl⟩
      have hM_8 := (c_X5_changes l D k a z f kp hi sl sv tx td  hz hz6)
      rw [hz_6, hz_7] at hM_8
      refine kVv (As := []) (rest := []) X hW hM_8 yw_X5_changes lk_X5_103 ⟨Nat.le_of_ble_eq_true rfl, Nat.le_of_ble_eq_true rfl⟩ (wr := []) (List.Perm.refl _) (w' := refW k a z_6 f kp z_7 sl sv tx td) (List.Perm.refl _) (k_rcv X hW (ci := 5) (q0 := 0) rfl rfl) rfl hl.1 rfl (Nat.le_of_ble_eq_true rfl) ⟨Nat.zero_le _, Nat.zero_le _⟩ dX5_restore_23 (fun H locs hW => ?_)
      refine lv_iconst (v := nI 0) hx hb dX5_restore_26 (by decide +kernel) ?_
      refine lv_istore_n (lv' := [(2, .int (nI 0)), (0, .ref (a 0)), (1, .int x)]) hx hb dX5_restore_27 rfl hl (by decide) rfl (fun ls hl => ?_)
      have lp28 : ∀ (r i : Nat) (y' : Nat → Int32) (H : Heap) (locs : List Loc) (ls : Array Slot), i + r = 1640 → lp_un sl (tn x) 1640 0 f = lp_un sl (tn x) r i y' → KW D A s (refW k a z_6 y' kp z_7 sl sv tx td) H locs → lv_has ls 3 [(2, .int (nI i)), (0, .ref (a 0)), (1, .int x)] → W p l e (rmD 1) s m args below meth c H locs 0 0 Q (F0 m 28 ls []) := by
        intro r
        induction r with
        | zero =>
          intro i y' H locs ls hir hy hW hl
          replace hy : lp_un sl (tn x) 1640 0 f = y' := hy
          refine lv_iload_n hx hb dX5_restore_28 rfl (lv_at hl 0 rfl) ?_
          refine lv_sipush (v := nI 1640) hx hb dX5_restore_29 (by decide +kernel) ?_
          refine lv_icmp_ge (tgt := 59) hx hb dX5_restore_32 (by decide) (fun c_9 => ?_) (fun c_9 => ?_)
          · have c_9 : 1640 ≤ i := (nI_leI (a := 1640) (b := i) (by omega) (by omega)).mp c_9
            refine lv_aload_n hx hb dX5_restore_59 rfl (lv_at hl 1 rfl) ?_
            refine k_get X hW inG5 rfl 0 (by decide) fl_X5_7 rfl 0 rfl (v := .ref (a 1)) rfl dX5_restore_60 ?_
            refine lv_iconst (v := nI 5) hx hb dX5_restore_63 (by decide +kernel) ?_
            refine k_iald X hW 1 rfl (j := 5) (v := y' 5) rfl (by decide) (by decide) rfl dX5_restore_64 ?_
            exact hQ _ _ _ _ _ _ hW dX5_restore_65 (by subst hz_7; subst hz_6; subst hz_1; rw [m_X5_restore_r, if_neg hcu, if_neg hcv, hy]) (by subst hz_7; subst hz_6; subst hz_1; rw [m_X5_restore_z, if_neg hcu, if_neg hcv, m_X5_restore_f, if_neg hcu, if_neg hcv, m_X5_restore_hi, if_neg hcu, if_neg hcv, hy])
          · have c_9 : ¬ (1640 ≤ i) := fun h => c_9 ((nI_leI (a := 1640) (b := i) (by omega) (by omega)).mpr h)
            omega
        | succ r ih28 =>
          intro i y' H locs ls hir hy hW hl
          refine lv_iload_n hx hb dX5_restore_28 rfl (lv_at hl 0 rfl) ?_
          refine lv_sipush (v := nI 1640) hx hb dX5_restore_29 (by decide +kernel) ?_
          refine lv_icmp_ge (tgt := 59) hx hb dX5_restore_32 (by decide) (fun c_10 => ?_) (fun c_10 => ?_)
          · have c_10 : 1640 ≤ i := (nI_leI (a := 1640) (b := i) (by omega) (by omega)).mp c_10
            omega
          · have c_10 : ¬ (1640 ≤ i) := fun h => c_10 ((nI_leI (a := 1640) (b := i) (by omega) (by omega)).mpr h)
            refine lv_aload_n hx hb dX5_restore_35 rfl (lv_at hl 1 rfl) ?_
            refine k_get X hW inG5 rfl 0 (by decide) fl_X5_7 rfl 0 rfl (v := .ref (a 1)) rfl dX5_restore_36 ?_
            refine lv_iload_n hx hb dX5_restore_39 rfl (lv_at hl 0 rfl) ?_
            refine lv_aload_n hx hb dX5_restore_40 rfl (lv_at hl 1 rfl) ?_
            refine k_get X hW inG5 rfl 4 (by decide) fl_X5_19 rfl 0 rfl (v := .ref (a 4)) rfl dX5_restore_41 ?_
            refine lv_sipush (v := nI 1640) hx hb dX5_restore_44 (by decide +kernel) ?_
            refine lv_iload_n hx hb dX5_restore_47 rfl (lv_at hl 2 rfl) ?_
            refine k_top (y := nI (tn x)) (hs_4) ?_
            refine lv_imul hx hb dX5_restore_48 ?_
            refine k_top (y := nI (1640 * (tn x))) (pk_mul _ _) ?_
            refine lv_iload_n hx hb dX5_restore_49 rfl (lv_at hl 0 rfl) ?_
            refine lv_iadd hx hb dX5_restore_50 ?_
            refine k_top (y := nI (1640 * (tn x) + i)) (nI_add _ _) ?_
            refine k_iald X hW 4 rfl (j := (1640 * (tn x) + i)) (v := sl (1640 * (tn x) + i)) rfl (by omega) (by decide) rfl dX5_restore_51 ?_
            refine k_iast X hW 1 rfl (j := i) rfl (by omega) (by decide) dX5_restore_52 (w' := refW k a z_6 (upd y' i (sl (1640 * (tn x) + i))) kp z_7 sl sv tx td) rfl (fun H locs hW => ?_)
            refine lv_iinc (v := nI (i + 1)) (lv' := [(2, .int (nI (i + 1))), (0, .ref (a 0)), (1, .int x)]) hx hb dX5_restore_53 hl (k := 0) rfl (k_inc _) (by decide) rfl (fun ls hl => ?_)
            refine lv_goto (tgt := 28) hx hb dX5_restore_56 (by decide) ?_
            exact ih28 (i + 1) _ _ _ _ (by omega) (by rw [hy, lp_un]) hW (lv_sub hl [0, 1, 2] rfl)
      exact lp28 1640 0 _ _ _ _ (by omega) rfl hW (lv_sub hl [0, 1, 2] rfl)
    · refine lv_bipush (v := (-5)) hx hb dX5_restore_19 (by decide +kernel) ?_
      exact hQ _ _ _ _ _ _ hW dX5_restore_21 (by subst hz_1; rw [m_X5_restore_r, if_neg c_3, if_pos c_5]) (by subst hz_1; rw [m_X5_restore_z, if_neg c_3, if_pos c_5, m_X5_restore_f, if_neg c_3, if_pos c_5, m_X5_restore_hi, if_neg c_3, if_pos c_5])
  · refine lv_bipush (v := (-2)) hx hb dX5_restore_7 (by decide +kernel) ?_
    exact hQ _ _ _ _ _ _ hW dX5_restore_9 (by subst hz_1; rw [m_X5_restore_r, if_pos c_3]) (by subst hz_1; rw [m_X5_restore_z, if_pos c_3, m_X5_restore_f, if_pos c_3, m_X5_restore_hi, if_pos c_3])
