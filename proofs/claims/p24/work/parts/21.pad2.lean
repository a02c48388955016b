def lp_size : Nat → Int64 → Nat → Int32
  | 0, _, i => nI i
  | r + 1, x, i => if x = 0 then nI i else if (x &&& 255) < 33 then nI 0 else if 126 < (x &&& 255) then nI 0 else lp_size r ((x.toUInt64 >>> ((nI 8).toInt64.toUInt64 &&& Int64.toUInt64 63)).toInt64) (i + 1)
def m_X2_sizeOf_r (x : Int64) : Int32 := lp_size 8 x 0
theorem lp_size_n : ∀ (r : Nat) (x : Int64) (i : Nat), ∃ n, n ≤ i + r ∧ lp_size r x i = nI n := by
  intro r
  induction r with
  | zero => intro x i; exact ⟨i, Nat.le_refl _, rfl⟩
  | succ r ih =>
    intro x i
    rw [lp_size]
    split
    · exact ⟨i, by omega, rfl⟩
    · split
      · exact ⟨0, by omega, rfl⟩
      · split
        · exact ⟨0, by omega, rfl⟩
        · obtain ⟨n, h1, h2⟩ := ih ((x.toUInt64 >>> ((nI 8).toInt64.toUInt64 &&& Int64.toUInt64 63)).toInt64) (i + 1)
          exact ⟨n, by omega, h2⟩
theorem size_n (x : Int64) : m_X2_sizeOf_r x = nI (tn (m_X2_sizeOf_r x)) ∧ tn (m_X2_sizeOf_r x) ≤ 8 := by
  obtain ⟨n, h1, h2⟩ := lp_size_n 8 x 0
  have e : m_X2_sizeOf_r x = nI n := h2
  rw [e, tn_of rfl (by omega)]
  exact ⟨rfl, by omega⟩
set_option maxHeartbeats 4000000 in
set_option maxRecDepth 100000 in
theorem c_X2_sizeOf (l : Launch) (D : va_G) (k : Nat → ClassId)   (x : Int64)  : mI l yX2_sizeOf (wsY yX2_sizeOf cX2_sizeOf 7 (some .int)) 0 D k [.long x] [] [] (m_X2_sizeOf_r x) := by
  refine mI_intro rfl (Nat.le_of_ble_eq_true rfl) (Or.inl rfl) ?_
  intro p e s m args below meth c A Q ls X hW hl hQ
  have hx := X.hx
  have hb := X.hb
  have hl : lv_has ls 7 [(0, .long x)] := hl
  refine lv_lload_n hx hb dX2_sizeOf_0 rfl (lv_at hl 0 rfl) ?_
  refine lv_lstore_n (lv' := [(2, .long x), (0, .long x)]) hx hb dX2_sizeOf_1 rfl hl (by decide) rfl (fun ls hl => ?_)
  refine lv_iconst (v := nI 0) hx hb dX2_sizeOf_2 (by decide +kernel) ?_
  refine lv_istore (lv' := [(4, .int (nI 0)), (2, .long x), (0, .long x)]) hx hb dX2_sizeOf_3 hl (by decide) rfl (fun ls hl => ?_)
  have lp : ∀ (r : Nat) (y : Int64) (i : Nat) (H : Heap) (locs : List Loc) (ls : Array Slot), i + r = 8 → m_X2_sizeOf_r x = lp_size r y i → KW D A s [] H locs → lv_has ls 7 [(4, .int (nI i)), (2, .long y), (0, .long x)] → W p l e (rmD 0) s m args below meth c H locs 0 0 Q (F0 m 5 ls []) := by
    intro r
    induction r with
    | zero =>
      intro y i H locs ls hir hr hW hl
      refine lv_iload hx hb dX2_sizeOf_5 (lv_at hl 0 rfl) ?_
      refine lv_bipush (v := nI 8) hx hb dX2_sizeOf_7 (by decide +kernel) ?_
      refine lv_icmp_ge (tgt := 56) hx hb dX2_sizeOf_9 (by decide) (fun c_1 => ?_) (fun c_1 => ?_)
      · have c_1 : 8 ≤ i := (nI_leI (a := 8) (b := i) (by omega) (by omega)).mp c_1
        refine lv_iload hx hb dX2_sizeOf_56 (lv_at hl 0 rfl) ?_
        exact hQ _ _ _ _ _ _ hW dX2_sizeOf_58 (by rw [hr, lp_size]) rfl
      · have c_1 : ¬ (8 ≤ i) := fun h => c_1 ((nI_leI (a := 8) (b := i) (by omega) (by omega)).mpr h)
        omega
    | succ r ih =>
      intro y i H locs ls hir hr hW hl
      refine lv_iload hx hb dX2_sizeOf_5 (lv_at hl 0 rfl) ?_
      refine lv_bipush (v := nI 8) hx hb dX2_sizeOf_7 (by decide +kernel) ?_
      refine lv_icmp_ge (tgt := 56) hx hb dX2_sizeOf_9 (by decide) (fun c_2 => ?_) (fun c_2 => ?_)
      · have c_2 : 8 ≤ i := (nI_leI (a := 8) (b := i) (by omega) (by omega)).mp c_2
        omega
      · have c_2 : ¬ (8 ≤ i) := fun h => c_2 ((nI_leI (a := 8) (b := i) (by omega) (by omega)).mpr h)
        refine lv_lload_n hx hb dX2_sizeOf_12 rfl (lv_at hl 1 rfl) ?_
        refine lv_lconst (v := 0) hx hb dX2_sizeOf_13 (by decide +kernel) ?_
        refine W.lcmp hx hb dX2_sizeOf_14 ?_
        refine lv_if_eq (tgt := 56) hx hb dX2_sizeOf_15 (by decide) (fun c_3 => ?_) (fun c_3 => ?_)
        · have c_3 : y = 0 := lc_eq.mp c_3
          refine lv_iload hx hb dX2_sizeOf_56 (lv_at hl 0 rfl) ?_
          exact hQ _ _ _ _ _ _ hW dX2_sizeOf_58 (by rw [hr, lp_size, if_pos c_3]) rfl
        · have c_3 : ¬ (y = 0) := fun h => c_3 (lc_eq.mpr h)
          refine lv_lload_n hx hb dX2_sizeOf_18 rfl (lv_at hl 1 rfl) ?_
          refine lv_ldc2 hx hb X.hown (X.wd kl_X2_46) dX2_sizeOf_19 ?_
          refine lv_land hx hb dX2_sizeOf_22 ?_
          refine lv_lstore (lv' := [(5, .long (y &&& 255)), (4, .int (nI i)), (2, .long y), (0, .long x)]) hx hb dX2_sizeOf_23 hl (by decide) rfl (fun ls hl => ?_)
          refine lv_lload hx hb dX2_sizeOf_25 (lv_at hl 0 rfl) ?_
          refine lv_ldc2 hx hb X.hown (X.wd kl_X2_48) dX2_sizeOf_27 ?_
          refine W.lcmp hx hb dX2_sizeOf_30 ?_
          refine lv_if_lt (tgt := 43) hx hb dX2_sizeOf_31 (by decide) (fun c_4 => ?_) (fun c_4 => ?_)
          · have c_4 : y &&& 255 < 33 := lc_lt.mp c_4
            refine lv_iconst (v := nI 0) hx hb dX2_sizeOf_43 (by decide +kernel) ?_
            exact hQ _ _ _ _ _ _ hW dX2_sizeOf_44 (by rw [hr, lp_size, if_neg c_3, if_pos c_4]) rfl
          · have c_4 : ¬ (y &&& 255 < 33) := fun h => c_4 (lc_lt.mpr h)
            refine lv_lload hx hb dX2_sizeOf_34 (lv_at hl 0 rfl) ?_
            refine lv_ldc2 hx hb X.hown (X.wd kl_X2_50) dX2_sizeOf_36 ?_
            refine W.lcmp hx hb dX2_sizeOf_39 ?_
            refine lv_if_le (tgt := 45) hx hb dX2_sizeOf_40 (by decide) (fun c_5 => ?_) (fun c_5 => ?_)
            · have c_5 : ¬ (126 < y &&& 255) := lc_le.mp c_5
              refine lv_lload_n hx hb dX2_sizeOf_45 rfl (lv_at hl 2 rfl) ?_
              refine lv_bipush (v := nI 8) hx hb dX2_sizeOf_46 (by decide +kernel) ?_
              refine lv_lushr hx hb dX2_sizeOf_48 rfl ?_
              refine lv_lstore_n (lv' := [(2, .long ((y.toUInt64 >>> ((nI 8).toInt64.toUInt64 &&& Int64.toUInt64 63)).toInt64)), (5, .long (y &&& 255)), (4, .int (nI i)), (0, .long x)]) hx hb dX2_sizeOf_49 rfl hl (by decide) rfl (fun ls hl => ?_)
              refine lv_iinc (v := nI (i + 1)) (lv' := [(4, .int (nI (i + 1))), (2, .long ((y.toUInt64 >>> ((nI 8).toInt64.toUInt64 &&& Int64.toUInt64 63)).toInt64)), (5, .long (y &&& 255)), (0, .long x)]) hx hb dX2_sizeOf_50 hl (k := 2) rfl (k_inc _) (by decide) rfl (fun ls hl => ?_)
              refine lv_goto (tgt := 5) hx hb dX2_sizeOf_53 (by decide) ?_
              exact ih ((y.toUInt64 >>> ((nI 8).toInt64.toUInt64 &&& Int64.toUInt64 63)).toInt64) (i + 1) _ _ _ (by omega) (by rw [hr, lp_size, if_neg c_3, if_neg c_4, if_neg c_5]) hW (lv_sub hl [0, 1, 3] rfl)
            · have c_5 : 126 < y &&& 255 := Classical.byContradiction (fun h => c_5 (lc_le.mpr h))
              refine lv_iconst (v := nI 0) hx hb dX2_sizeOf_43 (by decide +kernel) ?_
              exact hQ _ _ _ _ _ _ hW dX2_sizeOf_44 (by rw [hr, lp_size, if_neg c_3, if_neg c_4, if_pos c_5]) rfl
  exact lp 8 x 0 _ _ _ (by omega) rfl hW (lv_sub hl [0, 1, 2] rfl)
def lp_app (x : Int64) (n L : Nat) : Nat → Nat → (Nat → Int32) → (Nat → Int32)
  | 0, _, g => g
  | r + 1, i, g => lp_app x n L r (i + 1) (upd g (L + i) ((((((x.toUInt64 >>> (((nI 8) * (((nI n) - (nI 1)) - (nI i))).toInt64.toUInt64 &&& Int64.toUInt64 63)).toInt64) &&& 255).toInt32).toUInt32 % 65536).toInt32))
def m_X2_append_g (z : Nat → Int32) (g : Nat → Int32) (x : Int64) : Nat → Int32 := if tn (m_X2_sizeOf_r x) = 0 then g else if tn (z 1) + (tn (m_X2_sizeOf_r x)) ≤ 80 then lp_app x (tn (m_X2_sizeOf_r x)) (tn (z 1)) (tn (m_X2_sizeOf_r x)) 0 g else g
def m_X2_append_r (z : Nat → Int32) (x : Int64) : Int32 := if tn (m_X2_sizeOf_r x) = 0 then (-2) else if tn (z 1) + (tn (m_X2_sizeOf_r x)) ≤ 80 then nI (tn (z 1) + (tn (m_X2_sizeOf_r x))) else (-4)
def m_X2_append_z (z : Nat → Int32) (x : Int64) : Nat → Int32 := if tn (m_X2_sizeOf_r x) = 0 then z else if tn (z 1) + (tn (m_X2_sizeOf_r x)) ≤ 80 then upd z 1 (nI (tn (z 1) + (tn (m_X2_sizeOf_r x)))) else z
set_option maxHeartbeats 4000000 in
set_option maxRecDepth 100000 in
theorem c_X2_append (l : Launch) (D : va_G) (k : Nat → ClassId) (o sa : Nat) (z : Nat → Int32) (g : Nat → Int32) (x : Int64) (hp : PD z)  : mI l yX2_append (wsY yX2_append cX2_append 5 (some .int)) 1 D k [.ref o, .long x] (padW k o sa z g) (padW k o sa (m_X2_append_z z x) (m_X2_append_g z g x)) (m_X2_append_r z x) := by
  refine mI_intro rfl (Nat.le_of_ble_eq_true rfl) (Or.inl rfl) ?_
  intro p e s m args below meth c A Q ls X hW hl hQ
  have hx := X.hx
  have hb := X.hb
  have hl : lv_has ls 5 [(0, .ref o), (1, .long x)] := hl
  have hq_1 := hp.1.2
  have hq_2 := hp.2.2
  refine lv_lload_n hx hb dX2_append_0 rfl (lv_at hl 1 rfl) ?_
  obtain ⟨z_3, hz_3⟩ : ∃ zq, m_X2_sizeOf_r x = zq := ⟨_, rfl⟩
  obtain ⟨hs_z_3, ht_z_3⟩ : z_3 = nI (tn z_3) ∧ tn z_3 ≤ 8 := by rw [← hz_3]; exact size_n _
  have hM_4 := (c_X2_sizeOf l D k x)
  rw [hz_3] at hM_4
  refine kSi (As := [.long x]) (rest := []) X hW hM_4 yw_X2_sizeOf lk_X2_42 ⟨Nat.le_of_ble_eq_true rfl, Nat.le_of_ble_eq_true rfl⟩ rfl hl.1 rfl (Nat.le_of_ble_eq_true rfl) ⟨Nat.zero_le _, Nat.zero_le _⟩ dX2_append_1 (fun H locs hW => ?_)
  refine k_top (y := nI (tn z_3)) (hs_z_3) ?_
  refine lv_istore_n (lv' := [(3, .int (nI (tn z_3))), (0, .ref o), (1, .long x)]) hx hb dX2_append_4 rfl hl (by decide) rfl (fun ls hl => ?_)
  refine lv_iload_n hx hb dX2_append_5 rfl (lv_at hl 0 rfl) ?_
  refine lv_if_ne (tgt := 12) hx hb dX2_append_6 (by decide) (fun c_5 => ?_) (fun c_5 => ?_)
  · have c_5 : ¬ (tn z_3 = 0) := fun h => c_5 ((nI_eq (a := tn z_3) (b := 0) (by omega) (by omega)).mpr h)
    refine lv_aload_n hx hb dX2_append_12 rfl (lv_at hl 1 rfl) ?_
    refine k_get X hW inG2 rfl 1 (by decide) fl_X2_15 rfl 0 rfl (v := .int (z 1)) rfl dX2_append_13 ?_
    refine k_top (y := nI (tn (z 1))) (hp.1.1) ?_
    refine lv_iload_n hx hb dX2_append_16 rfl (lv_at hl 0 rfl) ?_
    refine lv_iadd hx hb dX2_append_17 ?_
    refine k_top (y := nI (tn (z 1) + (tn z_3))) (nI_add _ _) ?_
    refine lv_bipush (v := nI 80) hx hb dX2_append_18 (by decide +kernel) ?_
    refine lv_icmp_le (tgt := 26) hx hb dX2_append_20 (by decide) (fun c_6 => ?_) (fun c_6 => ?_)
    · have c_6 : tn (z 1) + (tn z_3) ≤ 80 := (nI_leI (a := tn (z 1) + (tn z_3)) (b := 80) (by omega) (by omega)).mp c_6
      refine lv_iconst (v := nI 0) hx hb dX2_append_26 (by decide +kernel) ?_
      refine lv_istore (lv' := [(4, .int (nI 0)), (3, .int (nI (tn z_3))), (0, .ref o), (1, .long x)]) hx hb dX2_append_27 hl (by decide) rfl (fun ls hl => ?_)
      have kx : ∀ (g' : Nat → Int32) (H : Heap) (locs : List Loc) (ls : Array Slot), lp_app x (tn z_3) (tn (z 1)) (tn z_3) 0 g = g' → KW D A s (padW k o sa z g') H locs → lv_has ls 5 [(3, .int (nI (tn z_3))), (0, .ref o), (1, .long x)] → W p l e (rmD 1) s m args below meth c H locs 0 0 Q (F0 m 70 ls []) := by
        intro g' H locs ls hg hW hl
        refine lv_aload_n hx hb dX2_append_70 rfl (lv_at hl 1 rfl) ?_
        refine lv_dup hx hb dX2_append_71 rfl ?_
        refine k_get X hW inG2 rfl 1 (by decide) fl_X2_15 rfl 0 rfl (v := .int (z 1)) rfl dX2_append_72 ?_
        refine k_top (y := nI (tn (z 1))) (hp.1.1) ?_
        refine lv_iload_n hx hb dX2_append_75 rfl (lv_at hl 0 rfl) ?_
        refine lv_iadd hx hb dX2_append_76 ?_
        refine k_top (y := nI (tn (z 1) + (tn z_3))) (nI_add _ _) ?_
        refine k_put X hW inG2 rfl tyX2_ok nmX2 1 (by decide) fl_X2_15 rfl rfl 0 rfl rfl rfl (Nat.le_of_ble_eq_true rfl) dX2_append_77 (w' := padW k o sa (upd z 1 (nI (tn (z 1) + (tn z_3)))) g') rfl (fun H locs hW => ?_)
        refine lv_aload_n hx hb dX2_append_80 rfl (lv_at hl 1 rfl) ?_
        refine k_get X hW inG2 rfl 1 (by decide) fl_X2_15 rfl 0 rfl (v := .int (nI (tn (z 1) + (tn z_3)))) rfl dX2_append_81 ?_
        exact hQ _ _ _ _ _ _ hW dX2_append_84 (by subst hz_3; rw [m_X2_append_r, if_neg c_5, if_pos c_6]) (by subst hz_3; rw [m_X2_append_z, if_neg c_5, if_pos c_6, m_X2_append_g, if_neg c_5, if_pos c_6]; try (rw [hg]); try rfl)
      have lp : ∀ (r i : Nat) (g' : Nat → Int32) (H : Heap) (locs : List Loc) (ls : Array Slot), i + r = tn z_3 → lp_app x (tn z_3) (tn (z 1)) (tn z_3) 0 g = lp_app x (tn z_3) (tn (z 1)) r i g' → KW D A s (padW k o sa z g') H locs → lv_has ls 5 [(4, .int (nI i)), (3, .int (nI (tn z_3))), (0, .ref o), (1, .long x)] → W p l e (rmD 1) s m args below meth c H locs 0 0 Q (F0 m 29 ls []) := by
        intro r
        induction r with
        | zero =>
          intro i g' H locs ls hir hg hW hl
          refine lv_iload hx hb dX2_append_29 (lv_at hl 0 rfl) ?_
          refine lv_iload_n hx hb dX2_append_31 rfl (lv_at hl 1 rfl) ?_
          refine lv_icmp_ge (tgt := 70) hx hb dX2_append_32 (by decide) (fun c_7 => ?_) (fun c_7 => ?_)
          · have c_7 : tn z_3 ≤ i := (nI_leI (a := tn z_3) (b := i) (by omega) (by omega)).mp c_7
            exact kx g' _ _ _ (by rw [hg, lp_app]) hW (lv_sub hl [1, 2, 3] rfl)
          · have c_7 : ¬ (tn z_3 ≤ i) := fun h => c_7 ((nI_leI (a := tn z_3) (b := i) (by omega) (by omega)).mpr h)
            omega
        | succ r ih =>
          intro i g' H locs ls hir hg hW hl
          refine lv_iload hx hb dX2_append_29 (lv_at hl 0 rfl) ?_
          refine lv_iload_n hx hb dX2_append_31 rfl (lv_at hl 1 rfl) ?_
          refine lv_icmp_ge (tgt := 70) hx hb dX2_append_32 (by decide) (fun c_8 => ?_) (fun c_8 => ?_)
          · have c_8 : tn z_3 ≤ i := (nI_leI (a := tn z_3) (b := i) (by omega) (by omega)).mp c_8
            omega
          · have c_8 : ¬ (tn z_3 ≤ i) := fun h => c_8 ((nI_leI (a := tn z_3) (b := i) (by omega) (by omega)).mpr h)
            refine lv_aload_n hx hb dX2_append_35 rfl (lv_at hl 2 rfl) ?_
            refine k_get X hW inG2 rfl 0 (by decide) fl_X2_11 rfl 0 rfl (v := .ref sa) rfl dX2_append_36 ?_
            refine lv_aload_n hx hb dX2_append_39 rfl (lv_at hl 2 rfl) ?_
            refine k_get X hW inG2 rfl 1 (by decide) fl_X2_15 rfl 0 rfl (v := .int (z 1)) rfl dX2_append_40 ?_
            refine k_top (y := nI (tn (z 1))) (hp.1.1) ?_
            refine lv_iload hx hb dX2_append_43 (lv_at hl 0 rfl) ?_
            refine lv_iadd hx hb dX2_append_45 ?_
            refine k_top (y := nI (tn (z 1) + i)) (nI_add _ _) ?_
            refine lv_lload_n hx hb dX2_append_46 rfl (lv_at hl 3 rfl) ?_
            refine lv_bipush (v := nI 8) hx hb dX2_append_47 (by decide +kernel) ?_
            refine lv_iload_n hx hb dX2_append_49 rfl (lv_at hl 1 rfl) ?_
            refine lv_iconst (v := nI 1) hx hb dX2_append_50 (by decide +kernel) ?_
            refine lv_isub hx hb dX2_append_51 ?_
            refine lv_iload hx hb dX2_append_52 (lv_at hl 0 rfl) ?_
            refine lv_isub hx hb dX2_append_54 ?_
            refine lv_imul hx hb dX2_append_55 ?_
            refine lv_lushr hx hb dX2_append_56 rfl ?_
            refine lv_ldc2 hx hb X.hown (X.wd kl_X2_46) dX2_append_57 ?_
            refine lv_land hx hb dX2_append_60 ?_
            refine lv_l2i hx hb dX2_append_61 rfl ?_
            refine lv_i2c hx hb dX2_append_62 rfl ?_
            refine k_cast X hW 1 rfl (j := (tn (z 1) + i)) rfl (by omega) (by decide) (x' := (((((x.toUInt64 >>> (((nI 8) * (((nI (tn z_3)) - (nI 1)) - (nI i))).toInt64.toUInt64 &&& Int64.toUInt64 63)).toInt64) &&& 255).toInt32).toUInt32 % 65536).toInt32) (pk_vc _) dX2_append_63 (w' := padW k o sa z (upd g' (tn (z 1) + i) ((((((x.toUInt64 >>> (((nI 8) * (((nI (tn z_3)) - (nI 1)) - (nI i))).toInt64.toUInt64 &&& Int64.toUInt64 63)).toInt64) &&& 255).toInt32).toUInt32 % 65536).toInt32))) rfl (fun H locs hW => ?_)
            refine lv_iinc (v := nI (i + 1)) (lv' := [(4, .int (nI (i + 1))), (3, .int (nI (tn z_3))), (0, .ref o), (1, .long x)]) hx hb dX2_append_64 hl (k := 0) rfl (k_inc _) (by decide) rfl (fun ls hl => ?_)
            refine lv_goto (tgt := 29) hx hb dX2_append_67 (by decide) ?_
            exact ih (i + 1) _ _ _ _ (by omega) (by rw [hg, lp_app]) hW (lv_sub hl [0, 1, 2, 3] rfl)
      exact lp (tn z_3) 0 g _ _ _ (by omega) rfl hW (lv_sub hl [0, 1, 2, 3] rfl)
    · have c_6 : ¬ (tn (z 1) + (tn z_3) ≤ 80) := fun h => c_6 ((nI_leI (a := tn (z 1) + (tn z_3)) (b := 80) (by omega) (by omega)).mpr h)
      refine lv_bipush (v := (-4)) hx hb dX2_append_23 (by decide +kernel) ?_
      exact hQ _ _ _ _ _ _ hW dX2_append_25 (by subst hz_3; rw [m_X2_append_r, if_neg c_5, if_neg c_6]) (by subst hz_3; rw [m_X2_append_z, if_neg c_5, if_neg c_6, m_X2_append_g, if_neg c_5, if_neg c_6]; try (rw [hg]); try rfl)
  · have c_5 : tn z_3 = 0 := (nI_eq (a := tn z_3) (b := 0) (by omega) (by omega)).mp c_5
    refine lv_bipush (v := (-2)) hx hb dX2_append_9 (by decide +kernel) ?_
    exact hQ _ _ _ _ _ _ hW dX2_append_11 (by subst hz_3; rw [m_X2_append_r, if_pos c_5]) (by subst hz_3; rw [m_X2_append_z, if_pos c_5, m_X2_append_g, if_pos c_5]; try (rw [hg]); try rfl)
theorem PD_X2_append {z : Nat → Int32} {x : Int64} (h : PD z) : PD (m_X2_append_z z x) := by
  rw [m_X2_append_z]
  split
  · exact h
  · split
    · exact (PD_len h (by omega))
    · exact h
def lp_ff (g : Nat → Int32) : Nat → (Nat → Int32) → Int32 → (Nat → Int32)
  | 0, z, _ => z
  | r + 1, z, mo => if mo = 0 then z else lp_ff g r (m_X2_readOrder_z z g) (m_X2_readOrder_r z g)
theorem PD_ff (g : Nat → Int32) : ∀ (r : Nat) (z : Nat → Int32) (mo : Int32), PD z → PD (lp_ff g r z mo) := by
  intro r
  induction r with
  | zero => intro z mo h; exact h
  | succ r ih =>
    intro z mo h
    rw [lp_ff]
    split
    · exact h
    · exact ih _ _ (PD_X2_readOrder h)
def m_ffrest_r (z1 : Nat → Int32) : Int32 := if z1 3 = 0 then (if tn (z1 1) ≤ tn (z1 2) then (-6) else nI (tn (z1 2))) else nI (tn (z1 2))
def m_X2_firstFault_z (z : Nat → Int32) (g : Nat → Int32) : Nat → Int32 := lp_ff g 80 (m_X2_startReading_z z) (nI 1)
def m_X2_firstFault_r (z : Nat → Int32) (g : Nat → Int32) : Int32 := m_ffrest_r (m_X2_firstFault_z z g)
theorem PD_X2_firstFault {z : Nat → Int32} {g : Nat → Int32} (h : PD z) : PD (m_X2_firstFault_z z g) := PD_ff g 80 _ _ (PD_X2_startReading h)
set_option maxHeartbeats 4000000 in
set_option maxRecDepth 100000 in
theorem c_X2_firstFault (l : Launch) (D : va_G) (k : Nat → ClassId) (o sa : Nat) (z : Nat → Int32) (g : Nat → Int32)  (hp : PD z)  : mI l yX2_firstFault (wsY yX2_firstFault cX2_firstFault 3 (some .int)) 5 D k [.ref o] (padW k o sa z g) (padW k o sa (m_X2_firstFault_z z g) g) (m_X2_firstFault_r z g) := by
  refine mI_intro rfl (Nat.le_of_ble_eq_true rfl) (Or.inl rfl) ?_
  intro p e s m args below meth c A Q ls X hW hl hQ
  have hx := X.hx
  have hb := X.hb
  have hl : lv_has ls 3 [(0, .ref o)] := hl
  have hq_1 := hp.1.2
  have hq_2 := hp.2.2
  refine lv_aload_n hx hb dX2_firstFault_0 rfl (lv_at hl 0 rfl) ?_
  obtain ⟨z_3, hz_3⟩ : ∃ zq, m_X2_startReading_z z = zq := ⟨_, rfl⟩
  have hp_z_3 : PD z_3 := by rw [← hz_3]; exact PD_X2_startReading hp
  have hq_4 := hp_z_3.1.2
  have hq_5 := hp_z_3.2.2
  have hM_6 := (c_X2_startReading l D k o sa z g  hp)
  rw [hz_3] at hM_6
  refine kVv (As := []) (rest := []) X hW hM_6 yw_X2_startReading lk_X2_52 ⟨Nat.le_of_ble_eq_true rfl, Nat.le_of_ble_eq_true rfl⟩ (wr := []) (List.Perm.refl _) (w' := padW k o sa z_3 g) (List.Perm.refl _) (k_rcv X hW (ci := 2) (q0 := 0) rfl rfl) rfl hl.1 rfl (Nat.le_of_ble_eq_true rfl) ⟨Nat.zero_le _, Nat.zero_le _⟩ dX2_firstFault_1 (fun H locs hW => ?_)
  refine lv_iconst (v := nI 1) hx hb dX2_firstFault_4 (by decide +kernel) ?_
  refine lv_istore_n (lv' := [(1, .int (nI 1)), (0, .ref o)]) hx hb dX2_firstFault_5 rfl hl (by decide) rfl (fun ls hl => ?_)
  refine lv_iconst (v := nI 0) hx hb dX2_firstFault_6 (by decide +kernel) ?_
  refine lv_istore_n (lv' := [(2, .int (nI 0)), (1, .int (nI 1)), (0, .ref o)]) hx hb dX2_firstFault_7 rfl hl (by decide) rfl (fun ls hl => ?_)
  have kx : ∀ (z1 : Nat → Int32) (H : Heap) (locs : List Loc) (ls : Array Slot), PD z1 → m_X2_firstFault_r z g = m_ffrest_r z1 → m_X2_firstFault_z z g = z1 → KW D A s (padW k o sa z1 g) H locs → lv_has ls 3 [(0, .ref o)] → W p l e (rmD 5) s m args below meth c H locs 0 0 Q (F0 m 29 ls []) := by
    intro z1 H locs ls hp1 hr hu hW hl
    have hq_7 := hp1.1.2
    have hq_8 := hp1.2.2
    refine lv_aload_n hx hb dX2_firstFault_29 rfl (lv_at hl 0 rfl) ?_
    refine k_get X hW inG2 rfl 3 (by decide) fl_X2_22 rfl 0 rfl (v := .int (z1 3)) rfl dX2_firstFault_30 ?_
    refine lv_if_ne (tgt := 47) hx hb dX2_firstFault_33 (by decide) (fun c_9 => ?_) (fun c_9 => ?_)
    · refine lv_aload_n hx hb dX2_firstFault_47 rfl (lv_at hl 0 rfl) ?_
      refine k_get X hW inG2 rfl 2 (by decide) fl_X2_19 rfl 0 rfl (v := .int (z1 2)) rfl dX2_firstFault_48 ?_
      refine k_top (y := nI (tn (z1 2))) (hp1.2.1) ?_
      refine lv_goto (tgt := 56) hx hb dX2_firstFault_51 (by decide) ?_
      exact hQ _ _ _ _ _ _ hW dX2_firstFault_56 (by subst hz_3; rw [hr, m_ffrest_r, if_neg c_9]) (by rw [hu])
    · refine lv_aload_n hx hb dX2_firstFault_36 rfl (lv_at hl 0 rfl) ?_
      refine k_get X hW inG2 rfl 2 (by decide) fl_X2_19 rfl 0 rfl (v := .int (z1 2)) rfl dX2_firstFault_37 ?_
      refine k_top (y := nI (tn (z1 2))) (hp1.2.1) ?_
      refine lv_aload_n hx hb dX2_firstFault_40 rfl (lv_at hl 0 rfl) ?_
      refine k_get X hW inG2 rfl 1 (by decide) fl_X2_15 rfl 0 rfl (v := .int (z1 1)) rfl dX2_firstFault_41 ?_
      refine k_top (y := nI (tn (z1 1))) (hp1.1.1) ?_
      refine lv_icmp_ge (tgt := 54) hx hb dX2_firstFault_44 (by decide) (fun c_10 => ?_) (fun c_10 => ?_)
      · have c_10 : tn (z1 1) ≤ tn (z1 2) := (nI_leI (a := tn (z1 1)) (b := tn (z1 2)) (by omega) (by omega)).mp c_10
        refine lv_bipush (v := (-6)) hx hb dX2_firstFault_54 (by decide +kernel) ?_
        exact hQ _ _ _ _ _ _ hW dX2_firstFault_56 (by subst hz_3; rw [hr, m_ffrest_r, if_pos c_9, if_pos c_10]) (by rw [hu])
      · have c_10 : ¬ (tn (z1 1) ≤ tn (z1 2)) := fun h => c_10 ((nI_leI (a := tn (z1 1)) (b := tn (z1 2)) (by omega) (by omega)).mpr h)
        refine lv_aload_n hx hb dX2_firstFault_47 rfl (lv_at hl 0 rfl) ?_
        refine k_get X hW inG2 rfl 2 (by decide) fl_X2_19 rfl 0 rfl (v := .int (z1 2)) rfl dX2_firstFault_48 ?_
        refine k_top (y := nI (tn (z1 2))) (hp1.2.1) ?_
        refine lv_goto (tgt := 56) hx hb dX2_firstFault_51 (by decide) ?_
        exact hQ _ _ _ _ _ _ hW dX2_firstFault_56 (by subst hz_3; rw [hr, m_ffrest_r, if_pos c_9, if_neg c_10]) (by rw [hu])
  have lp : ∀ (r i : Nat) (z' : Nat → Int32) (mo : Int32), PD z' → ∀ (H : Heap) (locs : List Loc) (ls : Array Slot), i + r = 80 → (∀ y, y = lp_ff g r z' mo → m_X2_firstFault_r z g = m_ffrest_r y ∧ m_X2_firstFault_z z g = y) → KW D A s (padW k o sa z' g) H locs → lv_has ls 3 [(2, .int (nI i)), (1, .int mo), (0, .ref o)] → W p l e (rmD 5) s m args below meth c H locs 0 0 Q (F0 m 8 ls []) := by
    intro r
    induction r with
    | zero =>
      intro i z' mo hp' H locs ls hir hk hW hl
      refine lv_iload_n hx hb dX2_firstFault_8 rfl (lv_at hl 0 rfl) ?_
      refine lv_bipush (v := nI 80) hx hb dX2_firstFault_9 (by decide +kernel) ?_
      refine lv_icmp_ge (tgt := 29) hx hb dX2_firstFault_11 (by decide) (fun c_11 => ?_) (fun c_11 => ?_)
      · have c_11 : 80 ≤ i := (nI_leI (a := 80) (b := i) (by omega) (by omega)).mp c_11
        obtain ⟨hr, hu⟩ := hk z' (rfl)
        exact kx z' _ _ _ hp' hr hu hW (lv_sub hl [2] rfl)
      · have c_11 : ¬ (80 ≤ i) := fun h => c_11 ((nI_leI (a := 80) (b := i) (by omega) (by omega)).mpr h)
        omega
    | succ r ih =>
      intro i z' mo hp' H locs ls hir hk hW hl
      refine lv_iload_n hx hb dX2_firstFault_8 rfl (lv_at hl 0 rfl) ?_
      refine lv_bipush (v := nI 80) hx hb dX2_firstFault_9 (by decide +kernel) ?_
      refine lv_icmp_ge (tgt := 29) hx hb dX2_firstFault_11 (by decide) (fun c_12 => ?_) (fun c_12 => ?_)
      · have c_12 : 80 ≤ i := (nI_leI (a := 80) (b := i) (by omega) (by omega)).mp c_12
        omega
      · have c_12 : ¬ (80 ≤ i) := fun h => c_12 ((nI_leI (a := 80) (b := i) (by omega) (by omega)).mpr h)
        refine lv_iload_n hx hb dX2_firstFault_14 rfl (lv_at hl 1 rfl) ?_
        refine lv_if_eq (tgt := 29) hx hb dX2_firstFault_15 (by decide) (fun c_13 => ?_) (fun c_13 => ?_)
        · obtain ⟨hr, hu⟩ := hk z' (by rw [lp_ff, if_pos c_13])
          exact kx z' _ _ _ hp' hr hu hW (lv_sub hl [2] rfl)
        · refine lv_aload_n hx hb dX2_firstFault_18 rfl (lv_at hl 2 rfl) ?_
          obtain ⟨z_14, hz_14⟩ : ∃ zq, m_X2_readOrder_z z' g = zq := ⟨_, rfl⟩
          have hp_z_14 : PD z_14 := by rw [← hz_14]; exact PD_X2_readOrder hp'
          have hq_15 := hp_z_14.1.2
          have hq_16 := hp_z_14.2.2
          obtain ⟨z_17, hz_17⟩ : ∃ zq, m_X2_readOrder_r z' g = zq := ⟨_, rfl⟩
          have hM_18 := (c_X2_readOrder l D k o sa z' g  hp')
          rw [hz_14, hz_17] at hM_18
          refine kVi (As := []) (rest := []) X hW hM_18 yw_X2_readOrder lk_X2_55 ⟨Nat.le_of_ble_eq_true rfl, Nat.le_of_ble_eq_true rfl⟩ (wr := []) (List.Perm.refl _) (w' := padW k o sa z_14 g) (List.Perm.refl _) (k_rcv X hW (ci := 2) (q0 := 0) rfl rfl) rfl hl.1 rfl (Nat.le_of_ble_eq_true rfl) ⟨Nat.zero_le _, Nat.zero_le _⟩ dX2_firstFault_19 (fun H locs hW => ?_)
          refine lv_istore_n (lv' := [(1, .int z_17), (2, .int (nI i)), (0, .ref o)]) hx hb dX2_firstFault_22 rfl hl (by decide) rfl (fun ls hl => ?_)
          refine lv_iinc (v := nI (i + 1)) (lv' := [(2, .int (nI (i + 1))), (1, .int z_17), (0, .ref o)]) hx hb dX2_firstFault_23 hl (k := 1) rfl (k_inc _) (by decide) rfl (fun ls hl => ?_)
          refine lv_goto (tgt := 8) hx hb dX2_firstFault_26 (by decide) ?_
          subst hz_17
          subst hz_14
          exact ih (i + 1) _ _ (PD_X2_readOrder hp') _ _ _ (by omega) (fun y hy => hk y (by rw [hy, lp_ff, if_neg c_13])) hW (lv_sub hl [0, 1, 2] rfl)
  exact lp 80 0 z_3 (nI 1) hp_z_3 _ _ _ (by omega) (fun y hy => by subst hy; subst hz_3; exact ⟨rfl, rfl⟩) hW (lv_sub hl [0, 1, 2] rfl)
