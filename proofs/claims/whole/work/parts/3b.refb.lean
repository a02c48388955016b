def PT (z : Nat → Int32) : Prop := (z 7 = nI (tn (z 7)) ∧ tn (z 7) ≤ 80) ∧ (z 8 = nI (tn (z 8)) ∧ tn (z 8) ≤ 80)
theorem PT_u {z : Nat → Int32} {i : Nat} {x : Int32} (h : PT z) (h1 : i ≠ 7) (h2 : i ≠ 8) : PT (upd z i x) := by
  unfold PT
  rw [pk_un (fun e => h1 e.symm), pk_un (fun e => h2 e.symm)]
  exact h
theorem PT_sp {z : Nat → Int32} {n : Nat} (h : PT z) (hn : n ≤ 80) : PT (upd z 8 (nI n)) := by
  unfold PT
  rw [pk_un (by decide), pk_us, tn_of rfl (by omega)]
  exact ⟨h.1, rfl, hn⟩
theorem PT_tl {z : Nat → Int32} {n : Nat} (h : PT z) (hn : n ≤ 80) : PT (upd z 7 (nI n)) := by
  unfold PT
  rw [pk_us, pk_un (by decide), tn_of rfl (by omega)]
  exact ⟨⟨rfl, hn⟩, h.2⟩
def lp_cof : Nat → Int64 → Nat → Int32
  | 0, y, i => if y = 0 then nI i else nI 0
  | r + 1, y, i => if m_X5_in_r (y &&& 255) 33 126 = 0 then (if y = 0 then nI i else nI 0) else lp_cof r ((y.toUInt64 >>> ((nI 8).toInt64.toUInt64 &&& Int64.toUInt64 63)).toInt64) (i + 1)
def m_X5_charactersOf_r (x : Int64) : Int32 := lp_cof 8 x 0
theorem lp_cof_n : ∀ (r : Nat) (y : Int64) (i : Nat), ∃ n, n ≤ i + r ∧ lp_cof r y i = nI n := by
  intro r
  induction r with
  | zero =>
    intro y i
    rw [lp_cof]
    split
    · exact ⟨i, by omega, rfl⟩
    · exact ⟨0, by omega, rfl⟩
  | succ r ih =>
    intro y i
    rw [lp_cof]
    split
    · split
      · exact ⟨i, by omega, rfl⟩
      · exact ⟨0, by omega, rfl⟩
    · obtain ⟨n, h1, h2⟩ := ih ((y.toUInt64 >>> ((nI 8).toInt64.toUInt64 &&& Int64.toUInt64 63)).toInt64) (i + 1)
      exact ⟨n, by omega, h2⟩
theorem cof_n (x : Int64) : m_X5_charactersOf_r x = nI (tn (m_X5_charactersOf_r x)) ∧ tn (m_X5_charactersOf_r x) ≤ 8 := by
  obtain ⟨n, h1, h2⟩ := lp_cof_n 8 x 0
  have e : m_X5_charactersOf_r x = nI n := h2
  rw [e, tn_of rfl (by omega)]
  exact ⟨rfl, by omega⟩
set_option maxHeartbeats 4000000 in
set_option maxRecDepth 100000 in
theorem c_X5_charactersOf (l : Launch) (D : va_G) (k : Nat → ClassId)   (x : Int64)  : mI l yX5_charactersOf (wsY yX5_charactersOf cX5_charactersOf 5 (some .int)) 1 D k [.long x] [] [] (m_X5_charactersOf_r x) := by
  refine mI_intro rfl (Nat.le_of_ble_eq_true rfl) (Or.inl rfl) ?_
  intro p e s m args below meth c A Q ls X hW hl hQ
  have hx := X.hx
  have hb := X.hb
  have hl : lv_has ls 5 [(0, .long x)] := hl
  refine lv_lload_n hx hb dX5_charactersOf_0 rfl (lv_at hl 0 rfl) ?_
  refine lv_lstore_n (lv' := [(2, .long x), (0, .long x)]) hx hb dX5_charactersOf_1 rfl hl (by decide) rfl (fun ls hl => ?_)
  refine lv_iconst (v := nI 0) hx hb dX5_charactersOf_2 (by decide +kernel) ?_
  refine lv_istore (lv' := [(4, .int (nI 0)), (2, .long x), (0, .long x)]) hx hb dX5_charactersOf_3 hl (by decide) rfl (fun ls hl => ?_)
  have lp : ∀ (r : Nat) (y : Int64) (i : Nat) (H : Heap) (locs : List Loc) (ls : Array Slot), i + r = 8 → m_X5_charactersOf_r x = lp_cof r y i → KW D A s [] H locs → lv_has ls 5 [(4, .int (nI i)), (2, .long y), (0, .long x)] → W p l e (rmD 1) s m args below meth c H locs 0 0 Q (F0 m 5 ls []) := by
    intro r
    induction r with
    | zero =>
      intro y i H locs ls hir hr hW hl
      refine lv_iload hx hb dX5_charactersOf_5 (lv_at hl 0 rfl) ?_
      refine lv_bipush (v := nI 8) hx hb dX5_charactersOf_7 (by decide +kernel) ?_
      refine lv_icmp_ge (tgt := 40) hx hb dX5_charactersOf_9 (by decide) (fun c_1 => ?_) (fun c_1 => ?_)
      · have c_1 : 8 ≤ i := (nI_leI (a := 8) (b := i) (by omega) (by omega)).mp c_1
        refine lv_lload_n hx hb dX5_charactersOf_40 rfl (lv_at hl 1 rfl) ?_
        refine lv_lconst (v := 0) hx hb dX5_charactersOf_41 (by decide +kernel) ?_
        refine W.lcmp hx hb dX5_charactersOf_42 ?_
        refine lv_if_ne (tgt := 51) hx hb dX5_charactersOf_43 (by decide) (fun c_2 => ?_) (fun c_2 => ?_)
        · have c_2 : ¬ (y = 0) := fun h => c_2 (lc_eq.mpr h)
          refine lv_iconst (v := nI 0) hx hb dX5_charactersOf_51 (by decide +kernel) ?_
          exact hQ _ _ _ _ _ _ hW dX5_charactersOf_52 (by rw [hr, lp_cof, if_neg c_2]) rfl
        · have c_2 : y = 0 := lc_eq.mp c_2
          refine lv_iload hx hb dX5_charactersOf_46 (lv_at hl 0 rfl) ?_
          refine lv_goto (tgt := 52) hx hb dX5_charactersOf_48 (by decide) ?_
          exact hQ _ _ _ _ _ _ hW dX5_charactersOf_52 (by rw [hr, lp_cof, if_pos c_2]) rfl
      · have c_1 : ¬ (8 ≤ i) := fun h => c_1 ((nI_leI (a := 8) (b := i) (by omega) (by omega)).mpr h)
        omega
    | succ r ih =>
      intro y i H locs ls hir hr hW hl
      refine lv_iload hx hb dX5_charactersOf_5 (lv_at hl 0 rfl) ?_
      refine lv_bipush (v := nI 8) hx hb dX5_charactersOf_7 (by decide +kernel) ?_
      refine lv_icmp_ge (tgt := 40) hx hb dX5_charactersOf_9 (by decide) (fun c_3 => ?_) (fun c_3 => ?_)
      · have c_3 : 8 ≤ i := (nI_leI (a := 8) (b := i) (by omega) (by omega)).mp c_3
        omega
      · have c_3 : ¬ (8 ≤ i) := fun h => c_3 ((nI_leI (a := 8) (b := i) (by omega) (by omega)).mpr h)
        refine lv_lload_n hx hb dX5_charactersOf_12 rfl (lv_at hl 1 rfl) ?_
        refine lv_ldc2 hx hb X.hown (X.wd kl_X5_155) dX5_charactersOf_13 ?_
        refine lv_land hx hb dX5_charactersOf_16 ?_
        refine lv_ldc2 hx hb X.hown (X.wd kl_X5_157) dX5_charactersOf_17 ?_
        refine lv_ldc2 hx hb X.hown (X.wd kl_X5_159) dX5_charactersOf_20 ?_
        obtain ⟨z_4, hz_4⟩ : ∃ zq, m_X5_in_r (y &&& 255) 33 126 = zq := ⟨_, rfl⟩
        have hM_5 := (c_X5_in l D k (y &&& 255) 33 126)
        rw [hz_4] at hM_5
        refine kSi (As := [.long (y &&& 255), .long 33, .long 126]) (rest := []) X hW hM_5 yw_X5_in lk_X5_41 ⟨Nat.le_of_ble_eq_true rfl, Nat.le_of_ble_eq_true rfl⟩ rfl hl.1 rfl (Nat.le_of_ble_eq_true rfl) ⟨Nat.zero_le _, Nat.zero_le _⟩ dX5_charactersOf_23 (fun H locs hW => ?_)
        refine lv_if_eq (tgt := 40) hx hb dX5_charactersOf_26 (by decide) (fun c_6 => ?_) (fun c_6 => ?_)
        · refine lv_lload_n hx hb dX5_charactersOf_40 rfl (lv_at hl 1 rfl) ?_
          refine lv_lconst (v := 0) hx hb dX5_charactersOf_41 (by decide +kernel) ?_
          refine W.lcmp hx hb dX5_charactersOf_42 ?_
          refine lv_if_ne (tgt := 51) hx hb dX5_charactersOf_43 (by decide) (fun c_7 => ?_) (fun c_7 => ?_)
          · have c_7 : ¬ (y = 0) := fun h => c_7 (lc_eq.mpr h)
            refine lv_iconst (v := nI 0) hx hb dX5_charactersOf_51 (by decide +kernel) ?_
            exact hQ _ _ _ _ _ _ hW dX5_charactersOf_52 (by subst hz_4; rw [hr, lp_cof, if_pos c_6, if_neg c_7]) rfl
          · have c_7 : y = 0 := lc_eq.mp c_7
            refine lv_iload hx hb dX5_charactersOf_46 (lv_at hl 0 rfl) ?_
            refine lv_goto (tgt := 52) hx hb dX5_charactersOf_48 (by decide) ?_
            exact hQ _ _ _ _ _ _ hW dX5_charactersOf_52 (by subst hz_4; rw [hr, lp_cof, if_pos c_6, if_pos c_7]) rfl
        · refine lv_lload_n hx hb dX5_charactersOf_29 rfl (lv_at hl 1 rfl) ?_
          refine lv_bipush (v := nI 8) hx hb dX5_charactersOf_30 (by decide +kernel) ?_
          refine lv_lushr hx hb dX5_charactersOf_32 rfl ?_
          refine lv_lstore_n (lv' := [(2, .long ((y.toUInt64 >>> ((nI 8).toInt64.toUInt64 &&& Int64.toUInt64 63)).toInt64)), (4, .int (nI i)), (0, .long x)]) hx hb dX5_charactersOf_33 rfl hl (by decide) rfl (fun ls hl => ?_)
          refine lv_iinc (v := nI (i + 1)) (lv' := [(4, .int (nI (i + 1))), (2, .long ((y.toUInt64 >>> ((nI 8).toInt64.toUInt64 &&& Int64.toUInt64 63)).toInt64)), (0, .long x)]) hx hb dX5_charactersOf_34 hl (k := 1) rfl (k_inc _) (by decide) rfl (fun ls hl => ?_)
          refine lv_goto (tgt := 5) hx hb dX5_charactersOf_37 (by decide) ?_
          subst hz_4
          exact ih _ (i + 1) _ _ _ (by omega) (by rw [hr, lp_cof, if_neg c_6]) hW (lv_sub hl [0, 1, 2] rfl)
  exact lp 8 x 0 _ _ _ (by omega) rfl hW (lv_sub hl [0, 1, 2] rfl)
def lp_put (x : Int64) (n L : Nat) : Nat → Nat → (Nat → Int32) → (Nat → Int32)
  | 0, _, t => t
  | r + 1, i, t => lp_put x n L r (i + 1) (upd t (L + i) ((((x.toUInt64 >>> (((nI 8) * (((nI n) - (nI 1)) - (nI i))).toInt64.toUInt64 &&& Int64.toUInt64 63)).toInt64) &&& 255).toInt32))
def m_X5_put_tx (z : Nat → Int32) (tx : Nat → Int32) (x : Int64) : Nat → Int32 := if tn (m_X5_charactersOf_r x) = 0 then tx else if tn (z 7) + (tn (m_X5_charactersOf_r x)) ≤ 80 then lp_put x (tn (m_X5_charactersOf_r x)) (tn (z 7)) (tn (m_X5_charactersOf_r x)) 0 tx else tx
def m_X5_put_r (z : Nat → Int32) (x : Int64) : Int32 := if tn (m_X5_charactersOf_r x) = 0 then (-2) else if tn (z 7) + (tn (m_X5_charactersOf_r x)) ≤ 80 then nI (tn (z 7) + (tn (m_X5_charactersOf_r x))) else (-4)
def m_X5_put_z (z : Nat → Int32) (x : Int64) : Nat → Int32 := if tn (m_X5_charactersOf_r x) = 0 then z else if tn (z 7) + (tn (m_X5_charactersOf_r x)) ≤ 80 then upd z 7 (nI (tn (z 7) + (tn (m_X5_charactersOf_r x)))) else z
set_option maxHeartbeats 4000000 in
set_option maxRecDepth 100000 in
theorem c_X5_put (l : Launch) (D : va_G) (k : Nat → ClassId) (a : Nat → Nat) (z : Nat → Int32) (f : Nat → Int32) (kp : Nat → Int32) (hi : Nat → Int32) (sl : Nat → Int32) (sv : Nat → Int32) (tx : Nat → Int32) (td : Nat → Int32) (x : Int64) (hp : PT z) : mI l yX5_put (wsY yX5_put cX5_put 5 (some .int)) 2 D k [.ref (a 0), .long x] (refW k a z f kp hi sl sv tx td) (refW k a (m_X5_put_z z x) f kp hi sl sv (m_X5_put_tx z tx x) td) (m_X5_put_r z x) := by
  refine mI_intro rfl (Nat.le_of_ble_eq_true rfl) (Or.inl rfl) ?_
  intro p e s m args below meth c A Q ls X hW hl hQ
  have hx := X.hx
  have hb := X.hb
  have hl : lv_has ls 5 [(0, .ref (a 0)), (1, .long x)] := hl
  have hq_1 := hp.1.2
  have hq_2 := hp.2.2
  refine lv_lload_n hx hb dX5_put_0 rfl (lv_at hl 1 rfl) ?_
  obtain ⟨z_3, hz_3⟩ : ∃ zq, m_X5_charactersOf_r x = zq := ⟨_, rfl⟩
  obtain ⟨hs_z_3, ht_z_3⟩ : z_3 = nI (tn z_3) ∧ tn z_3 ≤ 8 := by rw [← hz_3]; exact cof_n _
  have hM_4 := (c_X5_charactersOf l D k x)
  rw [hz_3] at hM_4
  refine kSi (As := [.long x]) (rest := []) X hW hM_4 yw_X5_charactersOf lk_X5_161 ⟨Nat.le_of_ble_eq_true rfl, Nat.le_of_ble_eq_true rfl⟩ rfl hl.1 rfl (Nat.le_of_ble_eq_true rfl) ⟨Nat.zero_le _, Nat.zero_le _⟩ dX5_put_1 (fun H locs hW => ?_)
  refine k_top (y := nI (tn z_3)) (hs_z_3) ?_
  refine lv_istore_n (lv' := [(3, .int (nI (tn z_3))), (0, .ref (a 0)), (1, .long x)]) hx hb dX5_put_4 rfl hl (by decide) rfl (fun ls hl => ?_)
  refine lv_iload_n hx hb dX5_put_5 rfl (lv_at hl 0 rfl) ?_
  refine lv_if_ne (tgt := 12) hx hb dX5_put_6 (by decide) (fun c_5 => ?_) (fun c_5 => ?_)
  · have c_5 : ¬ (tn z_3 = 0) := fun h => c_5 ((nI_eq (a := tn z_3) (b := 0) (by omega) (by omega)).mpr h)
    refine lv_aload_n hx hb dX5_put_12 rfl (lv_at hl 1 rfl) ?_
    refine k_get X hW inG5 rfl 7 (by decide) fl_X5_136 rfl 0 rfl (v := .int (z 7)) rfl dX5_put_13 ?_
    refine k_top (y := nI (tn (z 7))) (hp.1.1) ?_
    refine lv_iload_n hx hb dX5_put_16 rfl (lv_at hl 0 rfl) ?_
    refine lv_iadd hx hb dX5_put_17 ?_
    refine k_top (y := nI (tn (z 7) + (tn z_3))) (nI_add _ _) ?_
    refine lv_bipush (v := nI 80) hx hb dX5_put_18 (by decide +kernel) ?_
    refine lv_icmp_le (tgt := 26) hx hb dX5_put_20 (by decide) (fun c_6 => ?_) (fun c_6 => ?_)
    · have c_6 : tn (z 7) + (tn z_3) ≤ 80 := (nI_leI (a := tn (z 7) + (tn z_3)) (b := 80) (by omega) (by omega)).mp c_6
      refine lv_iconst (v := nI 0) hx hb dX5_put_26 (by decide +kernel) ?_
      refine lv_istore (lv' := [(4, .int (nI 0)), (3, .int (nI (tn z_3))), (0, .ref (a 0)), (1, .long x)]) hx hb dX5_put_27 hl (by decide) rfl (fun ls hl => ?_)
      have kx : ∀ (t' : Nat → Int32) (H : Heap) (locs : List Loc) (ls : Array Slot), lp_put x (tn z_3) (tn (z 7)) (tn z_3) 0 tx = t' → KW D A s (refW k a z f kp hi sl sv t' td) H locs → lv_has ls 5 [(3, .int (nI (tn z_3))), (0, .ref (a 0)), (1, .long x)] → W p l e (rmD 2) s m args below meth c H locs 0 0 Q (F0 m 69 ls []) := by
        intro t' H locs ls hg hW hl
        refine lv_aload_n hx hb dX5_put_69 rfl (lv_at hl 1 rfl) ?_
        refine lv_dup hx hb dX5_put_70 rfl ?_
        refine k_get X hW inG5 rfl 7 (by decide) fl_X5_136 rfl 0 rfl (v := .int (z 7)) rfl dX5_put_71 ?_
        refine k_top (y := nI (tn (z 7))) (hp.1.1) ?_
        refine lv_iload_n hx hb dX5_put_74 rfl (lv_at hl 0 rfl) ?_
        refine lv_iadd hx hb dX5_put_75 ?_
        refine k_top (y := nI (tn (z 7) + (tn z_3))) (nI_add _ _) ?_
        refine k_put X hW inG5 rfl tyX5_ok nmX5 7 (by decide) fl_X5_136 rfl rfl 0 rfl rfl rfl (Nat.le_of_ble_eq_true rfl) dX5_put_76 (w' := refW k a (upd z 7 (nI (tn (z 7) + (tn z_3)))) f kp hi sl sv t' td) rfl (fun H locs hW => ?_)
        refine lv_aload_n hx hb dX5_put_79 rfl (lv_at hl 1 rfl) ?_
        refine k_get X hW inG5 rfl 7 (by decide) fl_X5_136 rfl 0 rfl (v := .int (nI (tn (z 7) + (tn z_3)))) rfl dX5_put_80 ?_
        exact hQ _ _ _ _ _ _ hW dX5_put_83 (by subst hz_3; rw [m_X5_put_r, if_neg c_5, if_pos c_6]) (by subst hz_3; rw [m_X5_put_z, if_neg c_5, if_pos c_6, m_X5_put_tx, if_neg c_5, if_pos c_6]; try (rw [hg]); try rfl)
      have lp : ∀ (r i : Nat) (t' : Nat → Int32) (H : Heap) (locs : List Loc) (ls : Array Slot), i + r = tn z_3 → lp_put x (tn z_3) (tn (z 7)) (tn z_3) 0 tx = lp_put x (tn z_3) (tn (z 7)) r i t' → KW D A s (refW k a z f kp hi sl sv t' td) H locs → lv_has ls 5 [(4, .int (nI i)), (3, .int (nI (tn z_3))), (0, .ref (a 0)), (1, .long x)] → W p l e (rmD 2) s m args below meth c H locs 0 0 Q (F0 m 29 ls []) := by
        intro r
        induction r with
        | zero =>
          intro i t' H locs ls hir hg hW hl
          refine lv_iload hx hb dX5_put_29 (lv_at hl 0 rfl) ?_
          refine lv_iload_n hx hb dX5_put_31 rfl (lv_at hl 1 rfl) ?_
          refine lv_icmp_ge (tgt := 69) hx hb dX5_put_32 (by decide) (fun c_7 => ?_) (fun c_7 => ?_)
          · have c_7 : tn z_3 ≤ i := (nI_leI (a := tn z_3) (b := i) (by omega) (by omega)).mp c_7
            exact kx t' _ _ _ (by rw [hg, lp_put]) hW (lv_sub hl [1, 2, 3] rfl)
          · have c_7 : ¬ (tn z_3 ≤ i) := fun h => c_7 ((nI_leI (a := tn z_3) (b := i) (by omega) (by omega)).mpr h)
            omega
        | succ r ih =>
          intro i t' H locs ls hir hg hW hl
          refine lv_iload hx hb dX5_put_29 (lv_at hl 0 rfl) ?_
          refine lv_iload_n hx hb dX5_put_31 rfl (lv_at hl 1 rfl) ?_
          refine lv_icmp_ge (tgt := 69) hx hb dX5_put_32 (by decide) (fun c_8 => ?_) (fun c_8 => ?_)
          · have c_8 : tn z_3 ≤ i := (nI_leI (a := tn z_3) (b := i) (by omega) (by omega)).mp c_8
            omega
          · have c_8 : ¬ (tn z_3 ≤ i) := fun h => c_8 ((nI_leI (a := tn z_3) (b := i) (by omega) (by omega)).mpr h)
            refine lv_aload_n hx hb dX5_put_35 rfl (lv_at hl 2 rfl) ?_
            refine k_get X hW inG5 rfl 6 (by decide) fl_X5_25 rfl 0 rfl (v := .ref (a 6)) rfl dX5_put_36 ?_
            refine lv_aload_n hx hb dX5_put_39 rfl (lv_at hl 2 rfl) ?_
            refine k_get X hW inG5 rfl 7 (by decide) fl_X5_136 rfl 0 rfl (v := .int (z 7)) rfl dX5_put_40 ?_
            refine k_top (y := nI (tn (z 7))) (hp.1.1) ?_
            refine lv_iload hx hb dX5_put_43 (lv_at hl 0 rfl) ?_
            refine lv_iadd hx hb dX5_put_45 ?_
            refine k_top (y := nI (tn (z 7) + i)) (nI_add _ _) ?_
            refine lv_lload_n hx hb dX5_put_46 rfl (lv_at hl 3 rfl) ?_
            refine lv_bipush (v := nI 8) hx hb dX5_put_47 (by decide +kernel) ?_
            refine lv_iload_n hx hb dX5_put_49 rfl (lv_at hl 1 rfl) ?_
            refine lv_iconst (v := nI 1) hx hb dX5_put_50 (by decide +kernel) ?_
            refine lv_isub hx hb dX5_put_51 ?_
            refine lv_iload hx hb dX5_put_52 (lv_at hl 0 rfl) ?_
            refine lv_isub hx hb dX5_put_54 ?_
            refine lv_imul hx hb dX5_put_55 ?_
            refine lv_lushr hx hb dX5_put_56 rfl ?_
            refine lv_ldc2 hx hb X.hown (X.wd kl_X5_155) dX5_put_57 ?_
            refine lv_land hx hb dX5_put_60 ?_
            refine lv_l2i hx hb dX5_put_61 rfl ?_
            refine k_iast X hW 6 rfl (j := (tn (z 7) + i)) rfl (by omega) (by decide) dX5_put_62 (w' := refW k a z f kp hi sl sv (upd t' (tn (z 7) + i) ((((x.toUInt64 >>> (((nI 8) * (((nI (tn z_3)) - (nI 1)) - (nI i))).toInt64.toUInt64 &&& Int64.toUInt64 63)).toInt64) &&& 255).toInt32)) td) rfl (fun H locs hW => ?_)
            refine lv_iinc (v := nI (i + 1)) (lv' := [(4, .int (nI (i + 1))), (3, .int (nI (tn z_3))), (0, .ref (a 0)), (1, .long x)]) hx hb dX5_put_63 hl (k := 0) rfl (k_inc _) (by decide) rfl (fun ls hl => ?_)
            refine lv_goto (tgt := 29) hx hb dX5_put_66 (by decide) ?_
            exact ih (i + 1) _ _ _ _ (by omega) (by rw [hg, lp_put]) hW (lv_sub hl [0, 1, 2, 3] rfl)
      exact lp (tn z_3) 0 tx _ _ _ (by omega) rfl hW (lv_sub hl [0, 1, 2, 3] rfl)
    · have c_6 : ¬ (tn (z 7) + (tn z_3) ≤ 80) := fun h => c_6 ((nI_leI (a := tn (z 7) + (tn z_3)) (b := 80) (by omega) (by omega)).mpr h)
      refine lv_bipush (v := (-4)) hx hb dX5_put_23 (by decide +kernel) ?_
      exact hQ _ _ _ _ _ _ hW dX5_put_25 (by subst hz_3; rw [m_X5_put_r, if_neg c_5, if_neg c_6]) (by subst hz_3; rw [m_X5_put_z, if_neg c_5, if_neg c_6, m_X5_put_tx, if_neg c_5, if_neg c_6]; try (rw [hg]); try rfl)
  · have c_5 : tn z_3 = 0 := (nI_eq (a := tn z_3) (b := 0) (by omega) (by omega)).mp c_5
    refine lv_bipush (v := (-2)) hx hb dX5_put_9 (by decide +kernel) ?_
    exact hQ _ _ _ _ _ _ hW dX5_put_11 (by subst hz_3; rw [m_X5_put_r, if_pos c_5]) (by subst hz_3; rw [m_X5_put_z, if_pos c_5, m_X5_put_tx, if_pos c_5]; try (rw [hg]); try rfl)
def m_X5_wipe_r (z : Nat → Int32) : Int32 := z 7
def m_X5_wipe_z (z : Nat → Int32) : Nat → Int32 := upd z 7 (nI 0)
set_option maxHeartbeats 4000000 in
set_option maxRecDepth 100000 in
theorem c_X5_wipe (l : Launch) (D : va_G) (k : Nat → ClassId) (a : Nat → Nat) (z : Nat → Int32) (f : Nat → Int32) (kp : Nat → Int32) (hi : Nat → Int32) (sl : Nat → Int32) (sv : Nat → Int32) (tx : Nat → Int32) (td : Nat → Int32)   : mI l yX5_wipe (wsY yX5_wipe cX5_wipe 2 (some .int)) 0 D k [.ref (a 0)] (refW k a z f kp hi sl sv tx td) (refW k a (m_X5_wipe_z z) f kp hi sl sv tx td) (m_X5_wipe_r z) := by
  refine mI_intro rfl (Nat.le_of_ble_eq_true rfl) (Or.inl rfl) ?_
  intro p e s m args below meth c A Q ls X hW hl hQ
  have hx := X.hx
  have hb := X.hb
  have hl : lv_has ls 2 [(0, .ref (a 0))] := hl
  refine lv_aload_n hx hb dX5_wipe_0 rfl (lv_at hl 0 rfl) ?_
  refine k_get X hW inG5 rfl 7 (by decide) fl_X5_136 rfl 0 rfl (v := .int (z 7)) rfl dX5_wipe_1 ?_
  refine lv_istore_n (lv' := [(1, .int (z 7)), (0, .ref (a 0))]) hx hb dX5_wipe_4 rfl hl (by decide) rfl (fun ls hl => ?_)
  refine lv_aload_n hx hb dX5_wipe_5 rfl (lv_at hl 1 rfl) ?_
  refine lv_iconst (v := nI 0) hx hb dX5_wipe_6 (by decide +kernel) ?_
  refine k_put X hW inG5 rfl tyX5_ok nmX5 7 (by decide) fl_X5_136 rfl rfl 0 rfl rfl rfl (Nat.le_of_ble_eq_true rfl) dX5_wipe_7 (w' := refW k a (upd z 7 (nI 0)) f kp hi sl sv tx td) rfl (fun H locs hW => ?_)
  refine lv_iload_n hx hb dX5_wipe_10 rfl (lv_at hl 0 rfl) ?_
  exact hQ _ _ _ _ _ _ hW dX5_wipe_11 (by rw [m_X5_wipe_r]) (by rw [m_X5_wipe_z])
