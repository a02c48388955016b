def lp_bcB (f : Nat → Int32) (q gp : Nat) : Nat → Nat → Int32 → Int32 → Int32
  | 0, _, b, _ => b
  | r + 1, i, b, v => if v ≤ m_X5_costs_r f q (nI i) gp then lp_bcB f q gp r (i + 1) b v else lp_bcB f q gp r (i + 1) (nI i) (m_X5_costs_r f q (nI i) gp)
def lp_bcL (f : Nat → Int32) (q gp : Nat) : Nat → Nat → Int32 → Int32
  | 0, _, v => v
  | r + 1, i, v => if v ≤ m_X5_costs_r f q (nI i) gp then lp_bcL f q gp r (i + 1) v else lp_bcL f q gp r (i + 1) (m_X5_costs_r f q (nI i) gp)
/-- every test of the best count comes to its end -/
def BD (f : Nat → Int32) : Prop := ∀ q gp c : Nat, q < 3 → 1 ≤ gp → gp ≤ 20 → 1 ≤ c → c ≤ 32 → m_X5_inRings_r (lp_dr 1000 (cs_f f q (nI c) gp)) ≤ 0
def m_X5_bestCount_r (f : Nat → Int32) (x gp w : Int32) : Int32 := if m_X5_isQueue_r x = 0 then (-1) else if m_X5_in_r gp.toInt64 1 20 = 0 then (-2) else if m_X5_in_r w.toInt64 0 1 = 0 then (-2) else if w = 0 then lp_bcB f (tn x) (tn gp) 31 2 (nI 1) (m_X5_costs_r f (tn x) (nI 1) (tn gp)) else lp_bcL f (tn x) (tn gp) 31 2 (m_X5_costs_r f (tn x) (nI 1) (tn gp))
def m_X5_bestCount_kp (f kp : Nat → Int32) (x gp w : Int32) : Nat → Int32 := if m_X5_isQueue_r x = 0 then kp else if m_X5_in_r gp.toInt64 1 20 = 0 then kp else if m_X5_in_r w.toInt64 0 1 = 0 then kp else f
set_option maxHeartbeats 4000000 in
set_option maxRecDepth 100000 in
theorem c_X5_bestCount (l : Launch) (D : va_G) (k : Nat → ClassId) (a : Nat → Nat) (z : Nat → Int32) (f : Nat → Int32) (kp : Nat → Int32) (hi : Nat → Int32) (sl : Nat → Int32) (sv : Nat → Int32) (tx : Nat → Int32) (td : Nat → Int32) (x : Int32) (gp : Int32) (w : Int32) (hR : RF f) (hB : BD f) : mI l yX5_bestCount (wsY yX5_bestCount cX5_bestCount 8 (some .int)) 8 D k [.ref (a 0), .int x, .int gp, .int w] (refW k a z f kp hi sl sv tx td) (refW k a z f (m_X5_bestCount_kp f kp x gp w) hi sl sv tx td) (m_X5_bestCount_r f x gp w) := by
  refine mI_intro rfl (Nat.le_of_ble_eq_true rfl) (Or.inl rfl) ?_
  intro p e s m args below meth c A Q ls X hW hl hQ
  have hx := X.hx
  have hb := X.hb
  have hl : lv_has ls 8 [(0, .ref (a 0)), (1, .int x), (2, .int gp), (3, .int w)] := hl
  refine lv_iload_n hx hb dX5_bestCount_0 rfl (lv_at hl 1 rfl) ?_
  obtain ⟨z_1, hz_1⟩ : ∃ zq, m_X5_isQueue_r x = zq := ⟨_, rfl⟩
  have hM_2 := (c_X5_isQueue l D k x)
  rw [hz_1] at hM_2
  refine kSi (As := [.int x]) (rest := []) X hW hM_2 yw_X5_isQueue lk_X5_106 ⟨Nat.le_of_ble_eq_true rfl, Nat.le_of_ble_eq_true rfl⟩ rfl hl.1 rfl (Nat.le_of_ble_eq_true rfl) ⟨Nat.zero_le _, Nat.zero_le _⟩ dX5_bestCount_1 (fun H locs hW => ?_)
  refine lv_if_ne (tgt := 9) hx hb dX5_bestCount_4 (by decide) (fun c_3 => ?_) (fun c_3 => ?_)
  · refine lv_iload_n hx hb dX5_bestCount_9 rfl (lv_at hl 2 rfl) ?_
    refine lv_i2l hx hb dX5_bestCount_10 rfl ?_
    refine lv_lconst (v := 1) hx hb dX5_bestCount_11 (by decide +kernel) ?_
    refine lv_ldc2 hx hb X.hown (X.wd kl_X5_150) dX5_bestCount_12 ?_
    obtain ⟨z_4, hz_4⟩ : ∃ zq, m_X5_in_r ((gp).toInt64) 1 20 = zq := ⟨_, rfl⟩
    have hM_5 := (c_X5_in l D k ((gp).toInt64) 1 20)
    rw [hz_4] at hM_5
    refine kSi (As := [.long ((gp).toInt64), .long 1, .long 20]) (rest := []) X hW hM_5 yw_X5_in lk_X5_41 ⟨Nat.le_of_ble_eq_true rfl, Nat.le_of_ble_eq_true rfl⟩ rfl hl.1 rfl (Nat.le_of_ble_eq_true rfl) ⟨Nat.zero_le _, Nat.zero_le _⟩ dX5_bestCount_15 (fun H locs hW => ?_)
    refine lv_if_eq (tgt := 31) hx hb dX5_bestCount_18 (by decide) (fun c_6 => ?_) (fun c_6 => ?_)
    · refine lv_bipush (v := (-2)) hx hb dX5_bestCount_31 (by decide +kernel) ?_
      exact hQ _ _ _ _ _ _ hW dX5_bestCount_33 (by subst hz_4; subst hz_1; rw [m_X5_bestCount_r, if_neg c_3, if_pos c_6]) (by subst hz_4; subst hz_1; rw [m_X5_bestCount_kp, if_neg c_3, if_pos c_6])
    · refine lv_iload_n hx hb dX5_bestCount_21 rfl (lv_at hl 3 rfl) ?_
      refine lv_i2l hx hb dX5_bestCount_22 rfl ?_
      refine lv_lconst (v := 0) hx hb dX5_bestCount_23 (by decide +kernel) ?_
      refine lv_lconst (v := 1) hx hb dX5_bestCount_24 (by decide +kernel) ?_
      obtain ⟨z_7, hz_7⟩ : ∃ zq, m_X5_in_r ((w).toInt64) 0 1 = zq := ⟨_, rfl⟩
      have hM_8 := (c_X5_in l D k ((w).toInt64) 0 1)
      rw [hz_7] at hM_8
      refine kSi (As := [.long ((w).toInt64), .long 0, .long 1]) (rest := []) X hW hM_8 yw_X5_in lk_X5_41 ⟨Nat.le_of_ble_eq_true rfl, Nat.le_of_ble_eq_true rfl⟩ rfl hl.1 rfl (Nat.le_of_ble_eq_true rfl) ⟨Nat.zero_le _, Nat.zero_le _⟩ dX5_bestCount_25 (fun H locs hW => ?_)
      refine lv_if_ne (tgt := 34) hx hb dX5_bestCount_28 (by decide) (fun c_9 => ?_) (fun c_9 => ?_)
      · obtain ⟨hs_10, ht_10⟩ := rq3 (x := x) (by rw [hz_1]; exact c_3)
        obtain ⟨hs_11, ht_11, hv_11⟩ := in_n (x := gp) (lo := 1) (up := 20) (a := 1) (b := 20) rfl rfl (by decide) (by rw [hz_4]; exact c_6)
        refine lv_iconst (v := nI 1) hx hb dX5_bestCount_34 (by decide +kernel) ?_
        refine lv_istore (lv' := [(4, .int (nI 1)), (0, .ref (a 0)), (1, .int x), (2, .int gp), (3, .int w)]) hx hb dX5_bestCount_35 hl (by decide) rfl (fun ls hl => ?_)
        refine lv_aload_n hx hb dX5_bestCount_37 rfl (lv_at hl 1 rfl) ?_
        refine lv_iload_n hx hb dX5_bestCount_38 rfl (lv_at hl 2 rfl) ?_
        refine k_top (y := nI (tn x)) (hs_10) ?_
        refine lv_iconst (v := nI 1) hx hb dX5_bestCount_39 (by decide +kernel) ?_
        refine lv_iload_n hx hb dX5_bestCount_40 rfl (lv_at hl 3 rfl) ?_
        refine k_top (y := nI (tn gp)) (hs_11) ?_
        obtain ⟨z_12, hz_12⟩ : ∃ zq, m_X5_costs_r f (tn x) (nI 1) (tn gp) = zq := ⟨_, rfl⟩
        have hM_13 := (c_X5_costs l D k a z f kp hi sl sv tx td (tn x) (nI 1) (tn gp) hR (by omega) (by omega) (hB _ _ _ (by omega) (by omega) (by omega) (by omega) (by omega)))
        rw [hz_12] at hM_13
        refine kVi (As := [.int (nI (tn x)), .int (nI 1), .int (nI (tn gp))]) (rest := []) X hW hM_13 yw_X5_costs lk_X5_152 ⟨Nat.le_of_ble_eq_true rfl, Nat.le_of_ble_eq_true rfl⟩ (wr := []) (List.Perm.refl _) (w' := refW k a z f f hi sl sv tx td) (List.Perm.refl _) (k_rcv X hW (ci := 5) (q0 := 0) rfl rfl) rfl hl.1 rfl (Nat.le_of_ble_eq_true rfl) ⟨Nat.zero_le _, Nat.zero_le _⟩ dX5_bestCount_41 (fun H locs hW => ?_)
        refine lv_istore (lv' := [(5, .int z_12), (4, .int (nI 1)), (0, .ref (a 0)), (1, .int x), (2, .int gp), (3, .int w)]) hx hb dX5_bestCount_44 hl (by decide) rfl (fun ls hl => ?_)
        refine lv_iconst (v := nI 2) hx hb dX5_bestCount_46 (by decide +kernel) ?_
        refine lv_istore (lv' := [(6, .int (nI 2)), (5, .int z_12), (4, .int (nI 1)), (0, .ref (a 0)), (1, .int x), (2, .int gp), (3, .int w)]) hx hb dX5_bestCount_47 hl (by decide) rfl (fun ls hl => ?_)
        have kx : ∀ (b v : Int32) (H : Heap) (locs : List Loc) (ls : Array Slot), lp_bcB f (tn x) (tn gp) 31 2 (nI 1) z_12 = b → lp_bcL f (tn x) (tn gp) 31 2 z_12 = v → KW D A s (refW k a z f f hi sl sv tx td) H locs → lv_has ls 8 [(4, .int b), (5, .int v), (0, .ref (a 0)), (3, .int w)] → W p l e (rmD 8) s m args below meth c H locs 0 0 Q (F0 m 104 ls []) := by
          intro b v H locs ls hb1 hb2 hW hl
          refine lv_iload_n hx hb dX5_bestCount_104 rfl (lv_at hl 3 rfl) ?_
          refine lv_if_ne (tgt := 113) hx hb dX5_bestCount_105 (by decide) (fun c_14 => ?_) (fun c_14 => ?_)
          · refine lv_iload hx hb dX5_bestCount_113 (lv_at hl 1 rfl) ?_
            exact hQ _ _ _ _ _ _ hW dX5_bestCount_115 (by subst hz_12; subst hz_7; subst hz_4; subst hz_1; rw [m_X5_bestCount_r, if_neg c_3, if_neg c_6, if_neg c_9, if_neg c_14, hb2]) (by subst hz_12; subst hz_7; subst hz_4; subst hz_1; rw [m_X5_bestCount_kp, if_neg c_3, if_neg c_6, if_neg c_9])
          · refine lv_iload hx hb dX5_bestCount_108 (lv_at hl 0 rfl) ?_
            refine lv_goto (tgt := 115) hx hb dX5_bestCount_110 (by decide) ?_
            exact hQ _ _ _ _ _ _ hW dX5_bestCount_115 (by subst hz_12; subst hz_7; subst hz_4; subst hz_1; rw [m_X5_bestCount_r, if_neg c_3, if_neg c_6, if_neg c_9, if_pos c_14, hb1]) (by subst hz_12; subst hz_7; subst hz_4; subst hz_1; rw [m_X5_bestCount_kp, if_neg c_3, if_neg c_6, if_neg c_9])
        have lp : ∀ (r i : Nat) (b v : Int32) (H : Heap) (locs : List Loc) (ls : Array Slot), 2 ≤ i ∧ i + r = 33 → lp_bcB f (tn x) (tn gp) 31 2 (nI 1) z_12 = lp_bcB f (tn x) (tn gp) r i b v → lp_bcL f (tn x) (tn gp) 31 2 z_12 = lp_bcL f (tn x) (tn gp) r i v → KW D A s (refW k a z f f hi sl sv tx td) H locs → lv_has ls 8 [(6, .int (nI i)), (4, .int b), (5, .int v), (0, .ref (a 0)), (1, .int x), (2, .int gp), (3, .int w)] → W p l e (rmD 8) s m args below meth c H locs 0 0 Q (F0 m 49 ls []) := by
          intro r
          induction r with
          | zero =>
            intro i b v H locs ls hir hr1 hr2 hW hl
            refine lv_iload hx hb dX5_bestCount_49 (lv_at hl 0 rfl) ?_
            refine lv_bipush (v := nI 32) hx hb dX5_bestCount_51 (by decide +kernel) ?_
            refine lv_icmp_gt (tgt := 104) hx hb dX5_bestCount_53 (by decide) (fun c_15 => ?_) (fun c_15 => ?_)
            · have c_15 : 32 < i := (nI_ltI (a := 32) (b := i) (by omega) (by omega)).mp c_15
              exact kx b v _ _ _ (by rw [hr1, lp_bcB]) (by rw [hr2, lp_bcL]) hW (lv_sub hl [1, 2, 3, 6] rfl)
            · have c_15 : ¬ (32 < i) := fun h => c_15 ((nI_ltI (a := 32) (b := i) (by omega) (by omega)).mpr h)
              omega
          | succ r ih =>
            intro i b v H locs ls hir hr1 hr2 hW hl
            refine lv_iload hx hb dX5_bestCount_49 (lv_at hl 0 rfl) ?_
            refine lv_bipush (v := nI 32) hx hb dX5_bestCount_51 (by decide +kernel) ?_
            refine lv_icmp_gt (tgt := 104) hx hb dX5_bestCount_53 (by decide) (fun c_16 => ?_) (fun c_16 => ?_)
            · have c_16 : 32 < i := (nI_ltI (a := 32) (b := i) (by omega) (by omega)).mp c_16
              omega
            · have c_16 : ¬ (32 < i) := fun h => c_16 ((nI_ltI (a := 32) (b := i) (by omega) (by omega)).mpr h)
              refine lv_aload_n hx hb dX5_bestCount_56 rfl (lv_at hl 3 rfl) ?_
              refine lv_iload_n hx hb dX5_bestCount_57 rfl (lv_at hl 4 rfl) ?_
              refine k_top (y := nI (tn x)) (hs_10) ?_
              refine lv_iload hx hb dX5_bestCount_58 (lv_at hl 0 rfl) ?_
              refine lv_iload_n hx hb dX5_bestCount_60 rfl (lv_at hl 5 rfl) ?_
              refine k_top (y := nI (tn gp)) (hs_11) ?_
              obtain ⟨z_17, hz_17⟩ : ∃ zq, m_X5_costs_r f (tn x) (nI i) (tn gp) = zq := ⟨_, rfl⟩
              have hM_18 := (c_X5_costs l D k a z f f hi sl sv tx td (tn x) (nI i) (tn gp) hR (by omega) (by omega) (hB _ _ _ (by omega) (by omega) (by omega) (by omega) (by omega)))
              rw [hz_17] at hM_18
              refine kVi (As := [.int (nI (tn x)), .int (nI i), .int (nI (tn gp))]) (rest := []) X hW hM_18 yw_X5_costs lk_X5_152 ⟨Nat.le_of_ble_eq_true rfl, Nat.le_of_ble_eq_true rfl⟩ (wr := []) (List.Perm.refl _) (w' := refW k a z f f hi sl sv tx td) (List.Perm.refl _) (k_rcv X hW (ci := 5) (q0 := 0) rfl rfl) rfl hl.1 rfl (Nat.le_of_ble_eq_true rfl) ⟨Nat.zero_le _, Nat.zero_le _⟩ dX5_bestCount_61 (fun H locs hW => ?_)
              refine lv_istore (lv' := [(7, .int z_17), (6, .int (nI i)), (4, .int b), (5, .int v), (0, .ref (a 0)), (1, .int x), (2, .int gp), (3, .int w)]) hx hb dX5_bestCount_64 hl (by decide) rfl (fun ls hl => ?_)
              refine lv_iload hx hb dX5_bestCount_66 (lv_at hl 0 rfl) ?_
              refine lv_iload hx hb dX5_bestCount_68 (lv_at hl 3 rfl) ?_
              refine lv_icmp_ge (tgt := 78) hx hb dX5_bestCount_70 (by decide) (fun c_19 => ?_) (fun c_19 => ?_)
              · refine lv_iload hx hb dX5_bestCount_78 (lv_at hl 2 rfl) ?_
                refine lv_istore (lv' := [(4, .int b), (7, .int z_17), (6, .int (nI i)), (5, .int v), (0, .ref (a 0)), (1, .int x), (2, .int gp), (3, .int w)]) hx hb dX5_bestCount_80 hl (by decide) rfl (fun ls hl => ?_)
                refine lv_iload hx hb dX5_bestCount_82 (lv_at hl 1 rfl) ?_
                refine lv_iload hx hb dX5_bestCount_84 (lv_at hl 3 rfl) ?_
                refine lv_icmp_ge (tgt := 94) hx hb dX5_bestCount_86 (by decide) (fun c_20 => ?_) (fun c_20 => ?_)
                · refine lv_iload hx hb dX5_bestCount_94 (lv_at hl 3 rfl) ?_
                  refine lv_istore (lv' := [(5, .int v), (4, .int b), (7, .int z_17), (6, .int (nI i)), (0, .ref (a 0)), (1, .int x), (2, .int gp), (3, .int w)]) hx hb dX5_bestCount_96 hl (by decide) rfl (fun ls hl => ?_)
                  refine lv_iinc (v := nI (i + 1)) (lv' := [(6, .int (nI (i + 1))), (5, .int v), (4, .int b), (7, .int z_17), (0, .ref (a 0)), (1, .int x), (2, .int gp), (3, .int w)]) hx hb dX5_bestCount_98 hl (k := 3) rfl (k_inc _) (by decide) rfl (fun ls hl => ?_)
                  refine lv_goto (tgt := 49) hx hb dX5_bestCount_101 (by decide) ?_
                  subst hz_17
                  exact ih (i + 1) _ _ _ _ _ (by omega) (by rw [hr1, lp_bcB, if_pos c_19]) (by rw [hr2, lp_bcL, if_pos c_19]) hW (lv_sub hl [0, 2, 1, 4, 5, 6, 7] rfl)
                · exact absurd c_19 c_20
              · refine lv_iload hx hb dX5_bestCount_73 (lv_at hl 1 rfl) ?_
                refine lv_goto (tgt := 80) hx hb dX5_bestCount_75 (by decide) ?_
                refine lv_istore (lv' := [(4, .int (nI i)), (7, .int z_17), (6, .int (nI i)), (5, .int v), (0, .ref (a 0)), (1, .int x), (2, .int gp), (3, .int w)]) hx hb dX5_bestCount_80 hl (by decide) rfl (fun ls hl => ?_)
                refine lv_iload hx hb dX5_bestCount_82 (lv_at hl 1 rfl) ?_
                refine lv_iload hx hb dX5_bestCount_84 (lv_at hl 3 rfl) ?_
                refine lv_icmp_ge (tgt := 94) hx hb dX5_bestCount_86 (by decide) (fun c_21 => ?_) (fun c_21 => ?_)
                · exact absurd c_21 c_19
                · refine lv_iload hx hb dX5_bestCount_89 (lv_at hl 1 rfl) ?_
                  refine lv_goto (tgt := 96) hx hb dX5_bestCount_91 (by decide) ?_
                  refine lv_istore (lv' := [(5, .int z_17), (4, .int (nI i)), (7, .int z_17), (6, .int (nI i)), (0, .ref (a 0)), (1, .int x), (2, .int gp), (3, .int w)]) hx hb dX5_bestCount_96 hl (by decide) rfl (fun ls hl => ?_)
                  refine lv_iinc (v := nI (i + 1)) (lv' := [(6, .int (nI (i + 1))), (5, .int z_17), (4, .int (nI i)), (7, .int z_17), (0, .ref (a 0)), (1, .int x), (2, .int gp), (3, .int w)]) hx hb dX5_bestCount_98 hl (k := 3) rfl (k_inc _) (by decide) rfl (fun ls hl => ?_)
                  refine lv_goto (tgt := 49) hx hb dX5_bestCount_101 (by decide) ?_
                  subst hz_17
                  exact ih (i + 1) _ _ _ _ _ (by omega) (by rw [hr1, lp_bcB, if_neg c_19]) (by rw [hr2, lp_bcL, if_neg c_19]) hW (lv_sub hl [0, 2, 1, 4, 5, 6, 7] rfl)
        exact lp 31 2 (nI 1) z_12 _ _ _ (by omega) rfl rfl hW (lv_sub hl [0, 2, 1, 3, 4, 5, 6] rfl)
      · refine lv_bipush (v := (-2)) hx hb dX5_bestCount_31 (by decide +kernel) ?_
        exact hQ _ _ _ _ _ _ hW dX5_bestCount_33 (by subst hz_7; subst hz_4; subst hz_1; rw [m_X5_bestCount_r, if_neg c_3, if_neg c_6, if_pos c_9]) (by subst hz_7; subst hz_4; subst hz_1; rw [m_X5_bestCount_kp, if_neg c_3, if_neg c_6, if_pos c_9])
  · refine lv_iconst (v := (-1)) hx hb dX5_bestCount_7 (by decide +kernel) ?_
    exact hQ _ _ _ _ _ _ hW dX5_bestCount_8 (by subst hz_1; rw [m_X5_bestCount_r, if_pos c_3]) (by subst hz_1; rw [m_X5_bestCount_kp, if_pos c_3])
