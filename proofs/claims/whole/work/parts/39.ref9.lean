def lp_co (q gp : Nat) : Nat → (Nat → Int32) → (Nat → Int32)
  | 0, f => f
  | r + 1, f => lp_co q gp r (m_X5_ticks_f (m_X5_doCome_f f q) gp)
def lp_dr : Nat → (Nat → Int32) → (Nat → Int32)
  | 0, f => f
  | r + 1, f => if m_X5_inRings_r f ≤ 0 then f else lp_dr r (m_X5_tick_f f)
/-- the state of a test when its frames have come -/
def cs_f (f : Nat → Int32) (q : Nat) (c1 : Int32) (gp : Nat) : Nat → Int32 := lp_co q gp 16 (m_X5_doBounds_f (m_X5_empties_f f) q c1 (m_X5_get_r (m_X5_empties_f f) q 1))
def m_corest_r (f1 : Nat → Int32) : Int32 := (m_X5_allOf_r f1 7) + ((f1 3) * (m_X5_allOf_r f1 4))
def m_X5_costs_r (f : Nat → Int32) (q : Nat) (c1 : Int32) (gp : Nat) : Int32 := m_corest_r (lp_dr 1000 (cs_f f q c1 gp))
set_option maxHeartbeats 4000000 in
set_option maxRecDepth 100000 in
theorem c_X5_costs (l : Launch) (D : va_G) (k : Nat → ClassId) (a : Nat → Nat) (z : Nat → Int32) (f : Nat → Int32) (kp : Nat → Int32) (hi : Nat → Int32) (sl : Nat → Int32) (sv : Nat → Int32) (tx : Nat → Int32) (td : Nat → Int32) (q : Nat) (c1 : Int32) (gp : Nat) (hR : RF f) (hq : q < 3) (hg : gp < 2 ^ 31) (hD : m_X5_inRings_r (lp_dr 1000 (cs_f f q c1 gp)) ≤ 0) : mI l yX5_costs (wsY yX5_costs cX5_costs 8 (some .int)) 7 D k [.ref (a 0), .int (nI q), .int c1, .int (nI gp)] (refW k a z f kp hi sl sv tx td) (refW k a z f f hi sl sv tx td) (m_X5_costs_r f q c1 gp) := by
  refine mI_intro rfl (Nat.le_of_ble_eq_true rfl) (Or.inl rfl) ?_
  intro p e s m args below meth c A Q ls X hW hl hQ
  have hx := X.hx
  have hb := X.hb
  have hl : lv_has ls 8 [(0, .ref (a 0)), (1, .int (nI q)), (2, .int c1), (3, .int (nI gp))] := hl
  refine lv_aload_n hx hb dX5_costs_0 rfl (lv_at hl 0 rfl) ?_
  refine kVv (As := []) (rest := []) X hW (c_X5_keeps2 l D k a z f kp hi sl sv tx td) yw_X5_keeps lk_X5_139 ⟨Nat.le_of_ble_eq_true rfl, Nat.le_of_ble_eq_true rfl⟩ (wr := []) (List.Perm.refl _) (w' := refW k a z f f hi sl sv tx td) (List.Perm.refl _) (k_rcv X hW (ci := 5) (q0 := 0) rfl rfl) rfl hl.1 rfl (Nat.le_of_ble_eq_true rfl) ⟨Nat.zero_le _, Nat.zero_le _⟩ dX5_costs_1 (fun H locs hW => ?_)
  refine lv_aload_n hx hb dX5_costs_4 rfl (lv_at hl 0 rfl) ?_
  obtain ⟨z_1, hz_1⟩ : ∃ zq, m_X5_empties_f f = zq := ⟨_, rfl⟩
  have hR_z_1 : RF z_1 := by rw [← hz_1]; exact RF_empties hR
  have hf_z_1 := hR_z_1.1
  have hq_2 := hf_z_1.1.2
  have hq_3 := hf_z_1.2.1.2
  have hq_4 := hf_z_1.2.2.1.2
  have hM_5 := (c_X5_empties l D k a z f f hi sl sv tx td )
  rw [hz_1] at hM_5
  refine kVv (As := []) (rest := []) X hW hM_5 yw_X5_empties lk_X5_147 ⟨Nat.le_of_ble_eq_true rfl, Nat.le_of_ble_eq_true rfl⟩ (wr := []) (List.Perm.refl _) (w' := refW k a z z_1 f hi sl sv tx td) (List.Perm.refl _) (k_rcv X hW (ci := 5) (q0 := 0) rfl rfl) rfl hl.1 rfl (Nat.le_of_ble_eq_true rfl) ⟨Nat.zero_le _, Nat.zero_le _⟩ dX5_costs_5 (fun H locs hW => ?_)
  refine lv_aload_n hx hb dX5_costs_8 rfl (lv_at hl 0 rfl) ?_
  refine lv_iload_n hx hb dX5_costs_9 rfl (lv_at hl 1 rfl) ?_
  refine lv_iload_n hx hb dX5_costs_10 rfl (lv_at hl 2 rfl) ?_
  refine lv_aload_n hx hb dX5_costs_11 rfl (lv_at hl 0 rfl) ?_
  refine lv_iload_n hx hb dX5_costs_12 rfl (lv_at hl 1 rfl) ?_
  refine lv_iconst (v := nI 1) hx hb dX5_costs_13 (by decide +kernel) ?_
  obtain ⟨z_6, hz_6⟩ : ∃ zq, m_X5_get_r z_1 q 1 = zq := ⟨_, rfl⟩
  have hM_7 := (c_X5_get l D k a z z_1 f hi sl sv tx td q 1 (by first | decide | omega) (by first | decide | omega))
  rw [hz_6] at hM_7
  refine kVi (As := [.int (nI q), .int (nI 1)]) (rest := [.int c1, .int (nI q), .ref (a 0)]) X hW hM_7 yw_X5_get lk_X5_53 ⟨Nat.le_of_ble_eq_true rfl, Nat.le_of_ble_eq_true rfl⟩ (wr := []) (List.Perm.refl _) (w' := refW k a z z_1 f hi sl sv tx td) (List.Perm.refl _) (k_rcv X hW (ci := 5) (q0 := 0) rfl rfl) rfl hl.1 rfl (Nat.le_of_ble_eq_true rfl) ⟨Nat.zero_le _, Nat.zero_le _⟩ dX5_costs_14 (fun H locs hW => ?_)
  obtain ⟨z_8, hz_8⟩ : ∃ zq, m_X5_doBounds_f z_1 q c1 z_6 = zq := ⟨_, rfl⟩
  have hR_z_8 : RF z_8 := by rw [← hz_8]; exact RF_ag hR_z_1 AG_doBounds
  have hf_z_8 := hR_z_8.1
  have hq_9 := hf_z_8.1.2
  have hq_10 := hf_z_8.2.1.2
  have hq_11 := hf_z_8.2.2.1.2
  obtain ⟨z_12, hz_12⟩ : ∃ zq, m_X5_doBounds_r z_1 q = zq := ⟨_, rfl⟩
  have hM_13 := (c_X5_doBounds l D k a z z_1 f hi sl sv tx td q c1 z_6 (by omega))
  rw [hz_8, hz_12] at hM_13
  refine kVi (As := [.int (nI q), .int c1, .int z_6]) (rest := []) X hW hM_13 yw_X5_doBounds lk_X5_113 ⟨Nat.le_of_ble_eq_true rfl, Nat.le_of_ble_eq_true rfl⟩ (wr := []) (List.Perm.refl _) (w' := refW k a z z_8 f hi sl sv tx td) (List.Perm.refl _) (k_rcv X hW (ci := 5) (q0 := 0) rfl rfl) rfl hl.1 rfl (Nat.le_of_ble_eq_true rfl) ⟨Nat.zero_le _, Nat.zero_le _⟩ dX5_costs_17 (fun H locs hW => ?_)
  refine lv_istore (lv' := [(4, .int z_12), (0, .ref (a 0)), (1, .int (nI q)), (2, .int c1), (3, .int (nI gp))]) hx hb dX5_costs_20 hl (by decide) rfl (fun ls hl => ?_)
  refine lv_iconst (v := nI 0) hx hb dX5_costs_22 (by decide +kernel) ?_
  refine lv_istore (lv' := [(5, .int (nI 0)), (4, .int z_12), (0, .ref (a 0)), (1, .int (nI q)), (2, .int c1), (3, .int (nI gp))]) hx hb dX5_costs_23 hl (by decide) rfl (fun ls hl => ?_)
  have kx : ∀ (f1 : Nat → Int32) (H : Heap) (locs : List Loc) (ls : Array Slot), m_X5_costs_r f q c1 gp = m_corest_r f1 → KW D A s (refW k a z f1 f hi sl sv tx td) H locs → lv_has ls 8 [(0, .ref (a 0))] → W p l e (rmD 7) s m args below meth c H locs 0 0 Q (F0 m 66 ls []) := by
    intro f1 H locs ls hr hW hl
    refine lv_aload_n hx hb dX5_costs_66 rfl (lv_at hl 0 rfl) ?_
    refine lv_bipush (v := nI 7) hx hb dX5_costs_67 (by decide +kernel) ?_
    obtain ⟨z_14, hz_14⟩ : ∃ zq, m_X5_allOf_r f1 7 = zq := ⟨_, rfl⟩
    have hM_15 := (c_X5_allOf l D k a z f1 f hi sl sv tx td 7 (by first | decide | omega))
    rw [hz_14] at hM_15
    refine kVi (As := [.int (nI 7)]) (rest := []) X hW hM_15 yw_X5_allOf lk_X5_86 ⟨Nat.le_of_ble_eq_true rfl, Nat.le_of_ble_eq_true rfl⟩ (wr := []) (List.Perm.refl _) (w' := refW k a z f1 f hi sl sv tx td) (List.Perm.refl _) (k_rcv X hW (ci := 5) (q0 := 0) rfl rfl) rfl hl.1 rfl (Nat.le_of_ble_eq_true rfl) ⟨Nat.zero_le _, Nat.zero_le _⟩ dX5_costs_69 (fun H locs hW => ?_)
    refine lv_aload_n hx hb dX5_costs_72 rfl (lv_at hl 0 rfl) ?_
    refine k_get X hW inG5 rfl 0 (by decide) fl_X5_7 rfl 0 rfl (v := .ref (a 1)) rfl dX5_costs_73 ?_
    refine lv_iconst (v := nI 3) hx hb dX5_costs_76 (by decide +kernel) ?_
    refine k_iald X hW 1 rfl (j := 3) (v := f1 3) rfl (by decide) (by decide) rfl dX5_costs_77 ?_
    refine lv_aload_n hx hb dX5_costs_78 rfl (lv_at hl 0 rfl) ?_
    refine lv_iconst (v := nI 4) hx hb dX5_costs_79 (by decide +kernel) ?_
    obtain ⟨z_16, hz_16⟩ : ∃ zq, m_X5_allOf_r f1 4 = zq := ⟨_, rfl⟩
    have hM_17 := (c_X5_allOf l D k a z f1 f hi sl sv tx td 4 (by first | decide | omega))
    rw [hz_16] at hM_17
    refine kVi (As := [.int (nI 4)]) (rest := [.int (f1 3), .int z_14]) X hW hM_17 yw_X5_allOf lk_X5_86 ⟨Nat.le_of_ble_eq_true rfl, Nat.le_of_ble_eq_true rfl⟩ (wr := []) (List.Perm.refl _) (w' := refW k a z f1 f hi sl sv tx td) (List.Perm.refl _) (k_rcv X hW (ci := 5) (q0 := 0) rfl rfl) rfl hl.1 rfl (Nat.le_of_ble_eq_true rfl) ⟨Nat.zero_le _, Nat.zero_le _⟩ dX5_costs_80 (fun H locs hW => ?_)
    refine lv_imul hx hb dX5_costs_83 ?_
    refine lv_iadd hx hb dX5_costs_84 ?_
    refine lv_istore (lv' := [(5, .int (z_14 + ((f1 3) * z_16))), (0, .ref (a 0))]) hx hb dX5_costs_85 hl (by decide) rfl (fun ls hl => ?_)
    refine lv_aload_n hx hb dX5_costs_87 rfl (lv_at hl 1 rfl) ?_
    refine kVv (As := []) (rest := []) X hW (c_X5_comesBack2 l D k a z f1 f hi sl sv tx td) yw_X5_comesBack lk_X5_142 ⟨Nat.le_of_ble_eq_true rfl, Nat.le_of_ble_eq_true rfl⟩ (wr := []) (List.Perm.refl _) (w' := refW k a z f f hi sl sv tx td) (List.Perm.refl _) (k_rcv X hW (ci := 5) (q0 := 0) rfl rfl) rfl hl.1 rfl (Nat.le_of_ble_eq_true rfl) ⟨Nat.zero_le _, Nat.zero_le _⟩ dX5_costs_88 (fun H locs hW => ?_)
    refine lv_iload hx hb dX5_costs_91 (lv_at hl 0 rfl) ?_
    exact hQ _ _ _ _ _ _ hW dX5_costs_93 (by subst hz_16; subst hz_14; subst hz_12; subst hz_8; subst hz_6; subst hz_1; rw [hr, m_corest_r]) rfl
  have lq : ∀ (r : Nat) (f' : Nat → Int32), RF f' → m_X5_inRings_r (lp_dr r f') ≤ 0 → ∀ (H : Heap) (locs : List Loc) (ls : Array Slot), m_X5_costs_r f q c1 gp = m_corest_r (lp_dr r f') → KW D A s (refW k a z f' f hi sl sv tx td) H locs → lv_has ls 8 [(0, .ref (a 0))] → W p l e (rmD 7) s m args below meth c H locs 0 0 Q (F0 m 52 ls []) := by
    intro r
    induction r with
    | zero =>
      intro f' hR' hD H locs ls hr hW hl
      refine lv_aload_n hx hb dX5_costs_52 rfl (lv_at hl 0 rfl) ?_
      obtain ⟨z_18, hz_18⟩ : ∃ zq, m_X5_inRings_r f' = zq := ⟨_, rfl⟩
      have hM_19 := (c_X5_inRings l D k a z f' f hi sl sv tx td  hR'.1)
      rw [hz_18] at hM_19
      refine kVi (As := []) (rest := []) X hW hM_19 yw_X5_inRings lk_X5_132 ⟨Nat.le_of_ble_eq_true rfl, Nat.le_of_ble_eq_true rfl⟩ (wr := []) (List.Perm.refl _) (w' := refW k a z f' f hi sl sv tx td) (List.Perm.refl _) (k_rcv X hW (ci := 5) (q0 := 0) rfl rfl) rfl hl.1 rfl (Nat.le_of_ble_eq_true rfl) ⟨Nat.zero_le _, Nat.zero_le _⟩ dX5_costs_53 (fun H locs hW => ?_)
      refine lv_if_le (tgt := 66) hx hb dX5_costs_56 (by decide) (fun c_20 => ?_) (fun c_20 => ?_)
      · subst hz_18
        exact kx f' _ _ _ hr hW (lv_sub hl [0] rfl)
      · exact absurd (by rw [← hz_18]; exact hD) c_20
    | succ r ih =>
      intro f' hR' hD H locs ls hr hW hl
      refine lv_aload_n hx hb dX5_costs_52 rfl (lv_at hl 0 rfl) ?_
      obtain ⟨z_21, hz_21⟩ : ∃ zq, m_X5_inRings_r f' = zq := ⟨_, rfl⟩
      have hM_22 := (c_X5_inRings l D k a z f' f hi sl sv tx td  hR'.1)
      rw [hz_21] at hM_22
      refine kVi (As := []) (rest := []) X hW hM_22 yw_X5_inRings lk_X5_132 ⟨Nat.le_of_ble_eq_true rfl, Nat.le_of_ble_eq_true rfl⟩ (wr := []) (List.Perm.refl _) (w' := refW k a z f' f hi sl sv tx td) (List.Perm.refl _) (k_rcv X hW (ci := 5) (q0 := 0) rfl rfl) rfl hl.1 rfl (Nat.le_of_ble_eq_true rfl) ⟨Nat.zero_le _, Nat.zero_le _⟩ dX5_costs_53 (fun H locs hW => ?_)
      refine lv_if_le (tgt := 66) hx hb dX5_costs_56 (by decide) (fun c_23 => ?_) (fun c_23 => ?_)
      · subst hz_21
        rw [lp_dr, if_pos c_23] at hr
        exact kx f' _ _ _ hr hW (lv_sub hl [0] rfl)
      · refine lv_aload_n hx hb dX5_costs_59 rfl (lv_at hl 0 rfl) ?_
        obtain ⟨z_24, hz_24⟩ : ∃ zq, m_X5_tick_f f' = zq := ⟨_, rfl⟩
        have hR_z_24 : RF z_24 := by rw [← hz_24]; exact RF_tick hR'
        have hf_z_24 := hR_z_24.1
        have hq_25 := hf_z_24.1.2
        have hq_26 := hf_z_24.2.1.2
        have hq_27 := hf_z_24.2.2.1.2
        have hM_28 := (c_X5_tick l D k a z f' f hi sl sv tx td  hR')
        rw [hz_24] at hM_28
        refine kVv (As := []) (rest := []) X hW hM_28 yw_X5_tick lk_X5_89 ⟨Nat.le_of_ble_eq_true rfl, Nat.le_of_ble_eq_true rfl⟩ (wr := []) (List.Perm.refl _) (w' := refW k a z z_24 f hi sl sv tx td) (List.Perm.refl _) (k_rcv X hW (ci := 5) (q0 := 0) rfl rfl) rfl hl.1 rfl (Nat.le_of_ble_eq_true rfl) ⟨Nat.zero_le _, Nat.zero_le _⟩ dX5_costs_60 (fun H locs hW => ?_)
        refine lv_goto (tgt := 52) hx hb dX5_costs_63 (by decide) ?_
        subst hz_24
        subst hz_21
        rw [lp_dr, if_neg c_23] at hD hr
        exact ih _ (RF_tick hR') hD _ _ _ hr hW (lv_sub hl [0] rfl)
  have lp : ∀ (r : Nat) (f' : Nat → Int32) (i : Nat), RF f' → f' 5 = nI i → ∀ (H : Heap) (locs : List Loc) (ls : Array Slot), i + r = 16 → cs_f f q c1 gp = lp_co q gp r f' → KW D A s (refW k a z f' f hi sl sv tx td) H locs → lv_has ls 8 [(5, .int (nI i)), (0, .ref (a 0)), (1, .int (nI q)), (2, .int c1), (3, .int (nI gp))] → W p l e (rmD 7) s m args below meth c H locs 0 0 Q (F0 m 25 ls []) := by
    intro r
    induction r with
    | zero =>
      intro f' i hR' h5 H locs ls hir hu hW hl
      refine lv_iload hx hb dX5_costs_25 (lv_at hl 0 rfl) ?_
      refine lv_bipush (v := nI 16) hx hb dX5_costs_27 (by decide +kernel) ?_
      refine lv_icmp_ge (tgt := 52) hx hb dX5_costs_29 (by decide) (fun c_29 => ?_) (fun c_29 => ?_)
      · have c_29 : 16 ≤ i := (nI_leI (a := 16) (b := i) (by omega) (by omega)).mp c_29
        exact lq 1000 f' hR' (by rw [show f' = cs_f f q c1 gp from hu.symm]; exact hD) _ _ _ (by rw [m_X5_costs_r, hu]; rfl) hW (lv_sub hl [1] rfl)
      · have c_29 : ¬ (16 ≤ i) := fun h => c_29 ((nI_leI (a := 16) (b := i) (by omega) (by omega)).mpr h)
        omega
    | succ r ih =>
      intro f' i hR' h5 H locs ls hir hu hW hl
      have h5n : tn (f' 5) = i := tn_of h5 (by omega)
      refine lv_iload hx hb dX5_costs_25 (lv_at hl 0 rfl) ?_
      refine lv_bipush (v := nI 16) hx hb dX5_costs_27 (by decide +kernel) ?_
      refine lv_icmp_ge (tgt := 52) hx hb dX5_costs_29 (by decide) (fun c_30 => ?_) (fun c_30 => ?_)
      · have c_30 : 16 ≤ i := (nI_leI (a := 16) (b := i) (by omega) (by omega)).mp c_30
        omega
      · have c_30 : ¬ (16 ≤ i) := fun h => c_30 ((nI_leI (a := 16) (b := i) (by omega) (by omega)).mpr h)
        refine lv_aload_n hx hb dX5_costs_32 rfl (lv_at hl 1 rfl) ?_
        refine lv_iload_n hx hb dX5_costs_33 rfl (lv_at hl 2 rfl) ?_
        obtain ⟨z_31, hz_31⟩ : ∃ zq, m_X5_doCome_f f' q = zq := ⟨_, rfl⟩
        have hR_z_31 : RF z_31 := by rw [← hz_31]; exact RF_doCome hR' (by omega)
        have hf_z_31 := hR_z_31.1
        have hq_32 := hf_z_31.1.2
        have hq_33 := hf_z_31.2.1.2
        have hq_34 := hf_z_31.2.2.1.2
        obtain ⟨z_35, hz_35⟩ : ∃ zq, m_X5_doCome_r f' q = zq := ⟨_, rfl⟩
        have hM_36 := (c_X5_doCome l D k a z f' f hi sl sv tx td q hR'.1 (by omega) (by omega))
        rw [hz_31, hz_35] at hM_36
        refine kVi (As := [.int (nI q)]) (rest := []) X hW hM_36 yw_X5_doCome lk_X5_117 ⟨Nat.le_of_ble_eq_true rfl, Nat.le_of_ble_eq_true rfl⟩ (wr := []) (List.Perm.refl _) (w' := refW k a z z_31 f hi sl sv tx td) (List.Perm.refl _) (k_rcv X hW (ci := 5) (q0 := 0) rfl rfl) rfl hl.1 rfl (Nat.le_of_ble_eq_true rfl) ⟨Nat.zero_le _, Nat.zero_le _⟩ dX5_costs_34 (fun H locs hW => ?_)
        refine lv_istore (lv' := [(6, .int z_35), (5, .int (nI i)), (0, .ref (a 0)), (1, .int (nI q)), (2, .int c1), (3, .int (nI gp))]) hx hb dX5_costs_37 hl (by decide) rfl (fun ls hl => ?_)
        refine lv_aload_n hx hb dX5_costs_39 rfl (lv_at hl 2 rfl) ?_
        refine lv_iload_n hx hb dX5_costs_40 rfl (lv_at hl 5 rfl) ?_
        obtain ⟨z_37, hz_37⟩ : ∃ zq, m_X5_ticks_f z_31 gp = zq := ⟨_, rfl⟩
        have hR_z_37 : RF z_37 := by rw [← hz_37]; exact RF_ticks _ hR_z_31
        have hf_z_37 := hR_z_37.1
        have hq_38 := hf_z_37.1.2
        have hq_39 := hf_z_37.2.1.2
        have hq_40 := hf_z_37.2.2.1.2
        obtain ⟨z_41, hz_41⟩ : ∃ zq, m_X5_ticks_r z_31 gp = zq := ⟨_, rfl⟩
        have hM_42 := (c_X5_ticks l D k a z z_31 f hi sl sv tx td gp hR_z_31 (by omega))
        rw [hz_37, hz_41] at hM_42
        refine kVi (As := [.int (nI gp)]) (rest := []) X hW hM_42 yw_X5_ticks lk_X5_123 ⟨Nat.le_of_ble_eq_true rfl, Nat.le_of_ble_eq_true rfl⟩ (wr := []) (List.Perm.refl _) (w' := refW k a z z_37 f hi sl sv tx td) (List.Perm.refl _) (k_rcv X hW (ci := 5) (q0 := 0) rfl rfl) rfl hl.1 rfl (Nat.le_of_ble_eq_true rfl) ⟨Nat.zero_le _, Nat.zero_le _⟩ dX5_costs_41 (fun H locs hW => ?_)
        refine lv_istore (lv' := [(7, .int z_41), (6, .int z_35), (5, .int (nI i)), (0, .ref (a 0)), (1, .int (nI q)), (2, .int c1), (3, .int (nI gp))]) hx hb dX5_costs_44 hl (by decide) rfl (fun ls hl => ?_)
        refine lv_iinc (v := nI (i + 1)) (lv' := [(5, .int (nI (i + 1))), (7, .int z_41), (6, .int z_35), (0, .ref (a 0)), (1, .int (nI q)), (2, .int c1), (3, .int (nI gp))]) hx hb dX5_costs_46 hl (k := 2) rfl (k_inc _) (by decide) rfl (fun ls hl => ?_)
        refine lv_goto (tgt := 25) hx hb dX5_costs_49 (by decide) ?_
        subst hz_41
        subst hz_37
        subst hz_35
        subst hz_31
        exact ih _ (i + 1) (RF_ticks _ (RF_doCome hR' (by rw [h5, tn_of rfl (by omega)]; omega))) ((AS_ticks _ _ 5 (Or.inr rfl)).trans (doCome_5.trans (by rw [h5, tn_of rfl (by omega)]))) _ _ _ (by omega) (by rw [hu, lp_co]; rfl) hW (lv_sub hl [0, 3, 4, 5, 6] rfl)
  exact lp 16 z_8 0 hR_z_8 (by subst hz_12; subst hz_8; subst hz_6; subst hz_1; exact (AG_doBounds 5 (by decide)).trans empties_5) _ _ _ (by omega) (by subst hz_12; subst hz_8; subst hz_6; subst hz_1; rfl) hW (lv_sub hl [0, 2, 3, 4, 5] rfl)
