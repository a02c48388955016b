def m_X2_clear_r (z : Nat → Int32) : Int32 := nI (tn (z 1))
def m_X2_clear_z (z : Nat → Int32) : Nat → Int32 := upd z 1 (nI 0)
set_option maxHeartbeats 4000000 in
set_option maxRecDepth 100000 in
theorem c_X2_clear (l : Launch) (D : va_G) (k : Nat → ClassId) (o sa : Nat) (z : Nat → Int32) (g : Nat → Int32)  (hp : PD z)  : mI l yX2_clear (wsY yX2_clear cX2_clear 2 (some .int)) 0 D k [.ref o] (padW k o sa z g) (padW k o sa (m_X2_clear_z z) g) (m_X2_clear_r z) := by
  refine mI_intro rfl (Nat.le_of_ble_eq_true rfl) (Or.inl rfl) ?_
  intro p e s m args below meth c A Q ls X hW hl hQ
  have hx := X.hx
  have hb := X.hb
  have hl : lv_has ls 2 [(0, .ref o)] := hl
  have hq_1 := hp.1.2
  have hq_2 := hp.2.2
  refine lv_aload_n hx hb dX2_clear_0 rfl (lv_at hl 0 rfl) ?_
  refine k_get X hW inG2 rfl 1 (by decide) fl_X2_15 rfl 0 rfl (v := .int (z 1)) rfl dX2_clear_1 ?_
  refine k_top (y := nI (tn (z 1))) (hp.1.1) ?_
  refine lv_istore_n (lv' := [(1, .int (nI (tn (z 1)))), (0, .ref o)]) hx hb dX2_clear_4 rfl hl (by decide) rfl (fun ls hl => ?_)
  refine lv_aload_n hx hb dX2_clear_5 rfl (lv_at hl 1 rfl) ?_
  refine lv_iconst (v := nI 0) hx hb dX2_clear_6 (by decide +kernel) ?_
  refine k_put X hW inG2 rfl tyX2_ok nmX2 1 (by decide) fl_X2_15 rfl rfl 0 rfl rfl rfl (Nat.le_of_ble_eq_true rfl) dX2_clear_7 (w' := padW k o sa (upd z 1 (nI 0)) g) rfl (fun H locs hW => ?_)
  refine lv_iload_n hx hb dX2_clear_10 rfl (lv_at hl 0 rfl) ?_
  exact hQ _ _ _ _ _ _ hW dX2_clear_11 (by rw [m_X2_clear_r]) (by rw [m_X2_clear_z])
theorem PD_X2_clear {z : Nat → Int32} (h : PD z) : PD (m_X2_clear_z z) := by
  rw [m_X2_clear_z]
  exact (PD_len h (by decide))
def m_X2_startReading_z (z : Nat → Int32) : Nat → Int32 := upd (upd z 2 (nI 0)) 3 (nI 0)
set_option maxHeartbeats 4000000 in
set_option maxRecDepth 100000 in
theorem c_X2_startReading (l : Launch) (D : va_G) (k : Nat → ClassId) (o sa : Nat) (z : Nat → Int32) (g : Nat → Int32)  (hp : PD z)  : mV l yX2_startReading (wsY yX2_startReading cX2_startReading 1 none) 0 D k [.ref o] (padW k o sa z g) (padW k o sa (m_X2_startReading_z z) g) := by
  refine mV_intro rfl (Nat.le_of_ble_eq_true rfl) ?_
  intro p e s m args below meth c A Q ls X hW hl hQ
  have hx := X.hx
  have hb := X.hb
  have hl : lv_has ls 1 [(0, .ref o)] := hl
  have hq_1 := hp.1.2
  have hq_2 := hp.2.2
  refine lv_aload_n hx hb dX2_startReading_0 rfl (lv_at hl 0 rfl) ?_
  refine lv_iconst (v := nI 0) hx hb dX2_startReading_1 (by decide +kernel) ?_
  refine k_put X hW inG2 rfl tyX2_ok nmX2 2 (by decide) fl_X2_19 rfl rfl 0 rfl rfl rfl (Nat.le_of_ble_eq_true rfl) dX2_startReading_2 (w' := padW k o sa (upd z 2 (nI 0)) g) rfl (fun H locs hW => ?_)
  refine lv_aload_n hx hb dX2_startReading_5 rfl (lv_at hl 0 rfl) ?_
  refine lv_iconst (v := nI 0) hx hb dX2_startReading_6 (by decide +kernel) ?_
  refine k_put X hW inG2 rfl tyX2_ok nmX2 3 (by decide) fl_X2_22 rfl rfl 0 rfl rfl rfl (Nat.le_of_ble_eq_true rfl) dX2_startReading_7 (w' := padW k o sa (upd (upd z 2 (nI 0)) 3 (nI 0)) g) rfl (fun H locs hW => ?_)
  exact hQ _ _ _ _ _ hW dX2_startReading_10 (by rw [m_X2_startReading_z])
theorem PD_X2_startReading {z : Nat → Int32} (h : PD z) : PD (m_X2_startReading_z z) := by
  rw [m_X2_startReading_z]
  exact (PD_u (PD_at h (by decide)) (by decide) (by decide))
def m_X2_digitStands_r (z : Nat → Int32) (g : Nat → Int32) : Int32 := if z 3 = 0 then (if tn (z 1) ≤ tn (z 2) then nI 0 else if g (tn (z 2)) < nI 48 then nI 0 else if nI 57 < g (tn (z 2)) then nI 0 else nI 1) else nI 0
set_option maxHeartbeats 4000000 in
set_option maxRecDepth 100000 in
theorem c_X2_digitStands (l : Launch) (D : va_G) (k : Nat → ClassId) (o sa : Nat) (z : Nat → Int32) (g : Nat → Int32)  (hp : PD z)  : mI l yX2_digitStands (wsY yX2_digitStands cX2_digitStands 1 (some .boolean)) 0 D k [.ref o] (padW k o sa z g) (padW k o sa z g) (m_X2_digitStands_r z g) := by
  refine mI_intro rfl (Nat.le_of_ble_eq_true rfl) (Or.inr ⟨rfl, by rw [m_X2_digitStands_r]; exact (nb_ite (nb_ite rfl (nb_ite rfl (nb_ite rfl rfl))) rfl)⟩) ?_
  intro p e s m args below meth c A Q ls X hW hl hQ
  have hx := X.hx
  have hb := X.hb
  have hl : lv_has ls 1 [(0, .ref o)] := hl
  have hq_1 := hp.1.2
  have hq_2 := hp.2.2
  refine lv_aload_n hx hb dX2_digitStands_0 rfl (lv_at hl 0 rfl) ?_
  refine k_get X hW inG2 rfl 3 (by decide) fl_X2_22 rfl 0 rfl (v := .int (z 3)) rfl dX2_digitStands_1 ?_
  refine lv_if_ne (tgt := 50) hx hb dX2_digitStands_4 (by decide) (fun c_3 => ?_) (fun c_3 => ?_)
  · refine lv_iconst (v := nI 0) hx hb dX2_digitStands_50 (by decide +kernel) ?_
    exact hQ _ _ _ _ _ _ hW dX2_digitStands_51 (by rw [m_X2_digitStands_r, if_neg c_3]) rfl
  · refine lv_aload_n hx hb dX2_digitStands_7 rfl (lv_at hl 0 rfl) ?_
    refine k_get X hW inG2 rfl 2 (by decide) fl_X2_19 rfl 0 rfl (v := .int (z 2)) rfl dX2_digitStands_8 ?_
    refine k_top (y := nI (tn (z 2))) (hp.2.1) ?_
    refine lv_aload_n hx hb dX2_digitStands_11 rfl (lv_at hl 0 rfl) ?_
    refine k_get X hW inG2 rfl 1 (by decide) fl_X2_15 rfl 0 rfl (v := .int (z 1)) rfl dX2_digitStands_12 ?_
    refine k_top (y := nI (tn (z 1))) (hp.1.1) ?_
    refine lv_icmp_ge (tgt := 50) hx hb dX2_digitStands_15 (by decide) (fun c_4 => ?_) (fun c_4 => ?_)
    · have c_4 : tn (z 1) ≤ tn (z 2) := (nI_leI (a := tn (z 1)) (b := tn (z 2)) (by omega) (by omega)).mp c_4
      refine lv_iconst (v := nI 0) hx hb dX2_digitStands_50 (by decide +kernel) ?_
      exact hQ _ _ _ _ _ _ hW dX2_digitStands_51 (by rw [m_X2_digitStands_r, if_pos c_3, if_pos c_4]) rfl
    · have c_4 : ¬ (tn (z 1) ≤ tn (z 2)) := fun h => c_4 ((nI_leI (a := tn (z 1)) (b := tn (z 2)) (by omega) (by omega)).mpr h)
      refine lv_aload_n hx hb dX2_digitStands_18 rfl (lv_at hl 0 rfl) ?_
      refine k_get X hW inG2 rfl 0 (by decide) fl_X2_11 rfl 0 rfl (v := .ref sa) rfl dX2_digitStands_19 ?_
      refine lv_aload_n hx hb dX2_digitStands_22 rfl (lv_at hl 0 rfl) ?_
      refine k_get X hW inG2 rfl 2 (by decide) fl_X2_19 rfl 0 rfl (v := .int (z 2)) rfl dX2_digitStands_23 ?_
      refine k_top (y := nI (tn (z 2))) (hp.2.1) ?_
      refine k_cald X hW 1 rfl (j := (tn (z 2))) (v := g (tn (z 2))) rfl (by omega) (by decide) rfl dX2_digitStands_26 ?_
      refine lv_bipush (v := nI 48) hx hb dX2_digitStands_27 (by decide +kernel) ?_
      refine lv_icmp_lt (tgt := 50) hx hb dX2_digitStands_29 (by decide) (fun c_5 => ?_) (fun c_5 => ?_)
      · refine lv_iconst (v := nI 0) hx hb dX2_digitStands_50 (by decide +kernel) ?_
        exact hQ _ _ _ _ _ _ hW dX2_digitStands_51 (by rw [m_X2_digitStands_r, if_pos c_3, if_neg c_4, if_pos c_5]) rfl
      · refine lv_aload_n hx hb dX2_digitStands_32 rfl (lv_at hl 0 rfl) ?_
        refine k_get X hW inG2 rfl 0 (by decide) fl_X2_11 rfl 0 rfl (v := .ref sa) rfl dX2_digitStands_33 ?_
        refine lv_aload_n hx hb dX2_digitStands_36 rfl (lv_at hl 0 rfl) ?_
        refine k_get X hW inG2 rfl 2 (by decide) fl_X2_19 rfl 0 rfl (v := .int (z 2)) rfl dX2_digitStands_37 ?_
        refine k_top (y := nI (tn (z 2))) (hp.2.1) ?_
        refine k_cald X hW 1 rfl (j := (tn (z 2))) (v := g (tn (z 2))) rfl (by omega) (by decide) rfl dX2_digitStands_40 ?_
        refine lv_bipush (v := nI 57) hx hb dX2_digitStands_41 (by decide +kernel) ?_
        refine lv_icmp_gt (tgt := 50) hx hb dX2_digitStands_43 (by decide) (fun c_6 => ?_) (fun c_6 => ?_)
        · refine lv_iconst (v := nI 0) hx hb dX2_digitStands_50 (by decide +kernel) ?_
          exact hQ _ _ _ _ _ _ hW dX2_digitStands_51 (by rw [m_X2_digitStands_r, if_pos c_3, if_neg c_4, if_neg c_5, if_pos c_6]) rfl
        · refine lv_iconst (v := nI 1) hx hb dX2_digitStands_46 (by decide +kernel) ?_
          refine lv_goto (tgt := 51) hx hb dX2_digitStands_47 (by decide) ?_
          exact hQ _ _ _ _ _ _ hW dX2_digitStands_51 (by rw [m_X2_digitStands_r, if_pos c_3, if_neg c_4, if_neg c_5, if_neg c_6]) rfl
theorem ds_lt {z g : Nat → Int32} (h : ¬ m_X2_digitStands_r z g = 0) : tn (z 2) < tn (z 1) := by
  unfold m_X2_digitStands_r at h
  by_cases h0 : z 3 = 0
  · rw [if_pos h0] at h
    by_cases h1 : tn (z 1) ≤ tn (z 2)
    · rw [if_pos h1] at h; exact absurd rfl h
    · omega
  · rw [if_neg h0] at h; exact absurd rfl h
def m_X2_readSign_r (z : Nat → Int32) (g : Nat → Int32) (c1 : Int32) : Int32 := if z 3 = 0 then (if tn (z 1) ≤ tn (z 2) then nI 0 else if g (tn (z 2)) = c1 then nI 1 else nI 0) else nI 0
def m_X2_readSign_z (z : Nat → Int32) (g : Nat → Int32) (c1 : Int32) : Nat → Int32 := if z 3 = 0 then (if tn (z 1) ≤ tn (z 2) then z else if g (tn (z 2)) = c1 then upd z 2 (nI (tn (z 2) + 1)) else z) else z
set_option maxHeartbeats 4000000 in
set_option maxRecDepth 100000 in
theorem c_X2_readSign (l : Launch) (D : va_G) (k : Nat → ClassId) (o sa : Nat) (z : Nat → Int32) (g : Nat → Int32) (c1 : Int32) (hp : PD z)  : mI l yX2_readSign (wsY yX2_readSign cX2_readSign 2 (some .boolean)) 0 D k [.ref o, .int c1] (padW k o sa z g) (padW k o sa (m_X2_readSign_z z g c1) g) (m_X2_readSign_r z g c1) := by
  refine mI_intro rfl (Nat.le_of_ble_eq_true rfl) (Or.inr ⟨rfl, by rw [m_X2_readSign_r]; exact (nb_ite (nb_ite rfl (nb_ite rfl rfl)) rfl)⟩) ?_
  intro p e s m args below meth c A Q ls X hW hl hQ
  have hx := X.hx
  have hb := X.hb
  have hl : lv_has ls 2 [(0, .ref o), (1, .int c1)] := hl
  have hq_1 := hp.1.2
  have hq_2 := hp.2.2
  refine lv_aload_n hx hb dX2_readSign_0 rfl (lv_at hl 0 rfl) ?_
  refine k_get X hW inG2 rfl 3 (by decide) fl_X2_22 rfl 0 rfl (v := .int (z 3)) rfl dX2_readSign_1 ?_
  refine lv_if_ne (tgt := 31) hx hb dX2_readSign_4 (by decide) (fun c_3 => ?_) (fun c_3 => ?_)
  · refine lv_iconst (v := nI 0) hx hb dX2_readSign_31 (by decide +kernel) ?_
    exact hQ _ _ _ _ _ _ hW dX2_readSign_32 (by rw [m_X2_readSign_r, if_neg c_3]) (by rw [m_X2_readSign_z, if_neg c_3])
  · refine lv_aload_n hx hb dX2_readSign_7 rfl (lv_at hl 0 rfl) ?_
    refine k_get X hW inG2 rfl 2 (by decide) fl_X2_19 rfl 0 rfl (v := .int (z 2)) rfl dX2_readSign_8 ?_
    refine k_top (y := nI (tn (z 2))) (hp.2.1) ?_
    refine lv_aload_n hx hb dX2_readSign_11 rfl (lv_at hl 0 rfl) ?_
    refine k_get X hW inG2 rfl 1 (by decide) fl_X2_15 rfl 0 rfl (v := .int (z 1)) rfl dX2_readSign_12 ?_
    refine k_top (y := nI (tn (z 1))) (hp.1.1) ?_
    refine lv_icmp_ge (tgt := 31) hx hb dX2_readSign_15 (by decide) (fun c_4 => ?_) (fun c_4 => ?_)
    · have c_4 : tn (z 1) ≤ tn (z 2) := (nI_leI (a := tn (z 1)) (b := tn (z 2)) (by omega) (by omega)).mp c_4
      refine lv_iconst (v := nI 0) hx hb dX2_readSign_31 (by decide +kernel) ?_
      exact hQ _ _ _ _ _ _ hW dX2_readSign_32 (by rw [m_X2_readSign_r, if_pos c_3, if_pos c_4]) (by rw [m_X2_readSign_z, if_pos c_3, if_pos c_4])
    · have c_4 : ¬ (tn (z 1) ≤ tn (z 2)) := fun h => c_4 ((nI_leI (a := tn (z 1)) (b := tn (z 2)) (by omega) (by omega)).mpr h)
      refine lv_aload_n hx hb dX2_readSign_18 rfl (lv_at hl 0 rfl) ?_
      refine k_get X hW inG2 rfl 0 (by decide) fl_X2_11 rfl 0 rfl (v := .ref sa) rfl dX2_readSign_19 ?_
      refine lv_aload_n hx hb dX2_readSign_22 rfl (lv_at hl 0 rfl) ?_
      refine k_get X hW inG2 rfl 2 (by decide) fl_X2_19 rfl 0 rfl (v := .int (z 2)) rfl dX2_readSign_23 ?_
      refine k_top (y := nI (tn (z 2))) (hp.2.1) ?_
      refine k_cald X hW 1 rfl (j := (tn (z 2))) (v := g (tn (z 2))) rfl (by omega) (by decide) rfl dX2_readSign_26 ?_
      refine lv_iload_n hx hb dX2_readSign_27 rfl (lv_at hl 1 rfl) ?_
      refine lv_icmp_eq (tgt := 33) hx hb dX2_readSign_28 (by decide) (fun c_5 => ?_) (fun c_5 => ?_)
      · refine lv_aload_n hx hb dX2_readSign_33 rfl (lv_at hl 0 rfl) ?_
        refine lv_dup hx hb dX2_readSign_34 rfl ?_
        refine k_get X hW inG2 rfl 2 (by decide) fl_X2_19 rfl 0 rfl (v := .int (z 2)) rfl dX2_readSign_35 ?_
        refine k_top (y := nI (tn (z 2))) (hp.2.1) ?_
        refine lv_iconst (v := nI 1) hx hb dX2_readSign_38 (by decide +kernel) ?_
        refine lv_iadd hx hb dX2_readSign_39 ?_
        refine k_top (y := nI (tn (z 2) + 1)) (nI_add _ _) ?_
        refine k_put X hW inG2 rfl tyX2_ok nmX2 2 (by decide) fl_X2_19 rfl rfl 0 rfl rfl rfl (Nat.le_of_ble_eq_true rfl) dX2_readSign_40 (w' := padW k o sa (upd z 2 (nI (tn (z 2) + 1))) g) rfl (fun H locs hW => ?_)
        refine lv_iconst (v := nI 1) hx hb dX2_readSign_43 (by decide +kernel) ?_
        exact hQ _ _ _ _ _ _ hW dX2_readSign_44 (by rw [m_X2_readSign_r, if_pos c_3, if_neg c_4, if_pos c_5]) (by rw [m_X2_readSign_z, if_pos c_3, if_neg c_4, if_pos c_5])
      · refine lv_iconst (v := nI 0) hx hb dX2_readSign_31 (by decide +kernel) ?_
        exact hQ _ _ _ _ _ _ hW dX2_readSign_32 (by rw [m_X2_readSign_r, if_pos c_3, if_neg c_4, if_neg c_5]) (by rw [m_X2_readSign_z, if_pos c_3, if_neg c_4, if_neg c_5])
theorem PD_X2_readSign {z : Nat → Int32} {g : Nat → Int32} {c1 : Int32} (h : PD z) : PD (m_X2_readSign_z z g c1) := by
  rw [m_X2_readSign_z]
  split
  · split
    · exact h
    · split
      · exact (PD_at h (by have hq1 := h.1.2; have hq2 := h.2.2; first | omega | (have hq3 := ds_lt ‹_›; omega)))
      · exact h
  · exact h
def m_X2_demand_z (z : Nat → Int32) (g : Nat → Int32) (c1 : Int32) : Nat → Int32 := if (m_X2_readSign_r z g c1) = 0 then upd (m_X2_readSign_z z g c1) 3 (nI 1) else (m_X2_readSign_z z g c1)
set_option maxHeartbeats 4000000 in
set_option maxRecDepth 100000 in
theorem c_X2_demand (l : Launch) (D : va_G) (k : Nat → ClassId) (o sa : Nat) (z : Nat → Int32) (g : Nat → Int32) (c1 : Int32) (hp : PD z)  : mV l yX2_demand (wsY yX2_demand cX2_demand 2 none) 1 D k [.ref o, .int c1] (padW k o sa z g) (padW k o sa (m_X2_demand_z z g c1) g) := by
  refine mV_intro rfl (Nat.le_of_ble_eq_true rfl) ?_
  intro p e s m args below meth c A Q ls X hW hl hQ
  have hx := X.hx
  have hb := X.hb
  have hl : lv_has ls 2 [(0, .ref o), (1, .int c1)] := hl
  have hq_1 := hp.1.2
  have hq_2 := hp.2.2
  refine lv_aload_n hx hb dX2_demand_0 rfl (lv_at hl 0 rfl) ?_
  refine lv_iload_n hx hb dX2_demand_1 rfl (lv_at hl 1 rfl) ?_
  obtain ⟨z_3, hz_3⟩ : ∃ zq, m_X2_readSign_z z g c1 = zq := ⟨_, rfl⟩
  have hp_z_3 : PD z_3 := by rw [← hz_3]; exact PD_X2_readSign hp
  have hq_4 := hp_z_3.1.2
  have hq_5 := hp_z_3.2.2
  obtain ⟨z_6, hz_6⟩ : ∃ zq, m_X2_readSign_r z g c1 = zq := ⟨_, rfl⟩
  have hM_7 := (c_X2_readSign l D k o sa z g c1 hp)
  rw [hz_3, hz_6] at hM_7
  refine kVi (As := [.int c1]) (rest := []) X hW hM_7 yw_X2_readSign lk_X2_59 ⟨Nat.le_of_ble_eq_true rfl, Nat.le_of_ble_eq_true rfl⟩ (wr := []) (List.Perm.refl _) (w' := padW k o sa z_3 g) (List.Perm.refl _) (k_rcv X hW (ci := 2) (q0 := 0) rfl rfl) rfl hl.1 rfl (Nat.le_of_ble_eq_true rfl) ⟨Nat.zero_le _, Nat.zero_le _⟩ dX2_demand_2 (fun H locs hW => ?_)
  refine lv_if_ne (tgt := 13) hx hb dX2_demand_5 (by decide) (fun c_8 => ?_) (fun c_8 => ?_)
  · exact hQ _ _ _ _ _ hW dX2_demand_13 (by subst hz_6; subst hz_3; rw [m_X2_demand_z, if_neg c_8])
  · refine lv_aload_n hx hb dX2_demand_8 rfl (lv_at hl 0 rfl) ?_
    refine lv_iconst (v := nI 1) hx hb dX2_demand_9 (by decide +kernel) ?_
    refine k_put X hW inG2 rfl tyX2_ok nmX2 3 (by decide) fl_X2_22 rfl rfl 0 rfl rfl rfl (Nat.le_of_ble_eq_true rfl) dX2_demand_10 (w' := padW k o sa (upd z_3 3 (nI 1)) g) rfl (fun H locs hW => ?_)
    exact hQ _ _ _ _ _ hW dX2_demand_13 (by subst hz_6; subst hz_3; rw [m_X2_demand_z, if_pos c_8])
theorem PD_X2_demand {z : Nat → Int32} {g : Nat → Int32} {c1 : Int32} (h : PD z) : PD (m_X2_demand_z z g c1) := by
  rw [m_X2_demand_z]
  split
  · exact (PD_u (PD_X2_readSign h) (by decide) (by decide))
  · exact (PD_X2_readSign h)
def m_X2_readDigit_r (z : Nat → Int32) (g : Nat → Int32) : Int32 := if (m_X2_digitStands_r z g) = 0 then nI 0 else (g (tn (z 2))) - (nI 48)
def m_X2_readDigit_z (z : Nat → Int32) (g : Nat → Int32) : Nat → Int32 := if (m_X2_digitStands_r z g) = 0 then upd z 3 (nI 1) else upd z 2 (nI (tn (z 2) + 1))
set_option maxHeartbeats 4000000 in
set_option maxRecDepth 100000 in
theorem c_X2_readDigit (l : Launch) (D : va_G) (k : Nat → ClassId) (o sa : Nat) (z : Nat → Int32) (g : Nat → Int32)  (hp : PD z)  : mI l yX2_readDigit (wsY yX2_readDigit cX2_readDigit 2 (some .int)) 1 D k [.ref o] (padW k o sa z g) (padW k o sa (m_X2_readDigit_z z g) g) (m_X2_readDigit_r z g) := by
  refine mI_intro rfl (Nat.le_of_ble_eq_true rfl) (Or.inl rfl) ?_
  intro p e s m args below meth c A Q ls X hW hl hQ
  have hx := X.hx
  have hb := X.hb
  have hl : lv_has ls 2 [(0, .ref o)] := hl
  have hq_1 := hp.1.2
  have hq_2 := hp.2.2
  refine lv_aload_n hx hb dX2_readDigit_0 rfl (lv_at hl 0 rfl) ?_
  obtain ⟨z_3, hz_3⟩ : ∃ zq, m_X2_digitStands_r z g = zq := ⟨_, rfl⟩
  have hM_4 := (c_X2_digitStands l D k o sa z g  hp)
  rw [hz_3] at hM_4
  refine kVi (As := []) (rest := []) X hW hM_4 yw_X2_digitStands lk_X2_80 ⟨Nat.le_of_ble_eq_true rfl, Nat.le_of_ble_eq_true rfl⟩ (wr := []) (List.Perm.refl _) (w' := padW k o sa z g) (List.Perm.refl _) (k_rcv X hW (ci := 2) (q0 := 0) rfl rfl) rfl hl.1 rfl (Nat.le_of_ble_eq_true rfl) ⟨Nat.zero_le _, Nat.zero_le _⟩ dX2_readDigit_1 (fun H locs hW => ?_)
  refine lv_if_ne (tgt := 14) hx hb dX2_readDigit_4 (by decide) (fun c_5 => ?_) (fun c_5 => ?_)
  · have hd_14 := ds_lt (z := z) (g := g) (by rw [hz_3]; exact c_5)
    refine lv_aload_n hx hb dX2_readDigit_14 rfl (lv_at hl 0 rfl) ?_
    refine k_get X hW inG2 rfl 0 (by decide) fl_X2_11 rfl 0 rfl (v := .ref sa) rfl dX2_readDigit_15 ?_
    refine lv_aload_n hx hb dX2_readDigit_18 rfl (lv_at hl 0 rfl) ?_
    refine k_get X hW inG2 rfl 2 (by decide) fl_X2_19 rfl 0 rfl (v := .int (z 2)) rfl dX2_readDigit_19 ?_
    refine k_top (y := nI (tn (z 2))) (hp.2.1) ?_
    refine k_cald X hW 1 rfl (j := (tn (z 2))) (v := g (tn (z 2))) rfl (by omega) (by decide) rfl dX2_readDigit_22 ?_
    refine lv_bipush (v := nI 48) hx hb dX2_readDigit_23 (by decide +kernel) ?_
    refine lv_isub hx hb dX2_readDigit_25 ?_
    refine lv_istore_n (lv' := [(1, .int ((g (tn (z 2))) - (nI 48))), (0, .ref o)]) hx hb dX2_readDigit_26 rfl hl (by decide) rfl (fun ls hl => ?_)
    refine lv_aload_n hx hb dX2_readDigit_27 rfl (lv_at hl 1 rfl) ?_
    refine lv_dup hx hb dX2_readDigit_28 rfl ?_
    refine k_get X hW inG2 rfl 2 (by decide) fl_X2_19 rfl 0 rfl (v := .int (z 2)) rfl dX2_readDigit_29 ?_
    refine k_top (y := nI (tn (z 2))) (hp.2.1) ?_
    refine lv_iconst (v := nI 1) hx hb dX2_readDigit_32 (by decide +kernel) ?_
    refine lv_iadd hx hb dX2_readDigit_33 ?_
    refine k_top (y := nI (tn (z 2) + 1)) (nI_add _ _) ?_
    refine k_put X hW inG2 rfl tyX2_ok nmX2 2 (by decide) fl_X2_19 rfl rfl 0 rfl rfl rfl (Nat.le_of_ble_eq_true rfl) dX2_readDigit_34 (w' := padW k o sa (upd z 2 (nI (tn (z 2) + 1))) g) rfl (fun H locs hW => ?_)
    refine lv_iload_n hx hb dX2_readDigit_37 rfl (lv_at hl 0 rfl) ?_
    exact hQ _ _ _ _ _ _ hW dX2_readDigit_38 (by subst hz_3; rw [m_X2_readDigit_r, if_neg c_5]) (by subst hz_3; rw [m_X2_readDigit_z, if_neg c_5])
  · refine lv_aload_n hx hb dX2_readDigit_7 rfl (lv_at hl 0 rfl) ?_
    refine lv_iconst (v := nI 1) hx hb dX2_readDigit_8 (by decide +kernel) ?_
    refine k_put X hW inG2 rfl tyX2_ok nmX2 3 (by decide) fl_X2_22 rfl rfl 0 rfl rfl rfl (Nat.le_of_ble_eq_true rfl) dX2_readDigit_9 (w' := padW k o sa (upd z 3 (nI 1)) g) rfl (fun H locs hW => ?_)
    refine lv_iconst (v := nI 0) hx hb dX2_readDigit_12 (by decide +kernel) ?_
    exact hQ _ _ _ _ _ _ hW dX2_readDigit_13 (by subst hz_3; rw [m_X2_readDigit_r, if_pos c_5]) (by subst hz_3; rw [m_X2_readDigit_z, if_pos c_5])
theorem PD_X2_readDigit {z : Nat → Int32} {g : Nat → Int32} (h : PD z) : PD (m_X2_readDigit_z z g) := by
  rw [m_X2_readDigit_z]
  split
  · exact (PD_u h (by decide) (by decide))
  · exact (PD_at h (by have hq1 := h.1.2; have hq2 := h.2.2; first | omega | (have hq3 := ds_lt ‹_›; omega)))
def m_X2_readNumber_r (z : Nat → Int32) (g : Nat → Int32) : Int32 := if (m_X2_readDigit_r z g) ≤ 0 then (m_X2_readDigit_r z g) else if (m_X2_digitStands_r (m_X2_readDigit_z z g) g) = 0 then (m_X2_readDigit_r z g) else ((nI 10) * (m_X2_readDigit_r z g)) + (m_X2_readDigit_r (m_X2_readDigit_z z g) g)
def m_X2_readNumber_z (z : Nat → Int32) (g : Nat → Int32) : Nat → Int32 := if (m_X2_readDigit_r z g) ≤ 0 then (m_X2_readDigit_z z g) else if (m_X2_digitStands_r (m_X2_readDigit_z z g) g) = 0 then (m_X2_readDigit_z z g) else (m_X2_readDigit_z (m_X2_readDigit_z z g) g)
set_option maxHeartbeats 4000000 in
set_option maxRecDepth 100000 in
theorem c_X2_readNumber (l : Launch) (D : va_G) (k : Nat → ClassId) (o sa : Nat) (z : Nat → Int32) (g : Nat → Int32)  (hp : PD z)  : mI l yX2_readNumber (wsY yX2_readNumber cX2_readNumber 2 (some .int)) 2 D k [.ref o] (padW k o sa z g) (padW k o sa (m_X2_readNumber_z z g) g) (m_X2_readNumber_r z g) := by
  refine mI_intro rfl (Nat.le_of_ble_eq_true rfl) (Or.inl rfl) ?_
  intro p e s m args below meth c A Q ls X hW hl hQ
  have hx := X.hx
  have hb := X.hb
  have hl : lv_has ls 2 [(0, .ref o)] := hl
  have hq_1 := hp.1.2
  have hq_2 := hp.2.2
  refine lv_aload_n hx hb dX2_readNumber_0 rfl (lv_at hl 0 rfl) ?_
  obtain ⟨z_3, hz_3⟩ : ∃ zq, m_X2_readDigit_z z g = zq := ⟨_, rfl⟩
  have hp_z_3 : PD z_3 := by rw [← hz_3]; exact PD_X2_readDigit hp
  have hq_4 := hp_z_3.1.2
  have hq_5 := hp_z_3.2.2
  obtain ⟨z_6, hz_6⟩ : ∃ zq, m_X2_readDigit_r z g = zq := ⟨_, rfl⟩
  have hM_7 := (c_X2_readDigit l D k o sa z g  hp)
  rw [hz_3, hz_6] at hM_7
  refine kVi (As := []) (rest := []) X hW hM_7 yw_X2_readDigit lk_X2_73 ⟨Nat.le_of_ble_eq_true rfl, Nat.le_of_ble_eq_true rfl⟩ (wr := []) (List.Perm.refl _) (w' := padW k o sa z_3 g) (List.Perm.refl _) (k_rcv X hW (ci := 2) (q0 := 0) rfl rfl) rfl hl.1 rfl (Nat.le_of_ble_eq_true rfl) ⟨Nat.zero_le _, Nat.zero_le _⟩ dX2_readNumber_1 (fun H locs hW => ?_)
  refine lv_istore_n (lv' := [(1, .int z_6), (0, .ref o)]) hx hb dX2_readNumber_4 rfl hl (by decide) rfl (fun ls hl => ?_)
  refine lv_iload_n hx hb dX2_readNumber_5 rfl (lv_at hl 0 rfl) ?_
  refine lv_if_le (tgt := 26) hx hb dX2_readNumber_6 (by decide) (fun c_8 => ?_) (fun c_8 => ?_)
  · refine lv_iload_n hx hb dX2_readNumber_26 rfl (lv_at hl 0 rfl) ?_
    exact hQ _ _ _ _ _ _ hW dX2_readNumber_27 (by subst hz_6; subst hz_3; rw [m_X2_readNumber_r, if_pos c_8]) (by subst hz_6; subst hz_3; rw [m_X2_readNumber_z, if_pos c_8])
  · refine lv_aload_n hx hb dX2_readNumber_9 rfl (lv_at hl 1 rfl) ?_
    obtain ⟨z_9, hz_9⟩ : ∃ zq, m_X2_digitStands_r z_3 g = zq := ⟨_, rfl⟩
    have hM_10 := (c_X2_digitStands l D k o sa z_3 g  hp_z_3)
    rw [hz_9] at hM_10
    refine kVi (As := []) (rest := []) X hW hM_10 yw_X2_digitStands lk_X2_80 ⟨Nat.le_of_ble_eq_true rfl, Nat.le_of_ble_eq_true rfl⟩ (wr := []) (List.Perm.refl _) (w' := padW k o sa z_3 g) (List.Perm.refl _) (k_rcv X hW (ci := 2) (q0 := 0) rfl rfl) rfl hl.1 rfl (Nat.le_of_ble_eq_true rfl) ⟨Nat.zero_le _, Nat.zero_le _⟩ dX2_readNumber_10 (fun H locs hW => ?_)
    refine lv_if_eq (tgt := 26) hx hb dX2_readNumber_13 (by decide) (fun c_11 => ?_) (fun c_11 => ?_)
    · refine lv_iload_n hx hb dX2_readNumber_26 rfl (lv_at hl 0 rfl) ?_
      exact hQ _ _ _ _ _ _ hW dX2_readNumber_27 (by subst hz_9; subst hz_6; subst hz_3; rw [m_X2_readNumber_r, if_neg c_8, if_pos c_11]) (by subst hz_9; subst hz_6; subst hz_3; rw [m_X2_readNumber_z, if_neg c_8, if_pos c_11])
    · refine lv_bipush (v := nI 10) hx hb dX2_readNumber_16 (by decide +kernel) ?_
      refine lv_iload_n hx hb dX2_readNumber_18 rfl (lv_at hl 0 rfl) ?_
      refine lv_imul hx hb dX2_readNumber_19 ?_
      refine lv_aload_n hx hb dX2_readNumber_20 rfl (lv_at hl 1 rfl) ?_
      obtain ⟨z_12, hz_12⟩ : ∃ zq, m_X2_readDigit_z z_3 g = zq := ⟨_, rfl⟩
      have hp_z_12 : PD z_12 := by rw [← hz_12]; exact PD_X2_readDigit hp_z_3
      have hq_13 := hp_z_12.1.2
      have hq_14 := hp_z_12.2.2
      obtain ⟨z_15, hz_15⟩ : ∃ zq, m_X2_readDigit_r z_3 g = zq := ⟨_, rfl⟩
      have hM_16 := (c_X2_readDigit l D k o sa z_3 g  hp_z_3)
      rw [hz_12, hz_15] at hM_16
      refine kVi (As := []) (rest := [.int ((nI 10) * z_6)]) X hW hM_16 yw_X2_readDigit lk_X2_73 ⟨Nat.le_of_ble_eq_true rfl, Nat.le_of_ble_eq_true rfl⟩ (wr := []) (List.Perm.refl _) (w' := padW k o sa z_12 g) (List.Perm.refl _) (k_rcv X hW (ci := 2) (q0 := 0) rfl rfl) rfl hl.1 rfl (Nat.le_of_ble_eq_true rfl) ⟨Nat.zero_le _, Nat.zero_le _⟩ dX2_readNumber_21 (fun H locs hW => ?_)
      refine lv_iadd hx hb dX2_readNumber_24 ?_
      refine lv_istore_n (lv' := [(1, .int (((nI 10) * z_6) + z_15)), (0, .ref o)]) hx hb dX2_readNumber_25 rfl hl (by decide) rfl (fun ls hl => ?_)
      refine lv_iload_n hx hb dX2_readNumber_26 rfl (lv_at hl 0 rfl) ?_
      exact hQ _ _ _ _ _ _ hW dX2_readNumber_27 (by subst hz_15; subst hz_12; subst hz_9; subst hz_6; subst hz_3; rw [m_X2_readNumber_r, if_neg c_8, if_neg c_11]) (by subst hz_15; subst hz_12; subst hz_9; subst hz_6; subst hz_3; rw [m_X2_readNumber_z, if_neg c_8, if_neg c_11])
theorem PD_X2_readNumber {z : Nat → Int32} {g : Nat → Int32} (h : PD z) : PD (m_X2_readNumber_z z g) := by
  rw [m_X2_readNumber_z]
  split
  · exact (PD_X2_readDigit h)
  · split
    · exact (PD_X2_readDigit h)
    · exact (PD_X2_readDigit (PD_X2_readDigit h))
def m_X2_readBounds_z (z : Nat → Int32) (g : Nat → Int32) : Nat → Int32 := upd (m_X2_readNumber_z (m_X2_demand_z (upd (m_X2_readNumber_z (m_X2_demand_z (upd (m_X2_readDigit_z (upd z 4 (nI 113)) g) 5 (m_X2_readDigit_r (upd z 4 (nI 113)) g)) g (nI 61)) g) 6 (m_X2_readNumber_r (m_X2_demand_z (upd (m_X2_readDigit_z (upd z 4 (nI 113)) g) 5 (m_X2_readDigit_r (upd z 4 (nI 113)) g)) g (nI 61)) g)) g (nI 44)) g) 7 (m_X2_readNumber_r (m_X2_demand_z (upd (m_X2_readNumber_z (m_X2_demand_z (upd (m_X2_readDigit_z (upd z 4 (nI 113)) g) 5 (m_X2_readDigit_r (upd z 4 (nI 113)) g)) g (nI 61)) g) 6 (m_X2_readNumber_r (m_X2_demand_z (upd (m_X2_readDigit_z (upd z 4 (nI 113)) g) 5 (m_X2_readDigit_r (upd z 4 (nI 113)) g)) g (nI 61)) g)) g (nI 44)) g)
set_option maxHeartbeats 4000000 in
set_option maxRecDepth 100000 in
theorem c_X2_readBounds (l : Launch) (D : va_G) (k : Nat → ClassId) (o sa : Nat) (z : Nat → Int32) (g : Nat → Int32)  (hp : PD z)  : mV l yX2_readBounds (wsY yX2_readBounds cX2_readBounds 1 none) 3 D k [.ref o] (padW k o sa z g) (padW k o sa (m_X2_readBounds_z z g) g) := by
  refine mV_intro rfl (Nat.le_of_ble_eq_true rfl) ?_
  intro p e s m args below meth c A Q ls X hW hl hQ
  have hx := X.hx
  have hb := X.hb
  have hl : lv_has ls 1 [(0, .ref o)] := hl
  have hq_1 := hp.1.2
  have hq_2 := hp.2.2
  refine lv_aload_n hx hb dX2_readBounds_0 rfl (lv_at hl 0 rfl) ?_
  refine lv_bipush (v := nI 113) hx hb dX2_readBounds_1 (by decide +kernel) ?_
  refine k_put X hW inG2 rfl tyX2_ok nmX2 4 (by decide) fl_X2_26 rfl rfl 0 rfl rfl rfl (Nat.le_of_ble_eq_true rfl) dX2_readBounds_3 (w' := padW k o sa (upd z 4 (nI 113)) g) rfl (fun H locs hW => ?_)
  refine lv_aload_n hx hb dX2_readBounds_6 rfl (lv_at hl 0 rfl) ?_
  refine lv_aload_n hx hb dX2_readBounds_7 rfl (lv_at hl 0 rfl) ?_
  obtain ⟨z_3, hz_3⟩ : ∃ zq, m_X2_readDigit_z (upd z 4 (nI 113)) g = zq := ⟨_, rfl⟩
  have hp_z_3 : PD z_3 := by rw [← hz_3]; exact PD_X2_readDigit (PD_u hp (by decide) (by decide))
  have hq_4 := hp_z_3.1.2
  have hq_5 := hp_z_3.2.2
  obtain ⟨z_6, hz_6⟩ : ∃ zq, m_X2_readDigit_r (upd z 4 (nI 113)) g = zq := ⟨_, rfl⟩
  have hM_7 := (c_X2_readDigit l D k o sa (upd z 4 (nI 113)) g  (PD_u hp (by decide) (by decide)))
  rw [hz_3, hz_6] at hM_7
  refine kVi (As := []) (rest := [.ref o]) X hW hM_7 yw_X2_readDigit lk_X2_73 ⟨Nat.le_of_ble_eq_true rfl, Nat.le_of_ble_eq_true rfl⟩ (wr := []) (List.Perm.refl _) (w' := padW k o sa z_3 g) (List.Perm.refl _) (k_rcv X hW (ci := 2) (q0 := 0) rfl rfl) rfl hl.1 rfl (Nat.le_of_ble_eq_true rfl) ⟨Nat.zero_le _, Nat.zero_le _⟩ dX2_readBounds_8 (fun H locs hW => ?_)
  refine k_put X hW inG2 rfl tyX2_ok nmX2 5 (by decide) fl_X2_30 rfl rfl 0 rfl rfl rfl (Nat.le_of_ble_eq_true rfl) dX2_readBounds_11 (w' := padW k o sa (upd z_3 5 z_6) g) rfl (fun H locs hW => ?_)
  refine lv_aload_n hx hb dX2_readBounds_14 rfl (lv_at hl 0 rfl) ?_
  refine lv_bipush (v := nI 61) hx hb dX2_readBounds_15 (by decide +kernel) ?_
  obtain ⟨z_8, hz_8⟩ : ∃ zq, m_X2_demand_z (upd z_3 5 z_6) g (nI 61) = zq := ⟨_, rfl⟩
  have hp_z_8 : PD z_8 := by rw [← hz_8]; exact PD_X2_demand (PD_u hp_z_3 (by decide) (by decide))
  have hq_9 := hp_z_8.1.2
  have hq_10 := hp_z_8.2.2
  have hM_11 := (c_X2_demand l D k o sa (upd z_3 5 z_6) g (nI 61) (PD_u hp_z_3 (by decide) (by decide)))
  rw [hz_8] at hM_11
  refine kVv (As := [.int (nI 61)]) (rest := []) X hW hM_11 yw_X2_demand lk_X2_76 ⟨Nat.le_of_ble_eq_true rfl, Nat.le_of_ble_eq_true rfl⟩ (wr := []) (List.Perm.refl _) (w' := padW k o sa z_8 g) (List.Perm.refl _) (k_rcv X hW (ci := 2) (q0 := 0) rfl rfl) rfl hl.1 rfl (Nat.le_of_ble_eq_true rfl) ⟨Nat.zero_le _, Nat.zero_le _⟩ dX2_readBounds_17 (fun H locs hW => ?_)
  refine lv_aload_n hx hb dX2_readBounds_20 rfl (lv_at hl 0 rfl) ?_
  refine lv_aload_n hx hb dX2_readBounds_21 rfl (lv_at hl 0 rfl) ?_
  obtain ⟨z_12, hz_12⟩ : ∃ zq, m_X2_readNumber_z z_8 g = zq := ⟨_, rfl⟩
  have hp_z_12 : PD z_12 := by rw [← hz_12]; exact PD_X2_readNumber hp_z_8
  have hq_13 := hp_z_12.1.2
  have hq_14 := hp_z_12.2.2
  obtain ⟨z_15, hz_15⟩ : ∃ zq, m_X2_readNumber_r z_8 g = zq := ⟨_, rfl⟩
  have hM_16 := (c_X2_readNumber l D k o sa z_8 g  hp_z_8)
  rw [hz_12, hz_15] at hM_16
  refine kVi (As := []) (rest := [.ref o]) X hW hM_16 yw_X2_readNumber lk_X2_66 ⟨Nat.le_of_ble_eq_true rfl, Nat.le_of_ble_eq_true rfl⟩ (wr := []) (List.Perm.refl _) (w' := padW k o sa z_12 g) (List.Perm.refl _) (k_rcv X hW (ci := 2) (q0 := 0) rfl rfl) rfl hl.1 rfl (Nat.le_of_ble_eq_true rfl) ⟨Nat.zero_le _, Nat.zero_le _⟩ dX2_readBounds_22 (fun H locs hW => ?_)
  refine k_put X hW inG2 rfl tyX2_ok nmX2 6 (by decide) fl_X2_33 rfl rfl 0 rfl rfl rfl (Nat.le_of_ble_eq_true rfl) dX2_readBounds_25 (w' := padW k o sa (upd z_12 6 z_15) g) rfl (fun H locs hW => ?_)
  refine lv_aload_n hx hb dX2_readBounds_28 rfl (lv_at hl 0 rfl) ?_
  refine lv_bipush (v := nI 44) hx hb dX2_readBounds_29 (by decide +kernel) ?_
  obtain ⟨z_17, hz_17⟩ : ∃ zq, m_X2_demand_z (upd z_12 6 z_15) g (nI 44) = zq := ⟨_, rfl⟩
  have hp_z_17 : PD z_17 := by rw [← hz_17]; exact PD_X2_demand (PD_u hp_z_12 (by decide) (by decide))
  have hq_18 := hp_z_17.1.2
  have hq_19 := hp_z_17.2.2
  have hM_20 := (c_X2_demand l D k o sa (upd z_12 6 z_15) g (nI 44) (PD_u hp_z_12 (by decide) (by decide)))
  rw [hz_17] at hM_20
  refine kVv (As := [.int (nI 44)]) (rest := []) X hW hM_20 yw_X2_demand lk_X2_76 ⟨Nat.le_of_ble_eq_true rfl, Nat.le_of_ble_eq_true rfl⟩ (wr := []) (List.Perm.refl _) (w' := padW k o sa z_17 g) (List.Perm.refl _) (k_rcv X hW (ci := 2) (q0 := 0) rfl rfl) rfl hl.1 rfl (Nat.le_of_ble_eq_true rfl) ⟨Nat.zero_le _, Nat.zero_le _⟩ dX2_readBounds_31 (fun H locs hW => ?_)
  refine lv_aload_n hx hb dX2_readBounds_34 rfl (lv_at hl 0 rfl) ?_
  refine lv_aload_n hx hb dX2_readBounds_35 rfl (lv_at hl 0 rfl) ?_
  obtain ⟨z_21, hz_21⟩ : ∃ zq, m_X2_readNumber_z z_17 g = zq := ⟨_, rfl⟩
  have hp_z_21 : PD z_21 := by rw [← hz_21]; exact PD_X2_readNumber hp_z_17
  have hq_22 := hp_z_21.1.2
  have hq_23 := hp_z_21.2.2
  obtain ⟨z_24, hz_24⟩ : ∃ zq, m_X2_readNumber_r z_17 g = zq := ⟨_, rfl⟩
  have hM_25 := (c_X2_readNumber l D k o sa z_17 g  hp_z_17)
  rw [hz_21, hz_24] at hM_25
  refine kVi (As := []) (rest := [.ref o]) X hW hM_25 yw_X2_readNumber lk_X2_66 ⟨Nat.le_of_ble_eq_true rfl, Nat.le_of_ble_eq_true rfl⟩ (wr := []) (List.Perm.refl _) (w' := padW k o sa z_21 g) (List.Perm.refl _) (k_rcv X hW (ci := 2) (q0 := 0) rfl rfl) rfl hl.1 rfl (Nat.le_of_ble_eq_true rfl) ⟨Nat.zero_le _, Nat.zero_le _⟩ dX2_readBounds_36 (fun H locs hW => ?_)
  refine k_put X hW inG2 rfl tyX2_ok nmX2 7 (by decide) fl_X2_36 rfl rfl 0 rfl rfl rfl (Nat.le_of_ble_eq_true rfl) dX2_readBounds_39 (w' := padW k o sa (upd z_21 7 z_24) g) rfl (fun H locs hW => ?_)
  exact hQ _ _ _ _ _ hW dX2_readBounds_42 (by subst hz_24; subst hz_21; subst hz_17; subst hz_15; subst hz_12; subst hz_8; subst hz_6; subst hz_3; rw [m_X2_readBounds_z])
theorem PD_X2_readBounds {z : Nat → Int32} {g : Nat → Int32} (h : PD z) : PD (m_X2_readBounds_z z g) := by
  rw [m_X2_readBounds_z]
  exact (PD_u (PD_X2_readNumber (PD_X2_demand (PD_u (PD_X2_readNumber (PD_X2_demand (PD_u (PD_X2_readDigit (PD_u h (by decide) (by decide))) (by decide) (by decide)))) (by decide) (by decide)))) (by decide) (by decide))
def m_X2_readFrames_z (z : Nat → Int32) (g : Nat → Int32) : Nat → Int32 := if (m_X2_readSign_r (upd (m_X2_readNumber_z (upd z 4 (nI 102)) g) 5 (m_X2_readNumber_r (upd z 4 (nI 102)) g)) g (nI 42)) = 0 then (m_X2_readSign_z (upd (m_X2_readNumber_z (upd z 4 (nI 102)) g) 5 (m_X2_readNumber_r (upd z 4 (nI 102)) g)) g (nI 42)) else upd (m_X2_readNumber_z (m_X2_readSign_z (upd (m_X2_readNumber_z (upd z 4 (nI 102)) g) 5 (m_X2_readNumber_r (upd z 4 (nI 102)) g)) g (nI 42)) g) 8 (m_X2_readNumber_r (m_X2_readSign_z (upd (m_X2_readNumber_z (upd z 4 (nI 102)) g) 5 (m_X2_readNumber_r (upd z 4 (nI 102)) g)) g (nI 42)) g)
set_option maxHeartbeats 4000000 in
set_option maxRecDepth 100000 in
theorem c_X2_readFrames (l : Launch) (D : va_G) (k : Nat → ClassId) (o sa : Nat) (z : Nat → Int32) (g : Nat → Int32)  (hp : PD z)  : mV l yX2_readFrames (wsY yX2_readFrames cX2_readFrames 1 none) 3 D k [.ref o] (padW k o sa z g) (padW k o sa (m_X2_readFrames_z z g) g) := by
  refine mV_intro rfl (Nat.le_of_ble_eq_true rfl) ?_
  intro p e s m args below meth c A Q ls X hW hl hQ
  have hx := X.hx
  have hb := X.hb
  have hl : lv_has ls 1 [(0, .ref o)] := hl
  have hq_1 := hp.1.2
  have hq_2 := hp.2.2
  refine lv_aload_n hx hb dX2_readFrames_0 rfl (lv_at hl 0 rfl) ?_
  refine lv_bipush (v := nI 102) hx hb dX2_readFrames_1 (by decide +kernel) ?_
  refine k_put X hW inG2 rfl tyX2_ok nmX2 4 (by decide) fl_X2_26 rfl rfl 0 rfl rfl rfl (Nat.le_of_ble_eq_true rfl) dX2_readFrames_3 (w' := padW k o sa (upd z 4 (nI 102)) g) rfl (fun H locs hW => ?_)
  refine lv_aload_n hx hb dX2_readFrames_6 rfl (lv_at hl 0 rfl) ?_
  refine lv_aload_n hx hb dX2_readFrames_7 rfl (lv_at hl 0 rfl) ?_
  obtain ⟨z_3, hz_3⟩ : ∃ zq, m_X2_readNumber_z (upd z 4 (nI 102)) g = zq := ⟨_, rfl⟩
  have hp_z_3 : PD z_3 := by rw [← hz_3]; exact PD_X2_readNumber (PD_u hp (by decide) (by decide))
  have hq_4 := hp_z_3.1.2
  have hq_5 := hp_z_3.2.2
  obtain ⟨z_6, hz_6⟩ : ∃ zq, m_X2_readNumber_r (upd z 4 (nI 102)) g = zq := ⟨_, rfl⟩
  have hM_7 := (c_X2_readNumber l D k o sa (upd z 4 (nI 102)) g  (PD_u hp (by decide) (by decide)))
  rw [hz_3, hz_6] at hM_7
  refine kVi (As := []) (rest := [.ref o]) X hW hM_7 yw_X2_readNumber lk_X2_66 ⟨Nat.le_of_ble_eq_true rfl, Nat.le_of_ble_eq_true rfl⟩ (wr := []) (List.Perm.refl _) (w' := padW k o sa z_3 g) (List.Perm.refl _) (k_rcv X hW (ci := 2) (q0 := 0) rfl rfl) rfl hl.1 rfl (Nat.le_of_ble_eq_true rfl) ⟨Nat.zero_le _, Nat.zero_le _⟩ dX2_readFrames_8 (fun H locs hW => ?_)
  refine k_put X hW inG2 rfl tyX2_ok nmX2 5 (by decide) fl_X2_30 rfl rfl 0 rfl rfl rfl (Nat.le_of_ble_eq_true rfl) dX2_readFrames_11 (w' := padW k o sa (upd z_3 5 z_6) g) rfl (fun H locs hW => ?_)
  refine lv_aload_n hx hb dX2_readFrames_14 rfl (lv_at hl 0 rfl) ?_
  refine lv_bipush (v := nI 42) hx hb dX2_readFrames_15 (by decide +kernel) ?_
  obtain ⟨z_8, hz_8⟩ : ∃ zq, m_X2_readSign_z (upd z_3 5 z_6) g (nI 42) = zq := ⟨_, rfl⟩
  have hp_z_8 : PD z_8 := by rw [← hz_8]; exact PD_X2_readSign (PD_u hp_z_3 (by decide) (by decide))
  have hq_9 := hp_z_8.1.2
  have hq_10 := hp_z_8.2.2
  obtain ⟨z_11, hz_11⟩ : ∃ zq, m_X2_readSign_r (upd z_3 5 z_6) g (nI 42) = zq := ⟨_, rfl⟩
  have hM_12 := (c_X2_readSign l D k o sa (upd z_3 5 z_6) g (nI 42) (PD_u hp_z_3 (by decide) (by decide)))
  rw [hz_8, hz_11] at hM_12
  refine kVi (As := [.int (nI 42)]) (rest := []) X hW hM_12 yw_X2_readSign lk_X2_59 ⟨Nat.le_of_ble_eq_true rfl, Nat.le_of_ble_eq_true rfl⟩ (wr := []) (List.Perm.refl _) (w' := padW k o sa z_8 g) (List.Perm.refl _) (k_rcv X hW (ci := 2) (q0 := 0) rfl rfl) rfl hl.1 rfl (Nat.le_of_ble_eq_true rfl) ⟨Nat.zero_le _, Nat.zero_le _⟩ dX2_readFrames_17 (fun H locs hW => ?_)
  refine lv_if_eq (tgt := 31) hx hb dX2_readFrames_20 (by decide) (fun c_13 => ?_) (fun c_13 => ?_)
  · exact hQ _ _ _ _ _ hW dX2_readFrames_31 (by subst hz_11; subst hz_8; subst hz_6; subst hz_3; rw [m_X2_readFrames_z, if_pos c_13])
  · refine lv_aload_n hx hb dX2_readFrames_23 rfl (lv_at hl 0 rfl) ?_
    refine lv_aload_n hx hb dX2_readFrames_24 rfl (lv_at hl 0 rfl) ?_
    obtain ⟨z_14, hz_14⟩ : ∃ zq, m_X2_readNumber_z z_8 g = zq := ⟨_, rfl⟩
    have hp_z_14 : PD z_14 := by rw [← hz_14]; exact PD_X2_readNumber hp_z_8
    have hq_15 := hp_z_14.1.2
    have hq_16 := hp_z_14.2.2
    obtain ⟨z_17, hz_17⟩ : ∃ zq, m_X2_readNumber_r z_8 g = zq := ⟨_, rfl⟩
    have hM_18 := (c_X2_readNumber l D k o sa z_8 g  hp_z_8)
    rw [hz_14, hz_17] at hM_18
    refine kVi (As := []) (rest := [.ref o]) X hW hM_18 yw_X2_readNumber lk_X2_66 ⟨Nat.le_of_ble_eq_true rfl, Nat.le_of_ble_eq_true rfl⟩ (wr := []) (List.Perm.refl _) (w' := padW k o sa z_14 g) (List.Perm.refl _) (k_rcv X hW (ci := 2) (q0 := 0) rfl rfl) rfl hl.1 rfl (Nat.le_of_ble_eq_true rfl) ⟨Nat.zero_le _, Nat.zero_le _⟩ dX2_readFrames_25 (fun H locs hW => ?_)
    refine k_put X hW inG2 rfl tyX2_ok nmX2 8 (by decide) fl_X2_39 rfl rfl 0 rfl rfl rfl (Nat.le_of_ble_eq_true rfl) dX2_readFrames_28 (w' := padW k o sa (upd z_14 8 z_17) g) rfl (fun H locs hW => ?_)
    exact hQ _ _ _ _ _ hW dX2_readFrames_31 (by subst hz_17; subst hz_14; subst hz_11; subst hz_8; subst hz_6; subst hz_3; rw [m_X2_readFrames_z, if_neg c_13])
theorem PD_X2_readFrames {z : Nat → Int32} {g : Nat → Int32} (h : PD z) : PD (m_X2_readFrames_z z g) := by
  rw [m_X2_readFrames_z]
  split
  · exact (PD_X2_readSign (PD_u (PD_X2_readNumber (PD_u h (by decide) (by decide))) (by decide) (by decide)))
  · exact (PD_u (PD_X2_readNumber (PD_X2_readSign (PD_u (PD_X2_readNumber (PD_u h (by decide) (by decide))) (by decide) (by decide)))) (by decide) (by decide))
def m_X2_readOrder_r (z : Nat → Int32) (g : Nat → Int32) : Int32 := if tn (z 2) ≤ 0 then (if (m_X2_readSign_r (upd z 8 (nI 1)) g (nI 102)) = 0 then (if (m_X2_readSign_r (m_X2_readSign_z (upd z 8 (nI 1)) g (nI 102)) g (nI 116)) = 0 then (if (m_X2_readSign_r (m_X2_readSign_z (m_X2_readSign_z (upd z 8 (nI 1)) g (nI 102)) g (nI 116)) g (nI 113)) = 0 then (if (m_X2_readSign_r (m_X2_readSign_z (m_X2_readSign_z (m_X2_readSign_z (upd z 8 (nI 1)) g (nI 102)) g (nI 116)) g (nI 113)) g (nI 109)) = 0 then nI 0 else if (m_X2_readDigit_z (upd (m_X2_readSign_z (m_X2_readSign_z (m_X2_readSign_z (m_X2_readSign_z (upd z 8 (nI 1)) g (nI 102)) g (nI 116)) g (nI 113)) g (nI 109)) 4 (nI 109)) g) 3 = 0 then nI 1 else nI 0) else if (m_X2_readBounds_z (m_X2_readSign_z (m_X2_readSign_z (m_X2_readSign_z (upd z 8 (nI 1)) g (nI 102)) g (nI 116)) g (nI 113)) g) 3 = 0 then nI 1 else nI 0) else if (m_X2_readNumber_z (upd (m_X2_readSign_z (m_X2_readSign_z (upd z 8 (nI 1)) g (nI 102)) g (nI 116)) 4 (nI 116)) g) 3 = 0 then nI 1 else nI 0) else if (m_X2_readFrames_z (m_X2_readSign_z (upd z 8 (nI 1)) g (nI 102)) g) 3 = 0 then nI 1 else nI 0) else if (m_X2_readSign_r z g (nI 59)) = 0 then nI 0 else if (m_X2_readSign_r (upd (m_X2_readSign_z z g (nI 59)) 8 (nI 1)) g (nI 102)) = 0 then (if (m_X2_readSign_r (m_X2_readSign_z (upd (m_X2_readSign_z z g (nI 59)) 8 (nI 1)) g (nI 102)) g (nI 116)) = 0 then (if (m_X2_readSign_r (m_X2_readSign_z (m_X2_readSign_z (upd (m_X2_readSign_z z g (nI 59)) 8 (nI 1)) g (nI 102)) g (nI 116)) g (nI 113)) = 0 then (if (m_X2_readSign_r (m_X2_readSign_z (m_X2_readSign_z (m_X2_readSign_z (upd (m_X2_readSign_z z g (nI 59)) 8 (nI 1)) g (nI 102)) g (nI 116)) g (nI 113)) g (nI 109)) = 0 then nI 0 else if (m_X2_readDigit_z (upd (m_X2_readSign_z (m_X2_readSign_z (m_X2_readSign_z (m_X2_readSign_z (upd (m_X2_readSign_z z g (nI 59)) 8 (nI 1)) g (nI 102)) g (nI 116)) g (nI 113)) g (nI 109)) 4 (nI 109)) g) 3 = 0 then nI 1 else nI 0) else if (m_X2_readBounds_z (m_X2_readSign_z (m_X2_readSign_z (m_X2_readSign_z (upd (m_X2_readSign_z z g (nI 59)) 8 (nI 1)) g (nI 102)) g (nI 116)) g (nI 113)) g) 3 = 0 then nI 1 else nI 0) else if (m_X2_readNumber_z (upd (m_X2_readSign_z (m_X2_readSign_z (upd (m_X2_readSign_z z g (nI 59)) 8 (nI 1)) g (nI 102)) g (nI 116)) 4 (nI 116)) g) 3 = 0 then nI 1 else nI 0) else if (m_X2_readFrames_z (m_X2_readSign_z (upd (m_X2_readSign_z z g (nI 59)) 8 (nI 1)) g (nI 102)) g) 3 = 0 then nI 1 else nI 0
def m_X2_readOrder_z (z : Nat → Int32) (g : Nat → Int32) : Nat → Int32 := if tn (z 2) ≤ 0 then (if (m_X2_readSign_r (upd z 8 (nI 1)) g (nI 102)) = 0 then (if (m_X2_readSign_r (m_X2_readSign_z (upd z 8 (nI 1)) g (nI 102)) g (nI 116)) = 0 then (if (m_X2_readSign_r (m_X2_readSign_z (m_X2_readSign_z (upd z 8 (nI 1)) g (nI 102)) g (nI 116)) g (nI 113)) = 0 then (if (m_X2_readSign_r (m_X2_readSign_z (m_X2_readSign_z (m_X2_readSign_z (upd z 8 (nI 1)) g (nI 102)) g (nI 116)) g (nI 113)) g (nI 109)) = 0 then upd (m_X2_readSign_z (m_X2_readSign_z (m_X2_readSign_z (m_X2_readSign_z (upd z 8 (nI 1)) g (nI 102)) g (nI 116)) g (nI 113)) g (nI 109)) 3 (nI 1) else if (m_X2_readDigit_z (upd (m_X2_readSign_z (m_X2_readSign_z (m_X2_readSign_z (m_X2_readSign_z (upd z 8 (nI 1)) g (nI 102)) g (nI 116)) g (nI 113)) g (nI 109)) 4 (nI 109)) g) 3 = 0 then upd (m_X2_readDigit_z (upd (m_X2_readSign_z (m_X2_readSign_z (m_X2_readSign_z (m_X2_readSign_z (upd z 8 (nI 1)) g (nI 102)) g (nI 116)) g (nI 113)) g (nI 109)) 4 (nI 109)) g) 5 (m_X2_readDigit_r (upd (m_X2_readSign_z (m_X2_readSign_z (m_X2_readSign_z (m_X2_readSign_z (upd z 8 (nI 1)) g (nI 102)) g (nI 116)) g (nI 113)) g (nI 109)) 4 (nI 109)) g) else upd (m_X2_readDigit_z (upd (m_X2_readSign_z (m_X2_readSign_z (m_X2_readSign_z (m_X2_readSign_z (upd z 8 (nI 1)) g (nI 102)) g (nI 116)) g (nI 113)) g (nI 109)) 4 (nI 109)) g) 5 (m_X2_readDigit_r (upd (m_X2_readSign_z (m_X2_readSign_z (m_X2_readSign_z (m_X2_readSign_z (upd z 8 (nI 1)) g (nI 102)) g (nI 116)) g (nI 113)) g (nI 109)) 4 (nI 109)) g)) else if (m_X2_readBounds_z (m_X2_readSign_z (m_X2_readSign_z (m_X2_readSign_z (upd z 8 (nI 1)) g (nI 102)) g (nI 116)) g (nI 113)) g) 3 = 0 then (m_X2_readBounds_z (m_X2_readSign_z (m_X2_readSign_z (m_X2_readSign_z (upd z 8 (nI 1)) g (nI 102)) g (nI 116)) g (nI 113)) g) else (m_X2_readBounds_z (m_X2_readSign_z (m_X2_readSign_z (m_X2_readSign_z (upd z 8 (nI 1)) g (nI 102)) g (nI 116)) g (nI 113)) g)) else if (m_X2_readNumber_z (upd (m_X2_readSign_z (m_X2_readSign_z (upd z 8 (nI 1)) g (nI 102)) g (nI 116)) 4 (nI 116)) g) 3 = 0 then upd (m_X2_readNumber_z (upd (m_X2_readSign_z (m_X2_readSign_z (upd z 8 (nI 1)) g (nI 102)) g (nI 116)) 4 (nI 116)) g) 5 (m_X2_readNumber_r (upd (m_X2_readSign_z (m_X2_readSign_z (upd z 8 (nI 1)) g (nI 102)) g (nI 116)) 4 (nI 116)) g) else upd (m_X2_readNumber_z (upd (m_X2_readSign_z (m_X2_readSign_z (upd z 8 (nI 1)) g (nI 102)) g (nI 116)) 4 (nI 116)) g) 5 (m_X2_readNumber_r (upd (m_X2_readSign_z (m_X2_readSign_z (upd z 8 (nI 1)) g (nI 102)) g (nI 116)) 4 (nI 116)) g)) else if (m_X2_readFrames_z (m_X2_readSign_z (upd z 8 (nI 1)) g (nI 102)) g) 3 = 0 then (m_X2_readFrames_z (m_X2_readSign_z (upd z 8 (nI 1)) g (nI 102)) g) else (m_X2_readFrames_z (m_X2_readSign_z (upd z 8 (nI 1)) g (nI 102)) g)) else if (m_X2_readSign_r z g (nI 59)) = 0 then (m_X2_readSign_z z g (nI 59)) else if (m_X2_readSign_r (upd (m_X2_readSign_z z g (nI 59)) 8 (nI 1)) g (nI 102)) = 0 then (if (m_X2_readSign_r (m_X2_readSign_z (upd (m_X2_readSign_z z g (nI 59)) 8 (nI 1)) g (nI 102)) g (nI 116)) = 0 then (if (m_X2_readSign_r (m_X2_readSign_z (m_X2_readSign_z (upd (m_X2_readSign_z z g (nI 59)) 8 (nI 1)) g (nI 102)) g (nI 116)) g (nI 113)) = 0 then (if (m_X2_readSign_r (m_X2_readSign_z (m_X2_readSign_z (m_X2_readSign_z (upd (m_X2_readSign_z z g (nI 59)) 8 (nI 1)) g (nI 102)) g (nI 116)) g (nI 113)) g (nI 109)) = 0 then upd (m_X2_readSign_z (m_X2_readSign_z (m_X2_readSign_z (m_X2_readSign_z (upd (m_X2_readSign_z z g (nI 59)) 8 (nI 1)) g (nI 102)) g (nI 116)) g (nI 113)) g (nI 109)) 3 (nI 1) else if (m_X2_readDigit_z (upd (m_X2_readSign_z (m_X2_readSign_z (m_X2_readSign_z (m_X2_readSign_z (upd (m_X2_readSign_z z g (nI 59)) 8 (nI 1)) g (nI 102)) g (nI 116)) g (nI 113)) g (nI 109)) 4 (nI 109)) g) 3 = 0 then upd (m_X2_readDigit_z (upd (m_X2_readSign_z (m_X2_readSign_z (m_X2_readSign_z (m_X2_readSign_z (upd (m_X2_readSign_z z g (nI 59)) 8 (nI 1)) g (nI 102)) g (nI 116)) g (nI 113)) g (nI 109)) 4 (nI 109)) g) 5 (m_X2_readDigit_r (upd (m_X2_readSign_z (m_X2_readSign_z (m_X2_readSign_z (m_X2_readSign_z (upd (m_X2_readSign_z z g (nI 59)) 8 (nI 1)) g (nI 102)) g (nI 116)) g (nI 113)) g (nI 109)) 4 (nI 109)) g) else upd (m_X2_readDigit_z (upd (m_X2_readSign_z (m_X2_readSign_z (m_X2_readSign_z (m_X2_readSign_z (upd (m_X2_readSign_z z g (nI 59)) 8 (nI 1)) g (nI 102)) g (nI 116)) g (nI 113)) g (nI 109)) 4 (nI 109)) g) 5 (m_X2_readDigit_r (upd (m_X2_readSign_z (m_X2_readSign_z (m_X2_readSign_z (m_X2_readSign_z (upd (m_X2_readSign_z z g (nI 59)) 8 (nI 1)) g (nI 102)) g (nI 116)) g (nI 113)) g (nI 109)) 4 (nI 109)) g)) else if (m_X2_readBounds_z (m_X2_readSign_z (m_X2_readSign_z (m_X2_readSign_z (upd (m_X2_readSign_z z g (nI 59)) 8 (nI 1)) g (nI 102)) g (nI 116)) g (nI 113)) g) 3 = 0 then (m_X2_readBounds_z (m_X2_readSign_z (m_X2_readSign_z (m_X2_readSign_z (upd (m_X2_readSign_z z g (nI 59)) 8 (nI 1)) g (nI 102)) g (nI 116)) g (nI 113)) g) else (m_X2_readBounds_z (m_X2_readSign_z (m_X2_readSign_z (m_X2_readSign_z (upd (m_X2_readSign_z z g (nI 59)) 8 (nI 1)) g (nI 102)) g (nI 116)) g (nI 113)) g)) else if (m_X2_readNumber_z (upd (m_X2_readSign_z (m_X2_readSign_z (upd (m_X2_readSign_z z g (nI 59)) 8 (nI 1)) g (nI 102)) g (nI 116)) 4 (nI 116)) g) 3 = 0 then upd (m_X2_readNumber_z (upd (m_X2_readSign_z (m_X2_readSign_z (upd (m_X2_readSign_z z g (nI 59)) 8 (nI 1)) g (nI 102)) g (nI 116)) 4 (nI 116)) g) 5 (m_X2_readNumber_r (upd (m_X2_readSign_z (m_X2_readSign_z (upd (m_X2_readSign_z z g (nI 59)) 8 (nI 1)) g (nI 102)) g (nI 116)) 4 (nI 116)) g) else upd (m_X2_readNumber_z (upd (m_X2_readSign_z (m_X2_readSign_z (upd (m_X2_readSign_z z g (nI 59)) 8 (nI 1)) g (nI 102)) g (nI 116)) 4 (nI 116)) g) 5 (m_X2_readNumber_r (upd (m_X2_readSign_z (m_X2_readSign_z (upd (m_X2_readSign_z z g (nI 59)) 8 (nI 1)) g (nI 102)) g (nI 116)) 4 (nI 116)) g)) else if (m_X2_readFrames_z (m_X2_readSign_z (upd (m_X2_readSign_z z g (nI 59)) 8 (nI 1)) g (nI 102)) g) 3 = 0 then (m_X2_readFrames_z (m_X2_readSign_z (upd (m_X2_readSign_z z g (nI 59)) 8 (nI 1)) g (nI 102)) g) else (m_X2_readFrames_z (m_X2_readSign_z (upd (m_X2_readSign_z z g (nI 59)) 8 (nI 1)) g (nI 102)) g)
set_option maxHeartbeats 4000000 in
set_option maxRecDepth 100000 in
theorem c_X2_readOrder (l : Launch) (D : va_G) (k : Nat → ClassId) (o sa : Nat) (z : Nat → Int32) (g : Nat → Int32)  (hp : PD z)  : mI l yX2_readOrder (wsY yX2_readOrder cX2_readOrder 1 (some .boolean)) 4 D k [.ref o] (padW k o sa z g) (padW k o sa (m_X2_readOrder_z z g) g) (m_X2_readOrder_r z g) := by
  refine mI_intro rfl (Nat.le_of_ble_eq_true rfl) (Or.inr ⟨rfl, by rw [m_X2_readOrder_r]; exact (nb_ite (nb_ite (nb_ite (nb_ite (nb_ite rfl (nb_ite rfl rfl)) (nb_ite rfl rfl)) (nb_ite rfl rfl)) (nb_ite rfl rfl)) (nb_ite rfl (nb_ite (nb_ite (nb_ite (nb_ite rfl (nb_ite rfl rfl)) (nb_ite rfl rfl)) (nb_ite rfl rfl)) (nb_ite rfl rfl))))⟩) ?_
  intro p e s m args below meth c A Q ls X hW hl hQ
  have hx := X.hx
  have hb := X.hb
  have hl : lv_has ls 1 [(0, .ref o)] := hl
  have hq_1 := hp.1.2
  have hq_2 := hp.2.2
  refine lv_aload_n hx hb dX2_readOrder_0 rfl (lv_at hl 0 rfl) ?_
  refine k_get X hW inG2 rfl 2 (by decide) fl_X2_19 rfl 0 rfl (v := .int (z 2)) rfl dX2_readOrder_1 ?_
  refine k_top (y := nI (tn (z 2))) (hp.2.1) ?_
  refine lv_if_le (tgt := 18) hx hb dX2_readOrder_4 (by decide) (fun c_3 => ?_) (fun c_3 => ?_)
  · have c_3 : tn (z 2) ≤ 0 := (nI_leI (a := tn (z 2)) (b := 0) (by omega) (by omega)).mp c_3
    refine lv_aload_n hx hb dX2_readOrder_18 rfl (lv_at hl 0 rfl) ?_
    refine lv_iconst (v := nI 1) hx hb dX2_readOrder_19 (by decide +kernel) ?_
    refine k_put X hW inG2 rfl tyX2_ok nmX2 8 (by decide) fl_X2_39 rfl rfl 0 rfl rfl rfl (Nat.le_of_ble_eq_true rfl) dX2_readOrder_20 (w' := padW k o sa (upd z 8 (nI 1)) g) rfl (fun H locs hW => ?_)
    refine lv_aload_n hx hb dX2_readOrder_23 rfl (lv_at hl 0 rfl) ?_
    refine lv_bipush (v := nI 102) hx hb dX2_readOrder_24 (by decide +kernel) ?_
    obtain ⟨z_4, hz_4⟩ : ∃ zq, m_X2_readSign_z (upd z 8 (nI 1)) g (nI 102) = zq := ⟨_, rfl⟩
    have hp_z_4 : PD z_4 := by rw [← hz_4]; exact PD_X2_readSign (PD_u hp (by decide) (by decide))
    have hq_5 := hp_z_4.1.2
    have hq_6 := hp_z_4.2.2
    obtain ⟨z_7, hz_7⟩ : ∃ zq, m_X2_readSign_r (upd z 8 (nI 1)) g (nI 102) = zq := ⟨_, rfl⟩
    have hM_8 := (c_X2_readSign l D k o sa (upd z 8 (nI 1)) g (nI 102) (PD_u hp (by decide) (by decide)))
    rw [hz_4, hz_7] at hM_8
    refine kVi (As := [.int (nI 102)]) (rest := []) X hW hM_8 yw_X2_readSign lk_X2_59 ⟨Nat.le_of_ble_eq_true rfl, Nat.le_of_ble_eq_true rfl⟩ (wr := []) (List.Perm.refl _) (w' := padW k o sa z_4 g) (List.Perm.refl _) (k_rcv X hW (ci := 2) (q0 := 0) rfl rfl) rfl hl.1 rfl (Nat.le_of_ble_eq_true rfl) ⟨Nat.zero_le _, Nat.zero_le _⟩ dX2_readOrder_26 (fun H locs hW => ?_)
    refine lv_if_eq (tgt := 39) hx hb dX2_readOrder_29 (by decide) (fun c_9 => ?_) (fun c_9 => ?_)
    · refine lv_aload_n hx hb dX2_readOrder_39 rfl (lv_at hl 0 rfl) ?_
      refine lv_bipush (v := nI 116) hx hb dX2_readOrder_40 (by decide +kernel) ?_
      obtain ⟨z_10, hz_10⟩ : ∃ zq, m_X2_readSign_z z_4 g (nI 116) = zq := ⟨_, rfl⟩
      have hp_z_10 : PD z_10 := by rw [← hz_10]; exact PD_X2_readSign hp_z_4
      have hq_11 := hp_z_10.1.2
      have hq_12 := hp_z_10.2.2
      obtain ⟨z_13, hz_13⟩ : ∃ zq, m_X2_readSign_r z_4 g (nI 116) = zq := ⟨_, rfl⟩
      have hM_14 := (c_X2_readSign l D k o sa z_4 g (nI 116) hp_z_4)
      rw [hz_10, hz_13] at hM_14
      refine kVi (As := [.int (nI 116)]) (rest := []) X hW hM_14 yw_X2_readSign lk_X2_59 ⟨Nat.le_of_ble_eq_true rfl, Nat.le_of_ble_eq_true rfl⟩ (wr := []) (List.Perm.refl _) (w' := padW k o sa z_10 g) (List.Perm.refl _) (k_rcv X hW (ci := 2) (q0 := 0) rfl rfl) rfl hl.1 rfl (Nat.le_of_ble_eq_true rfl) ⟨Nat.zero_le _, Nat.zero_le _⟩ dX2_readOrder_42 (fun H locs hW => ?_)
      refine lv_if_eq (tgt := 65) hx hb dX2_readOrder_45 (by decide) (fun c_15 => ?_) (fun c_15 => ?_)
      · refine lv_aload_n hx hb dX2_readOrder_65 rfl (lv_at hl 0 rfl) ?_
        refine lv_bipush (v := nI 113) hx hb dX2_readOrder_66 (by decide +kernel) ?_
        obtain ⟨z_16, hz_16⟩ : ∃ zq, m_X2_readSign_z z_10 g (nI 113) = zq := ⟨_, rfl⟩
        have hp_z_16 : PD z_16 := by rw [← hz_16]; exact PD_X2_readSign hp_z_10
        have hq_17 := hp_z_16.1.2
        have hq_18 := hp_z_16.2.2
        obtain ⟨z_19, hz_19⟩ : ∃ zq, m_X2_readSign_r z_10 g (nI 113) = zq := ⟨_, rfl⟩
        have hM_20 := (c_X2_readSign l D k o sa z_10 g (nI 113) hp_z_10)
        rw [hz_16, hz_19] at hM_20
        refine kVi (As := [.int (nI 113)]) (rest := []) X hW hM_20 yw_X2_readSign lk_X2_59 ⟨Nat.le_of_ble_eq_true rfl, Nat.le_of_ble_eq_true rfl⟩ (wr := []) (List.Perm.refl _) (w' := padW k o sa z_16 g) (List.Perm.refl _) (k_rcv X hW (ci := 2) (q0 := 0) rfl rfl) rfl hl.1 rfl (Nat.le_of_ble_eq_true rfl) ⟨Nat.zero_le _, Nat.zero_le _⟩ dX2_readOrder_68 (fun H locs hW => ?_)
        refine lv_if_eq (tgt := 81) hx hb dX2_readOrder_71 (by decide) (fun c_21 => ?_) (fun c_21 => ?_)
        · refine lv_aload_n hx hb dX2_readOrder_81 rfl (lv_at hl 0 rfl) ?_
          refine lv_bipush (v := nI 109) hx hb dX2_readOrder_82 (by decide +kernel) ?_
          obtain ⟨z_22, hz_22⟩ : ∃ zq, m_X2_readSign_z z_16 g (nI 109) = zq := ⟨_, rfl⟩
          have hp_z_22 : PD z_22 := by rw [← hz_22]; exact PD_X2_readSign hp_z_16
          have hq_23 := hp_z_22.1.2
          have hq_24 := hp_z_22.2.2
          obtain ⟨z_25, hz_25⟩ : ∃ zq, m_X2_readSign_r z_16 g (nI 109) = zq := ⟨_, rfl⟩
          have hM_26 := (c_X2_readSign l D k o sa z_16 g (nI 109) hp_z_16)
          rw [hz_22, hz_25] at hM_26
          refine kVi (As := [.int (nI 109)]) (rest := []) X hW hM_26 yw_X2_readSign lk_X2_59 ⟨Nat.le_of_ble_eq_true rfl, Nat.le_of_ble_eq_true rfl⟩ (wr := []) (List.Perm.refl _) (w' := padW k o sa z_22 g) (List.Perm.refl _) (k_rcv X hW (ci := 2) (q0 := 0) rfl rfl) rfl hl.1 rfl (Nat.le_of_ble_eq_true rfl) ⟨Nat.zero_le _, Nat.zero_le _⟩ dX2_readOrder_84 (fun H locs hW => ?_)
          refine lv_if_eq (tgt := 107) hx hb dX2_readOrder_87 (by decide) (fun c_27 => ?_) (fun c_27 => ?_)
          · refine lv_aload_n hx hb dX2_readOrder_107 rfl (lv_at hl 0 rfl) ?_
            refine lv_iconst (v := nI 1) hx hb dX2_readOrder_108 (by decide +kernel) ?_
            refine k_put X hW inG2 rfl tyX2_ok nmX2 3 (by decide) fl_X2_22 rfl rfl 0 rfl rfl rfl (Nat.le_of_ble_eq_true rfl) dX2_readOrder_109 (w' := padW k o sa (upd z_22 3 (nI 1)) g) rfl (fun H locs hW => ?_)
            refine lv_aload_n hx hb dX2_readOrder_112 rfl (lv_at hl 0 rfl) ?_
            refine k_get X hW inG2 rfl 3 (by decide) fl_X2_22 rfl 0 rfl (v := .int (nI 1)) rfl dX2_readOrder_113 ?_
            refine lv_if_ne (tgt := 123) hx hb dX2_readOrder_116 (by decide) (fun _ => ?_) (fun c => absurd c (by decide +kernel))
            refine lv_iconst (v := nI 0) hx hb dX2_readOrder_123 (by decide +kernel) ?_
            exact hQ _ _ _ _ _ _ hW dX2_readOrder_124 (by subst hz_25; subst hz_22; subst hz_19; subst hz_16; subst hz_13; subst hz_10; subst hz_7; subst hz_4; rw [m_X2_readOrder_r, if_pos c_3, if_pos c_9, if_pos c_15, if_pos c_21, if_pos c_27]) (by subst hz_25; subst hz_22; subst hz_19; subst hz_16; subst hz_13; subst hz_10; subst hz_7; subst hz_4; rw [m_X2_readOrder_z, if_pos c_3, if_pos c_9, if_pos c_15, if_pos c_21, if_pos c_27])
          · refine lv_aload_n hx hb dX2_readOrder_90 rfl (lv_at hl 0 rfl) ?_
            refine lv_bipush (v := nI 109) hx hb dX2_readOrder_91 (by decide +kernel) ?_
            refine k_put X hW inG2 rfl tyX2_ok nmX2 4 (by decide) fl_X2_26 rfl rfl 0 rfl rfl rfl (Nat.le_of_ble_eq_true rfl) dX2_readOrder_93 (w' := padW k o sa (upd z_22 4 (nI 109)) g) rfl (fun H locs hW => ?_)
            refine lv_aload_n hx hb dX2_readOrder_96 rfl (lv_at hl 0 rfl) ?_
            refine lv_aload_n hx hb dX2_readOrder_97 rfl (lv_at hl 0 rfl) ?_
            obtain ⟨z_29, hz_29⟩ : ∃ zq, m_X2_readDigit_z (upd z_22 4 (nI 109)) g = zq := ⟨_, rfl⟩
            have hp_z_29 : PD z_29 := by rw [← hz_29]; exact PD_X2_readDigit (PD_u hp_z_22 (by decide) (by decide))
            have hq_30 := hp_z_29.1.2
            have hq_31 := hp_z_29.2.2
            obtain ⟨z_32, hz_32⟩ : ∃ zq, m_X2_readDigit_r (upd z_22 4 (nI 109)) g = zq := ⟨_, rfl⟩
            have hM_33 := (c_X2_readDigit l D k o sa (upd z_22 4 (nI 109)) g  (PD_u hp_z_22 (by decide) (by decide)))
            rw [hz_29, hz_32] at hM_33
            refine kVi (As := []) (rest := [.ref o]) X hW hM_33 yw_X2_readDigit lk_X2_73 ⟨Nat.le_of_ble_eq_true rfl, Nat.le_of_ble_eq_true rfl⟩ (wr := []) (List.Perm.refl _) (w' := padW k o sa z_29 g) (List.Perm.refl _) (k_rcv X hW (ci := 2) (q0 := 0) rfl rfl) rfl hl.1 rfl (Nat.le_of_ble_eq_true rfl) ⟨Nat.zero_le _, Nat.zero_le _⟩ dX2_readOrder_98 (fun H locs hW => ?_)
            refine k_put X hW inG2 rfl tyX2_ok nmX2 5 (by decide) fl_X2_30 rfl rfl 0 rfl rfl rfl (Nat.le_of_ble_eq_true rfl) dX2_readOrder_101 (w' := padW k o sa (upd z_29 5 z_32) g) rfl (fun H locs hW => ?_)
            refine lv_goto (tgt := 112) hx hb dX2_readOrder_104 (by decide) ?_
            refine lv_aload_n hx hb dX2_readOrder_112 rfl (lv_at hl 0 rfl) ?_
            refine k_get X hW inG2 rfl 3 (by decide) fl_X2_22 rfl 0 rfl (v := .int (z_29 3)) rfl dX2_readOrder_113 ?_
            refine lv_if_ne (tgt := 123) hx hb dX2_readOrder_116 (by decide) (fun c_34 => ?_) (fun c_34 => ?_)
            · refine lv_iconst (v := nI 0) hx hb dX2_readOrder_123 (by decide +kernel) ?_
              exact hQ _ _ _ _ _ _ hW dX2_readOrder_124 (by subst hz_32; subst hz_29; subst hz_25; subst hz_22; subst hz_19; subst hz_16; subst hz_13; subst hz_10; subst hz_7; subst hz_4; rw [m_X2_readOrder_r, if_pos c_3, if_pos c_9, if_pos c_15, if_pos c_21, if_neg c_27, if_neg c_34]) (by subst hz_32; subst hz_29; subst hz_25; subst hz_22; subst hz_19; subst hz_16; subst hz_13; subst hz_10; subst hz_7; subst hz_4; rw [m_X2_readOrder_z, if_pos c_3, if_pos c_9, if_pos c_15, if_pos c_21, if_neg c_27, if_neg c_34])
            · refine lv_iconst (v := nI 1) hx hb dX2_readOrder_119 (by decide +kernel) ?_
              refine lv_goto (tgt := 124) hx hb dX2_readOrder_120 (by decide) ?_
              exact hQ _ _ _ _ _ _ hW dX2_readOrder_124 (by subst hz_32; subst hz_29; subst hz_25; subst hz_22; subst hz_19; subst hz_16; subst hz_13; subst hz_10; subst hz_7; subst hz_4; rw [m_X2_readOrder_r, if_pos c_3, if_pos c_9, if_pos c_15, if_pos c_21, if_neg c_27, if_pos c_34]) (by subst hz_32; subst hz_29; subst hz_25; subst hz_22; subst hz_19; subst hz_16; subst hz_13; subst hz_10; subst hz_7; subst hz_4; rw [m_X2_readOrder_z, if_pos c_3, if_pos c_9, if_pos c_15, if_pos c_21, if_neg c_27, if_pos c_34])
        · refine lv_aload_n hx hb dX2_readOrder_74 rfl (lv_at hl 0 rfl) ?_
          obtain ⟨z_35, hz_35⟩ : ∃ zq, m_X2_readBounds_z z_16 g = zq := ⟨_, rfl⟩
          have hp_z_35 : PD z_35 := by rw [← hz_35]; exact PD_X2_readBounds hp_z_16
          have hq_36 := hp_z_35.1.2
          have hq_37 := hp_z_35.2.2
          have hM_38 := (c_X2_readBounds l D k o sa z_16 g  hp_z_16)
          rw [hz_35] at hM_38
          refine kVv (As := []) (rest := []) X hW hM_38 yw_X2_readBounds lk_X2_70 ⟨Nat.le_of_ble_eq_true rfl, Nat.le_of_ble_eq_true rfl⟩ (wr := []) (List.Perm.refl _) (w' := padW k o sa z_35 g) (List.Perm.refl _) (k_rcv X hW (ci := 2) (q0 := 0) rfl rfl) rfl hl.1 rfl (Nat.le_of_ble_eq_true rfl) ⟨Nat.zero_le _, Nat.zero_le _⟩ dX2_readOrder_75 (fun H locs hW => ?_)
          refine lv_goto (tgt := 112) hx hb dX2_readOrder_78 (by decide) ?_
          refine lv_aload_n hx hb dX2_readOrder_112 rfl (lv_at hl 0 rfl) ?_
          refine k_get X hW inG2 rfl 3 (by decide) fl_X2_22 rfl 0 rfl (v := .int (z_35 3)) rfl dX2_readOrder_113 ?_
          refine lv_if_ne (tgt := 123) hx hb dX2_readOrder_116 (by decide) (fun c_39 => ?_) (fun c_39 => ?_)
          · refine lv_iconst (v := nI 0) hx hb dX2_readOrder_123 (by decide +kernel) ?_
            exact hQ _ _ _ _ _ _ hW dX2_readOrder_124 (by subst hz_35; subst hz_19; subst hz_16; subst hz_13; subst hz_10; subst hz_7; subst hz_4; rw [m_X2_readOrder_r, if_pos c_3, if_pos c_9, if_pos c_15, if_neg c_21, if_neg c_39]) (by subst hz_35; subst hz_19; subst hz_16; subst hz_13; subst hz_10; subst hz_7; subst hz_4; rw [m_X2_readOrder_z, if_pos c_3, if_pos c_9, if_pos c_15, if_neg c_21, if_neg c_39])
          · refine lv_iconst (v := nI 1) hx hb dX2_readOrder_119 (by decide +kernel) ?_
            refine lv_goto (tgt := 124) hx hb dX2_readOrder_120 (by decide) ?_
            exact hQ _ _ _ _ _ _ hW dX2_readOrder_124 (by subst hz_35; subst hz_19; subst hz_16; subst hz_13; subst hz_10; subst hz_7; subst hz_4; rw [m_X2_readOrder_r, if_pos c_3, if_pos c_9, if_pos c_15, if_neg c_21, if_pos c_39]) (by subst hz_35; subst hz_19; subst hz_16; subst hz_13; subst hz_10; subst hz_7; subst hz_4; rw [m_X2_readOrder_z, if_pos c_3, if_pos c_9, if_pos c_15, if_neg c_21, if_pos c_39])
      · refine lv_aload_n hx hb dX2_readOrder_48 rfl (lv_at hl 0 rfl) ?_
        refine lv_bipush (v := nI 116) hx hb dX2_readOrder_49 (by decide +kernel) ?_
        refine k_put X hW inG2 rfl tyX2_ok nmX2 4 (by decide) fl_X2_26 rfl rfl 0 rfl rfl rfl (Nat.le_of_ble_eq_true rfl) dX2_readOrder_51 (w' := padW k o sa (upd z_10 4 (nI 116)) g) rfl (fun H locs hW => ?_)
        refine lv_aload_n hx hb dX2_readOrder_54 rfl (lv_at hl 0 rfl) ?_
        refine lv_aload_n hx hb dX2_readOrder_55 rfl (lv_at hl 0 rfl) ?_
        obtain ⟨z_40, hz_40⟩ : ∃ zq, m_X2_readNumber_z (upd z_10 4 (nI 116)) g = zq := ⟨_, rfl⟩
        have hp_z_40 : PD z_40 := by rw [← hz_40]; exact PD_X2_readNumber (PD_u hp_z_10 (by decide) (by decide))
        have hq_41 := hp_z_40.1.2
        have hq_42 := hp_z_40.2.2
        obtain ⟨z_43, hz_43⟩ : ∃ zq, m_X2_readNumber_r (upd z_10 4 (nI 116)) g = zq := ⟨_, rfl⟩
        have hM_44 := (c_X2_readNumber l D k o sa (upd z_10 4 (nI 116)) g  (PD_u hp_z_10 (by decide) (by decide)))
        rw [hz_40, hz_43] at hM_44
        refine kVi (As := []) (rest := [.ref o]) X hW hM_44 yw_X2_readNumber lk_X2_66 ⟨Nat.le_of_ble_eq_true rfl, Nat.le_of_ble_eq_true rfl⟩ (wr := []) (List.Perm.refl _) (w' := padW k o sa z_40 g) (List.Perm.refl _) (k_rcv X hW (ci := 2) (q0 := 0) rfl rfl) rfl hl.1 rfl (Nat.le_of_ble_eq_true rfl) ⟨Nat.zero_le _, Nat.zero_le _⟩ dX2_readOrder_56 (fun H locs hW => ?_)
        refine k_put X hW inG2 rfl tyX2_ok nmX2 5 (by decide) fl_X2_30 rfl rfl 0 rfl rfl rfl (Nat.le_of_ble_eq_true rfl) dX2_readOrder_59 (w' := padW k o sa (upd z_40 5 z_43) g) rfl (fun H locs hW => ?_)
        refine lv_goto (tgt := 112) hx hb dX2_readOrder_62 (by decide) ?_
        refine lv_aload_n hx hb dX2_readOrder_112 rfl (lv_at hl 0 rfl) ?_
        refine k_get X hW inG2 rfl 3 (by decide) fl_X2_22 rfl 0 rfl (v := .int (z_40 3)) rfl dX2_readOrder_113 ?_
        refine lv_if_ne (tgt := 123) hx hb dX2_readOrder_116 (by decide) (fun c_45 => ?_) (fun c_45 => ?_)
        · refine lv_iconst (v := nI 0) hx hb dX2_readOrder_123 (by decide +kernel) ?_
          exact hQ _ _ _ _ _ _ hW dX2_readOrder_124 (by subst hz_43; subst hz_40; subst hz_13; subst hz_10; subst hz_7; subst hz_4; rw [m_X2_readOrder_r, if_pos c_3, if_pos c_9, if_neg c_15, if_neg c_45]) (by subst hz_43; subst hz_40; subst hz_13; subst hz_10; subst hz_7; subst hz_4; rw [m_X2_readOrder_z, if_pos c_3, if_pos c_9, if_neg c_15, if_neg c_45])
        · refine lv_iconst (v := nI 1) hx hb dX2_readOrder_119 (by decide +kernel) ?_
          refine lv_goto (tgt := 124) hx hb dX2_readOrder_120 (by decide) ?_
          exact hQ _ _ _ _ _ _ hW dX2_readOrder_124 (by subst hz_43; subst hz_40; subst hz_13; subst hz_10; subst hz_7; subst hz_4; rw [m_X2_readOrder_r, if_pos c_3, if_pos c_9, if_neg c_15, if_pos c_45]) (by subst hz_43; subst hz_40; subst hz_13; subst hz_10; subst hz_7; subst hz_4; rw [m_X2_readOrder_z, if_pos c_3, if_pos c_9, if_neg c_15, if_pos c_45])
    · refine lv_aload_n hx hb dX2_readOrder_32 rfl (lv_at hl 0 rfl) ?_
      obtain ⟨z_46, hz_46⟩ : ∃ zq, m_X2_readFrames_z z_4 g = zq := ⟨_, rfl⟩
      have hp_z_46 : PD z_46 := by rw [← hz_46]; exact PD_X2_readFrames hp_z_4
      have hq_47 := hp_z_46.1.2
      have hq_48 := hp_z_46.2.2
      have hM_49 := (c_X2_readFrames l D k o sa z_4 g  hp_z_4)
      rw [hz_46] at hM_49
      refine kVv (As := []) (rest := []) X hW hM_49 yw_X2_readFrames lk_X2_63 ⟨Nat.le_of_ble_eq_true rfl, Nat.le_of_ble_eq_true rfl⟩ (wr := []) (List.Perm.refl _) (w' := padW k o sa z_46 g) (List.Perm.refl _) (k_rcv X hW (ci := 2) (q0 := 0) rfl rfl) rfl hl.1 rfl (Nat.le_of_ble_eq_true rfl) ⟨Nat.zero_le _, Nat.zero_le _⟩ dX2_readOrder_33 (fun H locs hW => ?_)
      refine lv_goto (tgt := 112) hx hb dX2_readOrder_36 (by decide) ?_
      refine lv_aload_n hx hb dX2_readOrder_112 rfl (lv_at hl 0 rfl) ?_
      refine k_get X hW inG2 rfl 3 (by decide) fl_X2_22 rfl 0 rfl (v := .int (z_46 3)) rfl dX2_readOrder_113 ?_
      refine lv_if_ne (tgt := 123) hx hb dX2_readOrder_116 (by decide) (fun c_50 => ?_) (fun c_50 => ?_)
      · refine lv_iconst (v := nI 0) hx hb dX2_readOrder_123 (by decide +kernel) ?_
        exact hQ _ _ _ _ _ _ hW dX2_readOrder_124 (by subst hz_46; subst hz_7; subst hz_4; rw [m_X2_readOrder_r, if_pos c_3, if_neg c_9, if_neg c_50]) (by subst hz_46; subst hz_7; subst hz_4; rw [m_X2_readOrder_z, if_pos c_3, if_neg c_9, if_neg c_50])
      · refine lv_iconst (v := nI 1) hx hb dX2_readOrder_119 (by decide +kernel) ?_
        refine lv_goto (tgt := 124) hx hb dX2_readOrder_120 (by decide) ?_
        exact hQ _ _ _ _ _ _ hW dX2_readOrder_124 (by subst hz_46; subst hz_7; subst hz_4; rw [m_X2_readOrder_r, if_pos c_3, if_neg c_9, if_pos c_50]) (by subst hz_46; subst hz_7; subst hz_4; rw [m_X2_readOrder_z, if_pos c_3, if_neg c_9, if_pos c_50])
  · have c_3 : ¬ (tn (z 2) ≤ 0) := fun h => c_3 ((nI_leI (a := tn (z 2)) (b := 0) (by omega) (by omega)).mpr h)
    refine lv_aload_n hx hb dX2_readOrder_7 rfl (lv_at hl 0 rfl) ?_
    refine lv_bipush (v := nI 59) hx hb dX2_readOrder_8 (by decide +kernel) ?_
    obtain ⟨z_51, hz_51⟩ : ∃ zq, m_X2_readSign_z z g (nI 59) = zq := ⟨_, rfl⟩
    have hp_z_51 : PD z_51 := by rw [← hz_51]; exact PD_X2_readSign hp
    have hq_52 := hp_z_51.1.2
    have hq_53 := hp_z_51.2.2
    obtain ⟨z_54, hz_54⟩ : ∃ zq, m_X2_readSign_r z g (nI 59) = zq := ⟨_, rfl⟩
    have hM_55 := (c_X2_readSign l D k o sa z g (nI 59) hp)
    rw [hz_51, hz_54] at hM_55
    refine kVi (As := [.int (nI 59)]) (rest := []) X hW hM_55 yw_X2_readSign lk_X2_59 ⟨Nat.le_of_ble_eq_true rfl, Nat.le_of_ble_eq_true rfl⟩ (wr := []) (List.Perm.refl _) (w' := padW k o sa z_51 g) (List.Perm.refl _) (k_rcv X hW (ci := 2) (q0 := 0) rfl rfl) rfl hl.1 rfl (Nat.le_of_ble_eq_true rfl) ⟨Nat.zero_le _, Nat.zero_le _⟩ dX2_readOrder_10 (fun H locs hW => ?_)
    refine lv_if_ne (tgt := 18) hx hb dX2_readOrder_13 (by decide) (fun c_56 => ?_) (fun c_56 => ?_)
    · refine lv_aload_n hx hb dX2_readOrder_18 rfl (lv_at hl 0 rfl) ?_
      refine lv_iconst (v := nI 1) hx hb dX2_readOrder_19 (by decide +kernel) ?_
      refine k_put X hW inG2 rfl tyX2_ok nmX2 8 (by decide) fl_X2_39 rfl rfl 0 rfl rfl rfl (Nat.le_of_ble_eq_true rfl) dX2_readOrder_20 (w' := padW k o sa (upd z_51 8 (nI 1)) g) rfl (fun H locs hW => ?_)
      refine lv_aload_n hx hb dX2_readOrder_23 rfl (lv_at hl 0 rfl) ?_
      refine lv_bipush (v := nI 102) hx hb dX2_readOrder_24 (by decide +kernel) ?_
      obtain ⟨z_57, hz_57⟩ : ∃ zq, m_X2_readSign_z (upd z_51 8 (nI 1)) g (nI 102) = zq := ⟨_, rfl⟩
      have hp_z_57 : PD z_57 := by rw [← hz_57]; exact PD_X2_readSign (PD_u hp_z_51 (by decide) (by decide))
      have hq_58 := hp_z_57.1.2
      have hq_59 := hp_z_57.2.2
      obtain ⟨z_60, hz_60⟩ : ∃ zq, m_X2_readSign_r (upd z_51 8 (nI 1)) g (nI 102) = zq := ⟨_, rfl⟩
      have hM_61 := (c_X2_readSign l D k o sa (upd z_51 8 (nI 1)) g (nI 102) (PD_u hp_z_51 (by decide) (by decide)))
      rw [hz_57, hz_60] at hM_61
      refine kVi (As := [.int (nI 102)]) (rest := []) X hW hM_61 yw_X2_readSign lk_X2_59 ⟨Nat.le_of_ble_eq_true rfl, Nat.le_of_ble_eq_true rfl⟩ (wr := []) (List.Perm.refl _) (w' := padW k o sa z_57 g) (List.Perm.refl _) (k_rcv X hW (ci := 2) (q0 := 0) rfl rfl) rfl hl.1 rfl (Nat.le_of_ble_eq_true rfl) ⟨Nat.zero_le _, Nat.zero_le _⟩ dX2_readOrder_26 (fun H locs hW => ?_)
      refine lv_if_eq (tgt := 39) hx hb dX2_readOrder_29 (by decide) (fun c_62 => ?_) (fun c_62 => ?_)
      · refine lv_aload_n hx hb dX2_readOrder_39 rfl (lv_at hl 0 rfl) ?_
        refine lv_bipush (v := nI 116) hx hb dX2_readOrder_40 (by decide +kernel) ?_
        obtain ⟨z_63, hz_63⟩ : ∃ zq, m_X2_readSign_z z_57 g (nI 116) = zq := ⟨_, rfl⟩
        have hp_z_63 : PD z_63 := by rw [← hz_63]; exact PD_X2_readSign hp_z_57
        have hq_64 := hp_z_63.1.2
        have hq_65 := hp_z_63.2.2
        obtain ⟨z_66, hz_66⟩ : ∃ zq, m_X2_readSign_r z_57 g (nI 116) = zq := ⟨_, rfl⟩
        have hM_67 := (c_X2_readSign l D k o sa z_57 g (nI 116) hp_z_57)
        rw [hz_63, hz_66] at hM_67
        refine kVi (As := [.int (nI 116)]) (rest := []) X hW hM_67 yw_X2_readSign lk_X2_59 ⟨Nat.le_of_ble_eq_true rfl, Nat.le_of_ble_eq_true rfl⟩ (wr := []) (List.Perm.refl _) (w' := padW k o sa z_63 g) (List.Perm.refl _) (k_rcv X hW (ci := 2) (q0 := 0) rfl rfl) rfl hl.1 rfl (Nat.le_of_ble_eq_true rfl) ⟨Nat.zero_le _, Nat.zero_le _⟩ dX2_readOrder_42 (fun H locs hW => ?_)
        refine lv_if_eq (tgt := 65) hx hb dX2_readOrder_45 (by decide) (fun c_68 => ?_) (fun c_68 => ?_)
        · refine lv_aload_n hx hb dX2_readOrder_65 rfl (lv_at hl 0 rfl) ?_
          refine lv_bipush (v := nI 113) hx hb dX2_readOrder_66 (by decide +kernel) ?_
          obtain ⟨z_69, hz_69⟩ : ∃ zq, m_X2_readSign_z z_63 g (nI 113) = zq := ⟨_, rfl⟩
          have hp_z_69 : PD z_69 := by rw [← hz_69]; exact PD_X2_readSign hp_z_63
          have hq_70 := hp_z_69.1.2
          have hq_71 := hp_z_69.2.2
          obtain ⟨z_72, hz_72⟩ : ∃ zq, m_X2_readSign_r z_63 g (nI 113) = zq := ⟨_, rfl⟩
          have hM_73 := (c_X2_readSign l D k o sa z_63 g (nI 113) hp_z_63)
          rw [hz_69, hz_72] at hM_73
          refine kVi (As := [.int (nI 113)]) (rest := []) X hW hM_73 yw_X2_readSign lk_X2_59 ⟨Nat.le_of_ble_eq_true rfl, Nat.le_of_ble_eq_true rfl⟩ (wr := []) (List.Perm.refl _) (w' := padW k o sa z_69 g) (List.Perm.refl _) (k_rcv X hW (ci := 2) (q0 := 0) rfl rfl) rfl hl.1 rfl (Nat.le_of_ble_eq_true rfl) ⟨Nat.zero_le _, Nat.zero_le _⟩ dX2_readOrder_68 (fun H locs hW => ?_)
          refine lv_if_eq (tgt := 81) hx hb dX2_readOrder_71 (by decide) (fun c_74 => ?_) (fun c_74 => ?_)
          · refine lv_aload_n hx hb dX2_readOrder_81 rfl (lv_at hl 0 rfl) ?_
            refine lv_bipush (v := nI 109) hx hb dX2_readOrder_82 (by decide +kernel) ?_
            obtain ⟨z_75, hz_75⟩ : ∃ zq, m_X2_readSign_z z_69 g (nI 109) = zq := ⟨_, rfl⟩
            have hp_z_75 : PD z_75 := by rw [← hz_75]; exact PD_X2_readSign hp_z_69
            have hq_76 := hp_z_75.1.2
            have hq_77 := hp_z_75.2.2
            obtain ⟨z_78, hz_78⟩ : ∃ zq, m_X2_readSign_r z_69 g (nI 109) = zq := ⟨_, rfl⟩
            have hM_79 := (c_X2_readSign l D k o sa z_69 g (nI 109) hp_z_69)
            rw [hz_75, hz_78] at hM_79
            refine kVi (As := [.int (nI 109)]) (rest := []) X hW hM_79 yw_X2_readSign lk_X2_59 ⟨Nat.le_of_ble_eq_true rfl, Nat.le_of_ble_eq_true rfl⟩ (wr := []) (List.Perm.refl _) (w' := padW k o sa z_75 g) (List.Perm.refl _) (k_rcv X hW (ci := 2) (q0 := 0) rfl rfl) rfl hl.1 rfl (Nat.le_of_ble_eq_true rfl) ⟨Nat.zero_le _, Nat.zero_le _⟩ dX2_readOrder_84 (fun H locs hW => ?_)
            refine lv_if_eq (tgt := 107) hx hb dX2_readOrder_87 (by decide) (fun c_80 => ?_) (fun c_80 => ?_)
            · refine lv_aload_n hx hb dX2_readOrder_107 rfl (lv_at hl 0 rfl) ?_
              refine lv_iconst (v := nI 1) hx hb dX2_readOrder_108 (by decide +kernel) ?_
              refine k_put X hW inG2 rfl tyX2_ok nmX2 3 (by decide) fl_X2_22 rfl rfl 0 rfl rfl rfl (Nat.le_of_ble_eq_true rfl) dX2_readOrder_109 (w' := padW k o sa (upd z_75 3 (nI 1)) g) rfl (fun H locs hW => ?_)
              refine lv_aload_n hx hb dX2_readOrder_112 rfl (lv_at hl 0 rfl) ?_
              refine k_get X hW inG2 rfl 3 (by decide) fl_X2_22 rfl 0 rfl (v := .int (nI 1)) rfl dX2_readOrder_113 ?_
              refine lv_if_ne (tgt := 123) hx hb dX2_readOrder_116 (by decide) (fun _ => ?_) (fun c => absurd c (by decide +kernel))
              refine lv_iconst (v := nI 0) hx hb dX2_readOrder_123 (by decide +kernel) ?_
              exact hQ _ _ _ _ _ _ hW dX2_readOrder_124 (by subst hz_78; subst hz_75; subst hz_72; subst hz_69; subst hz_66; subst hz_63; subst hz_60; subst hz_57; subst hz_54; subst hz_51; rw [m_X2_readOrder_r, if_neg c_3, if_neg c_56, if_pos c_62, if_pos c_68, if_pos c_74, if_pos c_80]) (by subst hz_78; subst hz_75; subst hz_72; subst hz_69; subst hz_66; subst hz_63; subst hz_60; subst hz_57; subst hz_54; subst hz_51; rw [m_X2_readOrder_z, if_neg c_3, if_neg c_56, if_pos c_62, if_pos c_68, if_pos c_74, if_pos c_80])
            · refine lv_aload_n hx hb dX2_readOrder_90 rfl (lv_at hl 0 rfl) ?_
              refine lv_bipush (v := nI 109) hx hb dX2_readOrder_91 (by decide +kernel) ?_
              refine k_put X hW inG2 rfl tyX2_ok nmX2 4 (by decide) fl_X2_26 rfl rfl 0 rfl rfl rfl (Nat.le_of_ble_eq_true rfl) dX2_readOrder_93 (w' := padW k o sa (upd z_75 4 (nI 109)) g) rfl (fun H locs hW => ?_)
              refine lv_aload_n hx hb dX2_readOrder_96 rfl (lv_at hl 0 rfl) ?_
              refine lv_aload_n hx hb dX2_readOrder_97 rfl (lv_at hl 0 rfl) ?_
              obtain ⟨z_82, hz_82⟩ : ∃ zq, m_X2_readDigit_z (upd z_75 4 (nI 109)) g = zq := ⟨_, rfl⟩
              have hp_z_82 : PD z_82 := by rw [← hz_82]; exact PD_X2_readDigit (PD_u hp_z_75 (by decide) (by decide))
              have hq_83 := hp_z_82.1.2
              have hq_84 := hp_z_82.2.2
              obtain ⟨z_85, hz_85⟩ : ∃ zq, m_X2_readDigit_r (upd z_75 4 (nI 109)) g = zq := ⟨_, rfl⟩
              have hM_86 := (c_X2_readDigit l D k o sa (upd z_75 4 (nI 109)) g  (PD_u hp_z_75 (by decide) (by decide)))
              rw [hz_82, hz_85] at hM_86
              refine kVi (As := []) (rest := [.ref o]) X hW hM_86 yw_X2_readDigit lk_X2_73 ⟨Nat.le_of_ble_eq_true rfl, Nat.le_of_ble_eq_true rfl⟩ (wr := []) (List.Perm.refl _) (w' := padW k o sa z_82 g) (List.Perm.refl _) (k_rcv X hW (ci := 2) (q0 := 0) rfl rfl) rfl hl.1 rfl (Nat.le_of_ble_eq_true rfl) ⟨Nat.zero_le _, Nat.zero_le _⟩ dX2_readOrder_98 (fun H locs hW => ?_)
              refine k_put X hW inG2 rfl tyX2_ok nmX2 5 (by decide) fl_X2_30 rfl rfl 0 rfl rfl rfl (Nat.le_of_ble_eq_true rfl) dX2_readOrder_101 (w' := padW k o sa (upd z_82 5 z_85) g) rfl (fun H locs hW => ?_)
              refine lv_goto (tgt := 112) hx hb dX2_readOrder_104 (by decide) ?_
              refine lv_aload_n hx hb dX2_readOrder_112 rfl (lv_at hl 0 rfl) ?_
              refine k_get X hW inG2 rfl 3 (by decide) fl_X2_22 rfl 0 rfl (v := .int (z_82 3)) rfl dX2_readOrder_113 ?_
              refine lv_if_ne (tgt := 123) hx hb dX2_readOrder_116 (by decide) (fun c_87 => ?_) (fun c_87 => ?_)
              · refine lv_iconst (v := nI 0) hx hb dX2_readOrder_123 (by decide +kernel) ?_
                exact hQ _ _ _ _ _ _ hW dX2_readOrder_124 (by subst hz_85; subst hz_82; subst hz_78; subst hz_75; subst hz_72; subst hz_69; subst hz_66; subst hz_63; subst hz_60; subst hz_57; subst hz_54; subst hz_51; rw [m_X2_readOrder_r, if_neg c_3, if_neg c_56, if_pos c_62, if_pos c_68, if_pos c_74, if_neg c_80, if_neg c_87]) (by subst hz_85; subst hz_82; subst hz_78; subst hz_75; subst hz_72; subst hz_69; subst hz_66; subst hz_63; subst hz_60; subst hz_57; subst hz_54; subst hz_51; rw [m_X2_readOrder_z, if_neg c_3, if_neg c_56, if_pos c_62, if_pos c_68, if_pos c_74, if_neg c_80, if_neg c_87])
              · refine lv_iconst (v := nI 1) hx hb dX2_readOrder_119 (by decide +kernel) ?_
                refine lv_goto (tgt := 124) hx hb dX2_readOrder_120 (by decide) ?_
                exact hQ _ _ _ _ _ _ hW dX2_readOrder_124 (by subst hz_85; subst hz_82; subst hz_78; subst hz_75; subst hz_72; subst hz_69; subst hz_66; subst hz_63; subst hz_60; subst hz_57; subst hz_54; subst hz_51; rw [m_X2_readOrder_r, if_neg c_3, if_neg c_56, if_pos c_62, if_pos c_68, if_pos c_74, if_neg c_80, if_pos c_87]) (by subst hz_85; subst hz_82; subst hz_78; subst hz_75; subst hz_72; subst hz_69; subst hz_66; subst hz_63; subst hz_60; subst hz_57; subst hz_54; subst hz_51; rw [m_X2_readOrder_z, if_neg c_3, if_neg c_56, if_pos c_62, if_pos c_68, if_pos c_74, if_neg c_80, if_pos c_87])
          · refine lv_aload_n hx hb dX2_readOrder_74 rfl (lv_at hl 0 rfl) ?_
            obtain ⟨z_88, hz_88⟩ : ∃ zq, m_X2_readBounds_z z_69 g = zq := ⟨_, rfl⟩
            have hp_z_88 : PD z_88 := by rw [← hz_88]; exact PD_X2_readBounds hp_z_69
            have hq_89 := hp_z_88.1.2
            have hq_90 := hp_z_88.2.2
            have hM_91 := (c_X2_readBounds l D k o sa z_69 g  hp_z_69)
            rw [hz_88] at hM_91
            refine kVv (As := []) (rest := []) X hW hM_91 yw_X2_readBounds lk_X2_70 ⟨Nat.le_of_ble_eq_true rfl, Nat.le_of_ble_eq_true rfl⟩ (wr := []) (List.Perm.refl _) (w' := padW k o sa z_88 g) (List.Perm.refl _) (k_rcv X hW (ci := 2) (q0 := 0) rfl rfl) rfl hl.1 rfl (Nat.le_of_ble_eq_true rfl) ⟨Nat.zero_le _, Nat.zero_le _⟩ dX2_readOrder_75 (fun H locs hW => ?_)
            refine lv_goto (tgt := 112) hx hb dX2_readOrder_78 (by decide) ?_
            refine lv_aload_n hx hb dX2_readOrder_112 rfl (lv_at hl 0 rfl) ?_
            refine k_get X hW inG2 rfl 3 (by decide) fl_X2_22 rfl 0 rfl (v := .int (z_88 3)) rfl dX2_readOrder_113 ?_
            refine lv_if_ne (tgt := 123) hx hb dX2_readOrder_116 (by decide) (fun c_92 => ?_) (fun c_92 => ?_)
            · refine lv_iconst (v := nI 0) hx hb dX2_readOrder_123 (by decide +kernel) ?_
              exact hQ _ _ _ _ _ _ hW dX2_readOrder_124 (by subst hz_88; subst hz_72; subst hz_69; subst hz_66; subst hz_63; subst hz_60; subst hz_57; subst hz_54; subst hz_51; rw [m_X2_readOrder_r, if_neg c_3, if_neg c_56, if_pos c_62, if_pos c_68, if_neg c_74, if_neg c_92]) (by subst hz_88; subst hz_72; subst hz_69; subst hz_66; subst hz_63; subst hz_60; subst hz_57; subst hz_54; subst hz_51; rw [m_X2_readOrder_z, if_neg c_3, if_neg c_56, if_pos c_62, if_pos c_68, if_neg c_74, if_neg c_92])
            · refine lv_iconst (v := nI 1) hx hb dX2_readOrder_119 (by decide +kernel) ?_
              refine lv_goto (tgt := 124) hx hb dX2_readOrder_120 (by decide) ?_
              exact hQ _ _ _ _ _ _ hW dX2_readOrder_124 (by subst hz_88; subst hz_72; subst hz_69; subst hz_66; subst hz_63; subst hz_60; subst hz_57; subst hz_54; subst hz_51; rw [m_X2_readOrder_r, if_neg c_3, if_neg c_56, if_pos c_62, if_pos c_68, if_neg c_74, if_pos c_92]) (by subst hz_88; subst hz_72; subst hz_69; subst hz_66; subst hz_63; subst hz_60; subst hz_57; subst hz_54; subst hz_51; rw [m_X2_readOrder_z, if_neg c_3, if_neg c_56, if_pos c_62, if_pos c_68, if_neg c_74, if_pos c_92])
        · refine lv_aload_n hx hb dX2_readOrder_48 rfl (lv_at hl 0 rfl) ?_
          refine lv_bipush (v := nI 116) hx hb dX2_readOrder_49 (by decide +kernel) ?_
          refine k_put X hW inG2 rfl tyX2_ok nmX2 4 (by decide) fl_X2_26 rfl rfl 0 rfl rfl rfl (Nat.le_of_ble_eq_true rfl) dX2_readOrder_51 (w' := padW k o sa (upd z_63 4 (nI 116)) g) rfl (fun H locs hW => ?_)
          refine lv_aload_n hx hb dX2_readOrder_54 rfl (lv_at hl 0 rfl) ?_
          refine lv_aload_n hx hb dX2_readOrder_55 rfl (lv_at hl 0 rfl) ?_
          obtain ⟨z_93, hz_93⟩ : ∃ zq, m_X2_readNumber_z (upd z_63 4 (nI 116)) g = zq := ⟨_, rfl⟩
          have hp_z_93 : PD z_93 := by rw [← hz_93]; exact PD_X2_readNumber (PD_u hp_z_63 (by decide) (by decide))
          have hq_94 := hp_z_93.1.2
          have hq_95 := hp_z_93.2.2
          obtain ⟨z_96, hz_96⟩ : ∃ zq, m_X2_readNumber_r (upd z_63 4 (nI 116)) g = zq := ⟨_, rfl⟩
          have hM_97 := (c_X2_readNumber l D k o sa (upd z_63 4 (nI 116)) g  (PD_u hp_z_63 (by decide) (by decide)))
          rw [hz_93, hz_96] at hM_97
          refine kVi (As := []) (rest := [.ref o]) X hW hM_97 yw_X2_readNumber lk_X2_66 ⟨Nat.le_of_ble_eq_true rfl, Nat.le_of_ble_eq_true rfl⟩ (wr := []) (List.Perm.refl _) (w' := padW k o sa z_93 g) (List.Perm.refl _) (k_rcv X hW (ci := 2) (q0 := 0) rfl rfl) rfl hl.1 rfl (Nat.le_of_ble_eq_true rfl) ⟨Nat.zero_le _, Nat.zero_le _⟩ dX2_readOrder_56 (fun H locs hW => ?_)
          refine k_put X hW inG2 rfl tyX2_ok nmX2 5 (by decide) fl_X2_30 rfl rfl 0 rfl rfl rfl (Nat.le_of_ble_eq_true rfl) dX2_readOrder_59 (w' := padW k o sa (upd z_93 5 z_96) g) rfl (fun H locs hW => ?_)
          refine lv_goto (tgt := 112) hx hb dX2_readOrder_62 (by decide) ?_
          refine lv_aload_n hx hb dX2_readOrder_112 rfl (lv_at hl 0 rfl) ?_
          refine k_get X hW inG2 rfl 3 (by decide) fl_X2_22 rfl 0 rfl (v := .int (z_93 3)) rfl dX2_readOrder_113 ?_
          refine lv_if_ne (tgt := 123) hx hb dX2_readOrder_116 (by decide) (fun c_98 => ?_) (fun c_98 => ?_)
          · refine lv_iconst (v := nI 0) hx hb dX2_readOrder_123 (by decide +kernel) ?_
            exact hQ _ _ _ _ _ _ hW dX2_readOrder_124 (by subst hz_96; subst hz_93; subst hz_66; subst hz_63; subst hz_60; subst hz_57; subst hz_54; subst hz_51; rw [m_X2_readOrder_r, if_neg c_3, if_neg c_56, if_pos c_62, if_neg c_68, if_neg c_98]) (by subst hz_96; subst hz_93; subst hz_66; subst hz_63; subst hz_60; subst hz_57; subst hz_54; subst hz_51; rw [m_X2_readOrder_z, if_neg c_3, if_neg c_56, if_pos c_62, if_neg c_68, if_neg c_98])
          · refine lv_iconst (v := nI 1) hx hb dX2_readOrder_119 (by decide +kernel) ?_
            refine lv_goto (tgt := 124) hx hb dX2_readOrder_120 (by decide) ?_
            exact hQ _ _ _ _ _ _ hW dX2_readOrder_124 (by subst hz_96; subst hz_93; subst hz_66; subst hz_63; subst hz_60; subst hz_57; subst hz_54; subst hz_51; rw [m_X2_readOrder_r, if_neg c_3, if_neg c_56, if_pos c_62, if_neg c_68, if_pos c_98]) (by subst hz_96; subst hz_93; subst hz_66; subst hz_63; subst hz_60; subst hz_57; subst hz_54; subst hz_51; rw [m_X2_readOrder_z, if_neg c_3, if_neg c_56, if_pos c_62, if_neg c_68, if_pos c_98])
      · refine lv_aload_n hx hb dX2_readOrder_32 rfl (lv_at hl 0 rfl) ?_
        obtain ⟨z_99, hz_99⟩ : ∃ zq, m_X2_readFrames_z z_57 g = zq := ⟨_, rfl⟩
        have hp_z_99 : PD z_99 := by rw [← hz_99]; exact PD_X2_readFrames hp_z_57
        have hq_100 := hp_z_99.1.2
        have hq_101 := hp_z_99.2.2
        have hM_102 := (c_X2_readFrames l D k o sa z_57 g  hp_z_57)
        rw [hz_99] at hM_102
        refine kVv (As := []) (rest := []) X hW hM_102 yw_X2_readFrames lk_X2_63 ⟨Nat.le_of_ble_eq_true rfl, Nat.le_of_ble_eq_true rfl⟩ (wr := []) (List.Perm.refl _) (w' := padW k o sa z_99 g) (List.Perm.refl _) (k_rcv X hW (ci := 2) (q0 := 0) rfl rfl) rfl hl.1 rfl (Nat.le_of_ble_eq_true rfl) ⟨Nat.zero_le _, Nat.zero_le _⟩ dX2_readOrder_33 (fun H locs hW => ?_)
        refine lv_goto (tgt := 112) hx hb dX2_readOrder_36 (by decide) ?_
        refine lv_aload_n hx hb dX2_readOrder_112 rfl (lv_at hl 0 rfl) ?_
        refine k_get X hW inG2 rfl 3 (by decide) fl_X2_22 rfl 0 rfl (v := .int (z_99 3)) rfl dX2_readOrder_113 ?_
        refine lv_if_ne (tgt := 123) hx hb dX2_readOrder_116 (by decide) (fun c_103 => ?_) (fun c_103 => ?_)
        · refine lv_iconst (v := nI 0) hx hb dX2_readOrder_123 (by decide +kernel) ?_
          exact hQ _ _ _ _ _ _ hW dX2_readOrder_124 (by subst hz_99; subst hz_60; subst hz_57; subst hz_54; subst hz_51; rw [m_X2_readOrder_r, if_neg c_3, if_neg c_56, if_neg c_62, if_neg c_103]) (by subst hz_99; subst hz_60; subst hz_57; subst hz_54; subst hz_51; rw [m_X2_readOrder_z, if_neg c_3, if_neg c_56, if_neg c_62, if_neg c_103])
        · refine lv_iconst (v := nI 1) hx hb dX2_readOrder_119 (by decide +kernel) ?_
          refine lv_goto (tgt := 124) hx hb dX2_readOrder_120 (by decide) ?_
          exact hQ _ _ _ _ _ _ hW dX2_readOrder_124 (by subst hz_99; subst hz_60; subst hz_57; subst hz_54; subst hz_51; rw [m_X2_readOrder_r, if_neg c_3, if_neg c_56, if_neg c_62, if_pos c_103]) (by subst hz_99; subst hz_60; subst hz_57; subst hz_54; subst hz_51; rw [m_X2_readOrder_z, if_neg c_3, if_neg c_56, if_neg c_62, if_pos c_103])
    · refine lv_iconst (v := nI 0) hx hb dX2_readOrder_16 (by decide +kernel) ?_
      exact hQ _ _ _ _ _ _ hW dX2_readOrder_17 (by subst hz_54; subst hz_51; rw [m_X2_readOrder_r, if_neg c_3, if_pos c_56]) (by subst hz_54; subst hz_51; rw [m_X2_readOrder_z, if_neg c_3, if_pos c_56])
theorem PD_X2_readOrder {z : Nat → Int32} {g : Nat → Int32} (h : PD z) : PD (m_X2_readOrder_z z g) := by
  rw [m_X2_readOrder_z]
  split
  · split
    · split
      · split
        · split
          · exact (PD_u (PD_X2_readSign (PD_X2_readSign (PD_X2_readSign (PD_X2_readSign (PD_u h (by decide) (by decide)))))) (by decide) (by decide))
          · split
            · exact (PD_u (PD_X2_readDigit (PD_u (PD_X2_readSign (PD_X2_readSign (PD_X2_readSign (PD_X2_readSign (PD_u h (by decide) (by decide)))))) (by decide) (by decide))) (by decide) (by decide))
            · exact (PD_u (PD_X2_readDigit (PD_u (PD_X2_readSign (PD_X2_readSign (PD_X2_readSign (PD_X2_readSign (PD_u h (by decide) (by decide)))))) (by decide) (by decide))) (by decide) (by decide))
        · split
          · exact (PD_X2_readBounds (PD_X2_readSign (PD_X2_readSign (PD_X2_readSign (PD_u h (by decide) (by decide))))))
          · exact (PD_X2_readBounds (PD_X2_readSign (PD_X2_readSign (PD_X2_readSign (PD_u h (by decide) (by decide))))))
      · split
        · exact (PD_u (PD_X2_readNumber (PD_u (PD_X2_readSign (PD_X2_readSign (PD_u h (by decide) (by decide)))) (by decide) (by decide))) (by decide) (by decide))
        · exact (PD_u (PD_X2_readNumber (PD_u (PD_X2_readSign (PD_X2_readSign (PD_u h (by decide) (by decide)))) (by decide) (by decide))) (by decide) (by decide))
    · split
      · exact (PD_X2_readFrames (PD_X2_readSign (PD_u h (by decide) (by decide))))
      · exact (PD_X2_readFrames (PD_X2_readSign (PD_u h (by decide) (by decide))))
  · split
    · exact (PD_X2_readSign h)
    · split
      · split
        · split
          · split
            · exact (PD_u (PD_X2_readSign (PD_X2_readSign (PD_X2_readSign (PD_X2_readSign (PD_u (PD_X2_readSign h) (by decide) (by decide)))))) (by decide) (by decide))
            · split
              · exact (PD_u (PD_X2_readDigit (PD_u (PD_X2_readSign (PD_X2_readSign (PD_X2_readSign (PD_X2_readSign (PD_u (PD_X2_readSign h) (by decide) (by decide)))))) (by decide) (by decide))) (by decide) (by decide))
              · exact (PD_u (PD_X2_readDigit (PD_u (PD_X2_readSign (PD_X2_readSign (PD_X2_readSign (PD_X2_readSign (PD_u (PD_X2_readSign h) (by decide) (by decide)))))) (by decide) (by decide))) (by decide) (by decide))
          · split
            · exact (PD_X2_readBounds (PD_X2_readSign (PD_X2_readSign (PD_X2_readSign (PD_u (PD_X2_readSign h) (by decide) (by decide))))))
            · exact (PD_X2_readBounds (PD_X2_readSign (PD_X2_readSign (PD_X2_readSign (PD_u (PD_X2_readSign h) (by decide) (by decide))))))
        · split
          · exact (PD_u (PD_X2_readNumber (PD_u (PD_X2_readSign (PD_X2_readSign (PD_u (PD_X2_readSign h) (by decide) (by decide)))) (by decide) (by decide))) (by decide) (by decide))
          · exact (PD_u (PD_X2_readNumber (PD_u (PD_X2_readSign (PD_X2_readSign (PD_u (PD_X2_readSign h) (by decide) (by decide)))) (by decide) (by decide))) (by decide) (by decide))
      · split
        · exact (PD_X2_readFrames (PD_X2_readSign (PD_u (PD_X2_readSign h) (by decide) (by decide))))
        · exact (PD_X2_readFrames (PD_X2_readSign (PD_u (PD_X2_readSign h) (by decide) (by decide))))
