def lp_ftZ (tx : Nat → Int32) : Nat → (Nat → Int32) → Int32 → (Nat → Int32)
  | 0, z, _ => z
  | r + 1, z, mo => if mo = 0 then z else if m_X5_readsOrder_r z tx = 0 then m_X5_readsOrder_z z tx else lp_ftZ tx r (m_X5_takesOne_z (m_X5_readsOrder_z z tx) tx (nI 59)) (m_X5_takesOne_r (m_X5_readsOrder_z z tx) tx (nI 59))
def lp_ftT (tx : Nat → Int32) : Nat → (Nat → Int32) → (Nat → Int32) → Int32 → (Nat → Int32)
  | 0, _, td, _ => td
  | r + 1, z, td, mo => if mo = 0 then td else if m_X5_readsOrder_r z tx = 0 then m_X5_readsOrder_td z tx td else lp_ftT tx r (m_X5_takesOne_z (m_X5_readsOrder_z z tx) tx (nI 59)) (m_X5_readsOrder_td z tx td) (m_X5_takesOne_r (m_X5_readsOrder_z z tx) tx (nI 59))
def m_ftend_r (z1 : Nat → Int32) : Int32 := if tn (z1 8) = tn (z1 7) then (-6) else nI (tn (z1 8))
def lp_ftR (tx : Nat → Int32) : Nat → (Nat → Int32) → Int32 → Int32
  | 0, _, _ => (-6)
  | r + 1, z, mo => if mo = 0 then m_ftend_r z else if m_X5_readsOrder_r z tx = 0 then nI (tn (m_X5_readsOrder_z z tx 8)) else lp_ftR tx r (m_X5_takesOne_z (m_X5_readsOrder_z z tx) tx (nI 59)) (m_X5_takesOne_r (m_X5_readsOrder_z z tx) tx (nI 59))
def m_X5_fault_r (z tx : Nat → Int32) : Int32 := lp_ftR tx 81 (upd z 8 (nI 0)) (nI 1)
def m_X5_fault_z (z tx : Nat → Int32) : Nat → Int32 := lp_ftZ tx 81 (upd z 8 (nI 0)) (nI 1)
def m_X5_fault_td (z tx td : Nat → Int32) : Nat → Int32 := lp_ftT tx 81 (upd z 8 (nI 0)) td (nI 1)
set_option maxHeartbeats 4000000 in
set_option maxRecDepth 100000 in
theorem c_X5_fault (l : Launch) (D : va_G) (k : Nat → ClassId) (a : Nat → Nat) (z : Nat → Int32) (f : Nat → Int32) (kp : Nat → Int32) (hi : Nat → Int32) (sl : Nat → Int32) (sv : Nat → Int32) (tx : Nat → Int32) (td : Nat → Int32)  (hp : PT z) : mI l yX5_fault (wsY yX5_fault cX5_fault 2 (some .int)) 4 D k [.ref (a 0)] (refW k a z f kp hi sl sv tx td) (refW k a (m_X5_fault_z z tx) f kp hi sl sv tx (m_X5_fault_td z tx td)) (m_X5_fault_r z tx) := by
  refine mI_intro rfl (Nat.le_of_ble_eq_true rfl) (Or.inl rfl) ?_
  intro p e s m args below meth c A Q ls X hW hl hQ
  have hx := X.hx
  have hb := X.hb
  have hl : lv_has ls 2 [(0, .ref (a 0))] := hl
  have hq_1 := hp.1.2
  have hq_2 := hp.2.2
  refine lv_aload_n hx hb dX5_fault_0 rfl (lv_at hl 0 rfl) ?_
  refine lv_iconst (v := nI 0) hx hb dX5_fault_1 (by decide +kernel) ?_
  refine k_put X hW inG5 rfl tyX5_ok nmX5 8 (by decide) fl_X5_165 rfl rfl 0 rfl rfl rfl (Nat.le_of_ble_eq_true rfl) dX5_fault_2 (w' := refW k a (upd z 8 (nI 0)) f kp hi sl sv tx td) rfl (fun H locs hW => ?_)
  refine lv_iconst (v := nI 1) hx hb dX5_fault_5 (by decide +kernel) ?_
  refine lv_istore_n (lv' := [(1, .int (nI 1)), (0, .ref (a 0))]) hx hb dX5_fault_6 rfl hl (by decide) rfl (fun ls hl => ?_)
  have kx : ∀ (z1 t1 : Nat → Int32) (H : Heap) (locs : List Loc) (ls : Array Slot), PT z1 → m_X5_fault_r z tx = m_ftend_r z1 → m_X5_fault_z z tx = z1 → m_X5_fault_td z tx td = t1 → KW D A s (refW k a z1 f kp hi sl sv tx t1) H locs → lv_has ls 2 [(0, .ref (a 0))] → W p l e (rmD 4) s m args below meth c H locs 0 0 Q (F0 m 33 ls []) := by
    intro z1 t1 H locs ls hp1 hr hu hv hW hl
    have hq_3 := hp1.1.2
    have hq_4 := hp1.2.2
    refine lv_aload_n hx hb dX5_fault_33 rfl (lv_at hl 0 rfl) ?_
    refine k_get X hW inG5 rfl 8 (by decide) fl_X5_165 rfl 0 rfl (v := .int (z1 8)) rfl dX5_fault_34 ?_
    refine k_top (y := nI (tn (z1 8))) (hp1.2.1) ?_
    refine lv_aload_n hx hb dX5_fault_37 rfl (lv_at hl 0 rfl) ?_
    refine k_get X hW inG5 rfl 7 (by decide) fl_X5_136 rfl 0 rfl (v := .int (z1 7)) rfl dX5_fault_38 ?_
    refine k_top (y := nI (tn (z1 7))) (hp1.1.1) ?_
    refine lv_icmp_ne (tgt := 49) hx hb dX5_fault_41 (by decide) (fun c_5 => ?_) (fun c_5 => ?_)
    · have c_5 : ¬ (tn (z1 8) = tn (z1 7)) := fun h => c_5 ((nI_eq (a := tn (z1 8)) (b := tn (z1 7)) (by omega) (by omega)).mpr h)
      refine lv_aload_n hx hb dX5_fault_49 rfl (lv_at hl 0 rfl) ?_
      refine k_get X hW inG5 rfl 8 (by decide) fl_X5_165 rfl 0 rfl (v := .int (z1 8)) rfl dX5_fault_50 ?_
      refine k_top (y := nI (tn (z1 8))) (hp1.2.1) ?_
      exact hQ _ _ _ _ _ _ hW dX5_fault_53 (by rw [hr, m_ftend_r, if_neg c_5]) (by rw [hu, hv])
    · have c_5 : tn (z1 8) = tn (z1 7) := (nI_eq (a := tn (z1 8)) (b := tn (z1 7)) (by omega) (by omega)).mp c_5
      refine lv_bipush (v := (-6)) hx hb dX5_fault_44 (by decide +kernel) ?_
      refine lv_goto (tgt := 53) hx hb dX5_fault_46 (by decide) ?_
      exact hQ _ _ _ _ _ _ hW dX5_fault_53 (by rw [hr, m_ftend_r, if_pos c_5]) (by rw [hu, hv])
  have lp : ∀ (r : Nat) (z' t' : Nat → Int32) (mo : Int32), PT z' → 81 ≤ tn (z' 8) + r → ∀ (H : Heap) (locs : List Loc) (ls : Array Slot), m_X5_fault_r z tx = lp_ftR tx r z' mo → m_X5_fault_z z tx = lp_ftZ tx r z' mo → m_X5_fault_td z tx td = lp_ftT tx r z' t' mo → KW D A s (refW k a z' f kp hi sl sv tx t') H locs → lv_has ls 2 [(1, .int mo), (0, .ref (a 0))] → W p l e (rmD 4) s m args below meth c H locs 0 0 Q (F0 m 7 ls []) := by
    intro r
    induction r with
    | zero =>
      intro z' t' mo hp' hfu H locs ls hr hu hv hW hl
      exact absurd hfu (by have := hp'.2.2; omega)
    | succ r ih =>
      intro z' t' mo hp' hfu H locs ls hr hu hv hW hl
      have hq_6 := hp'.1.2
      have hq_7 := hp'.2.2
      refine lv_iload_n hx hb dX5_fault_7 rfl (lv_at hl 0 rfl) ?_
      refine lv_if_eq (tgt := 33) hx hb dX5_fault_8 (by decide) (fun c_8 => ?_) (fun c_8 => ?_)
      · exact kx z' t' _ _ _ hp' (by rw [hr, lp_ftR, if_pos c_8]) (by rw [hu, lp_ftZ, if_pos c_8]) (by rw [hv, lp_ftT, if_pos c_8]) hW (lv_sub hl [1] rfl)
      · refine lv_aload_n hx hb dX5_fault_11 rfl (lv_at hl 1 rfl) ?_
        obtain ⟨z_9, hz_9⟩ : ∃ zq, m_X5_readsOrder_z z' tx = zq := ⟨_, rfl⟩
        have hP_z_9 : PT z_9 := by rw [← hz_9]; exact PT_readsOrder hp'
        have hq_10 := hP_z_9.1.2
        have hq_11 := hP_z_9.2.2
        obtain ⟨z_12, hz_12⟩ : ∃ zq, m_X5_readsOrder_td z' tx t' = zq := ⟨_, rfl⟩
        obtain ⟨z_13, hz_13⟩ : ∃ zq, m_X5_readsOrder_r z' tx = zq := ⟨_, rfl⟩
        have hM_14 := (c_X5_readsOrder l D k a z' f kp hi sl sv tx t'  hp')
        rw [hz_9, hz_12, hz_13] at hM_14
        refine kVi (As := []) (rest := []) X hW hM_14 yw_X5_readsOrder lk_X5_180 ⟨Nat.le_of_ble_eq_true rfl, Nat.le_of_ble_eq_true rfl⟩ (wr := []) (List.Perm.refl _) (w' := refW k a z_9 f kp hi sl sv tx z_12) (List.Perm.refl _) (k_rcv X hW (ci := 5) (q0 := 0) rfl rfl) rfl hl.1 rfl (Nat.le_of_ble_eq_true rfl) ⟨Nat.zero_le _, Nat.zero_le _⟩ dX5_fault_12 (fun H locs hW => ?_)
        refine lv_if_ne (tgt := 23) hx hb dX5_fault_15 (by decide) (fun c_15 => ?_) (fun c_15 => ?_)
        · refine lv_aload_n hx hb dX5_fault_23 rfl (lv_at hl 1 rfl) ?_
          refine lv_bipush (v := nI 59) hx hb dX5_fault_24 (by decide +kernel) ?_
          obtain ⟨z_16, hz_16⟩ : ∃ zq, m_X5_takesOne_z z_9 tx (nI 59) = zq := ⟨_, rfl⟩
          have hP_z_16 : PT z_16 := by rw [← hz_16]; exact PT_takesOne hP_z_9
          have hq_17 := hP_z_16.1.2
          have hq_18 := hP_z_16.2.2
          obtain ⟨z_19, hz_19⟩ : ∃ zq, m_X5_takesOne_r z_9 tx (nI 59) = zq := ⟨_, rfl⟩
          have hM_20 := (c_X5_takesOne l D k a z_9 f kp hi sl sv tx z_12 (nI 59) hP_z_9)
          rw [hz_16, hz_19] at hM_20
          refine kVi (As := [.int (nI 59)]) (rest := []) X hW hM_20 yw_X5_takesOne lk_X5_174 ⟨Nat.le_of_ble_eq_true rfl, Nat.le_of_ble_eq_true rfl⟩ (wr := []) (List.Perm.refl _) (w' := refW k a z_16 f kp hi sl sv tx z_12) (List.Perm.refl _) (k_rcv X hW (ci := 5) (q0 := 0) rfl rfl) rfl hl.1 rfl (Nat.le_of_ble_eq_true rfl) ⟨Nat.zero_le _, Nat.zero_le _⟩ dX5_fault_26 (fun H locs hW => ?_)
          refine lv_istore_n (lv' := [(1, .int z_19), (0, .ref (a 0))]) hx hb dX5_fault_29 rfl hl (by decide) rfl (fun ls hl => ?_)
          refine lv_goto (tgt := 7) hx hb dX5_fault_30 (by decide) ?_
          subst hz_19
          subst hz_16
          subst hz_13
          subst hz_12
          subst hz_9
          have l1 := RO_lt (tx := tx) hp' c_15
          have l2 := (takesOne_at (z := m_X5_readsOrder_z z' tx) (tx := tx) (c1 := nI 59) (PT_readsOrder hp')).1
          exact ih _ _ _ (PT_takesOne (PT_readsOrder hp')) (by omega) _ _ _ (by rw [hr, lp_ftR, if_neg c_8, if_neg c_15]) (by rw [hu, lp_ftZ, if_neg c_8, if_neg c_15]) (by rw [hv, lp_ftT, if_neg c_8, if_neg c_15]) hW (lv_sub hl [0, 1] rfl)
        · refine lv_aload_n hx hb dX5_fault_18 rfl (lv_at hl 1 rfl) ?_
          refine k_get X hW inG5 rfl 8 (by decide) fl_X5_165 rfl 0 rfl (v := .int (z_9 8)) rfl dX5_fault_19 ?_
          refine k_top (y := nI (tn (z_9 8))) (hP_z_9.2.1) ?_
          exact hQ _ _ _ _ _ _ hW dX5_fault_22 (by subst hz_13; subst hz_12; subst hz_9; rw [hr, lp_ftR, if_neg c_8, if_pos c_15]) (by subst hz_13; subst hz_12; subst hz_9; rw [hu, hv, lp_ftZ, if_neg c_8, if_pos c_15, lp_ftT, if_neg c_8, if_pos c_15])
  exact lp 81 (upd z 8 (nI 0)) td (nI 1) (PT_sp hp (by decide)) (by have e : tn (upd z 8 (nI 0) 8) = 0 := tn_of rfl (by decide); omega) _ _ _ rfl rfl rfl hW (lv_sub hl [0, 1] rfl)
theorem PT_ft (tx : Nat → Int32) : ∀ (r : Nat) (z : Nat → Int32) (mo : Int32), PT z → PT (lp_ftZ tx r z mo) := by
  intro r
  induction r with
  | zero => intro z mo h; exact h
  | succ r ih =>
    intro z mo h
    rw [lp_ftZ]
    by_cases h1 : mo = 0
    · rw [if_pos h1]; exact h
    · rw [if_neg h1]
      by_cases h2 : m_X5_readsOrder_r z tx = 0
      · rw [if_pos h2]; exact PT_readsOrder h
      · rw [if_neg h2]; exact ih _ _ (PT_takesOne (PT_readsOrder h))
theorem PT_fault {z tx : Nat → Int32} (h : PT z) : PT (m_X5_fault_z z tx) := PT_ft tx 81 _ _ (PT_sp h (by decide))
