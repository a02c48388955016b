theorem RF_carries {z f td : Nat → Int32} (h : RF f) : RF (m_X5_carries_f z f td) := by
  rw [m_X5_carries_f]
  by_cases hl : z 9 = nI 102
  · rw [if_pos hl]; exact RF_cf _ _ h
  · rw [if_neg hl]
    by_cases hc_0 : z 9 = nI 116
    · rw [if_pos hc_0]
      by_cases hc_1 : (m_X5_areTicks_r (nI (tn (td 0)))) = 0
      · rw [if_pos hc_1]
        exact h
      · rw [if_neg hc_1]
        by_cases hc_2 : nI 9999 < (f 4) + (nI (tn (td 0)))
        · rw [if_pos hc_2]
          exact h
        · rw [if_neg hc_2]
          exact (RF_ticks _ h)
    · rw [if_neg hc_0]
      by_cases hc_1 : (m_X5_isQueue_r (nI (tn (td 0)))) = 0
      · rw [if_pos hc_1]
        exact h
      · rw [if_neg hc_1]
        by_cases hc_2 : z 9 = nI 109
        · rw [if_pos hc_2]
          exact (RF_ag h (AG_lays (AG.rf _)))
        · rw [if_neg hc_2]
          by_cases hc_3 : (m_X5_areBounds_r (nI (tn (td 1))) (nI (tn (td 2)))) = 0
          · rw [if_pos hc_3]
            exact h
          · rw [if_neg hc_3]
            exact (RF_ag h AG_doBounds)
theorem TD_ft (tx : Nat → Int32) : ∀ (r : Nat) (z td : Nat → Int32) (mo : Int32), PT z → TD td → TD (lp_ftT tx r z td mo) := by
  intro r
  induction r with
  | zero => intro z td mo h ht; exact ht
  | succ r ih =>
    intro z td mo h ht
    rw [lp_ftT]
    by_cases h1 : mo = 0
    · rw [if_pos h1]; exact ht
    · rw [if_neg h1]
      by_cases h2 : m_X5_readsOrder_r z tx = 0
      · rw [if_pos h2]; exact TD_readsOrder ht h
      · rw [if_neg h2]; exact ih _ _ _ (PT_takesOne (PT_readsOrder h)) (TD_readsOrder ht h)
theorem TD_fault {z tx td : Nat → Int32} (h : PT z) (ht : TD td) : TD (m_X5_fault_td z tx td) := TD_ft tx 81 _ _ _ (PT_sp h (by decide)) ht
theorem ftR_mo (tx : Nat → Int32) : ∀ (r : Nat) (z : Nat → Int32) (mo : Int32), ¬ mo = 0 → lp_ftR tx r z mo = lp_ftR tx r z (nI 1) := by
  intro r z mo h
  cases r with
  | zero => rfl
  | succ r =>
    rw [lp_ftR, lp_ftR, if_neg h, if_neg (show ¬ nI 1 = 0 by decide +kernel)]
theorem ftR_ok {tx z : Nat → Int32} {r : Nat} (h : lp_ftR tx (r + 1) z (nI 1) = (-6)) : ¬ m_X5_readsOrder_r z tx = 0 ∧ lp_ftR tx r (m_X5_takesOne_z (m_X5_readsOrder_z z tx) tx (nI 59)) (m_X5_takesOne_r (m_X5_readsOrder_z z tx) tx (nI 59)) = (-6) := by
  rw [lp_ftR, if_neg (show ¬ nI 1 = 0 by decide +kernel)] at h
  by_cases h2 : m_X5_readsOrder_r z tx = 0
  · rw [if_pos h2] at h
    exact absurd h (k_neg (tn_lt _) (by decide))
  · rw [if_neg h2] at h
    exact ⟨h2, h⟩
def lp_cy (tx : Nat → Int32) : Nat → (Nat → Int32) → (Nat → Int32) → (Nat → Int32) → Int32 → Int32 → (Nat → Int32) × (Nat → Int32) × (Nat → Int32) × Int32
  | 0, z, td, f, n, _ => (z, td, f, n)
  | r + 1, z, td, f, n, mo => if mo = 0 then (z, td, f, n) else
    if m_X5_carries_r (m_X5_readsOrder_z z tx) f (m_X5_readsOrder_td z tx td) < 0 then lp_cy tx r (m_X5_readsOrder_z z tx) (m_X5_readsOrder_td z tx td) (m_X5_carries_f (m_X5_readsOrder_z z tx) f (m_X5_readsOrder_td z tx td)) (n + (m_X5_carries_r (m_X5_readsOrder_z z tx) f (m_X5_readsOrder_td z tx td) + nI 1000)) (nI 0)
    else if m_X5_takesOne_r (m_X5_readsOrder_z z tx) tx (nI 59) = 0 then lp_cy tx r (m_X5_takesOne_z (m_X5_readsOrder_z z tx) tx (nI 59)) (m_X5_readsOrder_td z tx td) (m_X5_carries_f (m_X5_readsOrder_z z tx) f (m_X5_readsOrder_td z tx td)) (n + m_X5_carries_r (m_X5_readsOrder_z z tx) f (m_X5_readsOrder_td z tx td)) (nI 0)
    else lp_cy tx r (m_X5_takesOne_z (m_X5_readsOrder_z z tx) tx (nI 59)) (m_X5_readsOrder_td z tx td) (m_X5_carries_f (m_X5_readsOrder_z z tx) f (m_X5_readsOrder_td z tx td)) (n + m_X5_carries_r (m_X5_readsOrder_z z tx) f (m_X5_readsOrder_td z tx td)) (nI 1)
theorem changes_7 (z : Nat → Int32) : m_X5_changes_z z 7 = z 7 := by
  rw [m_X5_changes_z]; split
  · exact (pk_un (by decide)).trans (pk_un (by decide))
  · exact pk_un (by decide)
theorem PT_changes {z : Nat → Int32} (h : PT z) : PT (m_X5_changes_z z) := by
  rw [m_X5_changes_z]; split
  · exact PT_u (PT_u h (by decide) (by decide)) (by decide) (by decide)
  · exact PT_u h (by decide) (by decide)
/-- what the carrying out starts from, behind the fault that was sought *)-/
def cy_z (z tx : Nat → Int32) : Nat → Int32 := upd (m_X5_changes_z (m_X5_fault_z z tx)) 8 (nI 0)
def cy_all (z f tx td : Nat → Int32) : (Nat → Int32) × (Nat → Int32) × (Nat → Int32) × Int32 := lp_cy tx 81 (cy_z z tx) (m_X5_fault_td z tx td) f (nI 0) (nI 1)
def m_X5_carryOut_r (z f tx td : Nat → Int32) : Int32 := if m_X5_fault_r z tx = (-6) then (cy_all z f tx td).2.2.2 else (-3)
def m_X5_carryOut_z (z f tx td : Nat → Int32) : Nat → Int32 := if m_X5_fault_r z tx = (-6) then upd (cy_all z f tx td).1 7 (nI 0) else m_X5_fault_z z tx
def m_X5_carryOut_f (z f tx td : Nat → Int32) : Nat → Int32 := if m_X5_fault_r z tx = (-6) then (cy_all z f tx td).2.2.1 else f
def m_X5_carryOut_td (z f tx td : Nat → Int32) : Nat → Int32 := if m_X5_fault_r z tx = (-6) then (cy_all z f tx td).2.1 else m_X5_fault_td z tx td
def m_X5_carryOut_hi (z f hi tx : Nat → Int32) : Nat → Int32 := if m_X5_fault_r z tx = (-6) then m_X5_changes_hi (m_X5_fault_z z tx) f hi else hi
set_option maxHeartbeats 4000000 in
set_option maxRecDepth 100000 in
theorem c_X5_carryOut (l : Launch) (D : va_G) (k : Nat → ClassId) (a : Nat → Nat) (z : Nat → Int32) (f : Nat → Int32) (kp : Nat → Int32) (hi : Nat → Int32) (sl : Nat → Int32) (sv : Nat → Int32) (tx : Nat → Int32) (td : Nat → Int32)  (hp : PT z) (hR : RF f) (hT : TD td) (hz : z 3 = nI (tn (z 3))) (hz6 : tn (z 3) ≤ 6) (h3 : m_X5_fault_z z tx 3 = z 3) (h7 : m_X5_fault_z z tx 7 = z 7) (hfc : ∀ z' : Nat → Int32, z' 7 = z 7 → m_X5_fault_r z' tx = m_X5_fault_r z tx) : mI l yX5_carryOut (wsY yX5_carryOut cX5_carryOut 5 (some .int)) 8 D k [.ref (a 0)] (refW k a z f kp hi sl sv tx td) (refW k a (m_X5_carryOut_z z f tx td) (m_X5_carryOut_f z f tx td) kp (m_X5_carryOut_hi z f hi tx) sl sv tx (m_X5_carryOut_td z f tx td)) (m_X5_carryOut_r z f tx td) := by
  refine mI_intro rfl (Nat.le_of_ble_eq_true rfl) (Or.inl rfl) ?_
  intro p e s m args below meth c A Q ls X hW hl hQ
  have hx := X.hx
  have hb := X.hb
  have hl : lv_has ls 5 [(0, .ref (a 0))] := hl
  refine lv_aload_n hx hb dX5_carryOut_0 rfl (lv_at hl 0 rfl) ?_
  obtain ⟨z_1, hz_1⟩ : ∃ zq, m_X5_fault_z z tx = zq := ⟨_, rfl⟩
  have hP_z_1 : PT z_1 := by rw [← hz_1]; exact PT_fault hp
  have hq_2 := hP_z_1.1.2
  have hq_3 := hP_z_1.2.2
  obtain ⟨z_4, hz_4⟩ : ∃ zq, m_X5_fault_td z tx td = zq := ⟨_, rfl⟩
  have hT_z_4 : TD z_4 := by rw [← hz_4]; exact TD_fault hp hT
  obtain ⟨z_5, hz_5⟩ : ∃ zq, m_X5_fault_r z tx = zq := ⟨_, rfl⟩
  have hM_6 := (c_X5_fault l D k a z f kp hi sl sv tx td  hp)
  rw [hz_1, hz_4, hz_5] at hM_6
  refine kVi (As := []) (rest := []) X hW hM_6 yw_X5_fault lk_X5_184 ⟨Nat.le_of_ble_eq_true rfl, Nat.le_of_ble_eq_true rfl⟩ (wr := []) (List.Perm.refl _) (w' := refW k a z_1 f kp hi sl sv tx z_4) (List.Perm.refl _) (k_rcv X hW (ci := 5) (q0 := 0) rfl rfl) rfl hl.1 rfl (Nat.le_of_ble_eq_true rfl) ⟨Nat.zero_le _, Nat.zero_le _⟩ dX5_carryOut_1 (fun H locs hW => ?_)
  refine lv_bipush (v := (-6)) hx hb dX5_carryOut_4 (by decide +kernel) ?_
  refine lv_icmp_eq (tgt := 12) hx hb dX5_carryOut_6 (by decide) (fun c_7 => ?_) (fun c_7 => ?_)
  · refine lv_aload_n hx hb dX5_carryOut_12 rfl (lv_at hl 0 rfl) ?_
    obtain ⟨z_8, hz_8⟩ : ∃ zq, m_X5_changes_z z_1 = zq := ⟨_, rfl⟩
    have hP_z_8 : PT z_8 := by rw [← hz_8]; exact PT_changes hP_z_1
    have hq_9 := hP_z_8.1.2
    have hq_10 := hP_z_8.2.2
    obtain ⟨z_11, hz_11⟩ : ∃ zq, m_X5_changes_hi z_1 f hi = zq := ⟨_, rfl⟩
    have hM_12 := (c_X5_changes l D k a z_1 f kp hi sl sv tx z_4  (by rw [← hz_1, h3]; exact hz) (by rw [← hz_1, h3]; exact hz6))
    rw [hz_8, hz_11] at hM_12
    refine kVv (As := []) (rest := []) X hW hM_12 yw_X5_changes lk_X5_103 ⟨Nat.le_of_ble_eq_true rfl, Nat.le_of_ble_eq_true rfl⟩ (wr := []) (List.Perm.refl _) (w' := refW k a z_8 f kp z_11 sl sv tx z_4) (List.Perm.refl _) (k_rcv X hW (ci := 5) (q0 := 0) rfl rfl) rfl hl.1 rfl (Nat.le_of_ble_eq_true rfl) ⟨Nat.zero_le _, Nat.zero_le _⟩ dX5_carryOut_13 (fun H locs hW => ?_)
    refine lv_aload_n hx hb dX5_carryOut_16 rfl (lv_at hl 0 rfl) ?_
    refine lv_iconst (v := nI 0) hx hb dX5_carryOut_17 (by decide +kernel) ?_
    refine k_put X hW inG5 rfl tyX5_ok nmX5 8 (by decide) fl_X5_165 rfl rfl 0 rfl rfl rfl (Nat.le_of_ble_eq_true rfl) dX5_carryOut_18 (w' := refW k a (upd z_8 8 (nI 0)) f kp z_11 sl sv tx z_4) rfl (fun H locs hW => ?_)
    refine lv_iconst (v := nI 0) hx hb dX5_carryOut_21 (by decide +kernel) ?_
    refine lv_istore_n (lv' := [(1, .int (nI 0)), (0, .ref (a 0))]) hx hb dX5_carryOut_22 rfl hl (by decide) rfl (fun ls hl => ?_)
    refine lv_iconst (v := nI 1) hx hb dX5_carryOut_23 (by decide +kernel) ?_
    refine lv_istore_n (lv' := [(2, .int (nI 1)), (1, .int (nI 0)), (0, .ref (a 0))]) hx hb dX5_carryOut_24 rfl hl (by decide) rfl (fun ls hl => ?_)
    have kx : ∀ (z1 t1 f1 : Nat → Int32) (n : Int32) (H : Heap) (locs : List Loc) (ls : Array Slot), lp_cy tx 81 (upd z_8 8 (nI 0)) z_4 f (nI 0) (nI 1) = (z1, t1, f1, n) → KW D A s (refW k a z1 f1 kp z_11 sl sv tx t1) H locs → lv_has ls 5 [(1, .int n), (0, .ref (a 0))] → W p l e (rmD 8) s m args below meth c H locs 0 0 Q (F0 m 82 ls []) := by
      intro z1 t1 f1 n H locs ls hcy hW hl
      refine lv_aload_n hx hb dX5_carryOut_82 rfl (lv_at hl 1 rfl) ?_
      refine lv_iconst (v := nI 0) hx hb dX5_carryOut_83 (by decide +kernel) ?_
      refine k_put X hW inG5 rfl tyX5_ok nmX5 7 (by decide) fl_X5_136 rfl rfl 0 rfl rfl rfl (Nat.le_of_ble_eq_true rfl) dX5_carryOut_84 (w' := refW k a (upd z1 7 (nI 0)) f1 kp z_11 sl sv tx t1) rfl (fun H locs hW => ?_)
      refine lv_iload_n hx hb dX5_carryOut_87 rfl (lv_at hl 0 rfl) ?_
      exact hQ _ _ _ _ _ _ hW dX5_carryOut_88 (by subst hz_11; subst hz_8; subst hz_5; subst hz_4; subst hz_1; rw [m_X5_carryOut_r, if_pos c_7, cy_all, cy_z, hcy]) (by subst hz_11; subst hz_8; subst hz_5; subst hz_4; subst hz_1; rw [m_X5_carryOut_z, if_pos c_7, m_X5_carryOut_f, if_pos c_7, m_X5_carryOut_td, if_pos c_7, m_X5_carryOut_hi, if_pos c_7, cy_all, cy_z, hcy])
    have lp : ∀ (r : Nat) (z' t' f' : Nat → Int32) (n mo : Int32), PT z' → TD t' → RF f' → mo = nI 0 ∨ (mo = nI 1 ∧ lp_ftR tx r z' (nI 1) = (-6)) → 81 ≤ tn (z' 8) + r → ∀ (H : Heap) (locs : List Loc) (ls : Array Slot), lp_cy tx 81 (upd z_8 8 (nI 0)) z_4 f (nI 0) (nI 1) = lp_cy tx r z' t' f' n mo → KW D A s (refW k a z' f' kp z_11 sl sv tx t') H locs → lv_has ls 5 [(2, .int mo), (1, .int n), (0, .ref (a 0))] → W p l e (rmD 8) s m args below meth c H locs 0 0 Q (F0 m 25 ls []) := by
      intro r
      induction r with
      | zero =>
        intro z' t' f' n mo hp' hT' hR' hok hfu H locs ls hu hW hl
        exact absurd hfu (by have := hp'.2.2; omega)
      | succ r ih =>
        intro z' t' f' n mo hp' hT' hR' hok hfu H locs ls hu hW hl
        refine lv_iload_n hx hb dX5_carryOut_25 rfl (lv_at hl 0 rfl) ?_
        refine lv_if_eq (tgt := 82) hx hb dX5_carryOut_26 (by decide) (fun c_13 => ?_) (fun c_13 => ?_)
        · exact kx z' t' f' n _ _ _ (by rw [hu, lp_cy, if_pos c_13]) hW (lv_sub hl [1, 2] rfl)
        · have hok1 : lp_ftR tx (r + 1) z' (nI 1) = (-6) := by
            rcases hok with e | ⟨_, e⟩
            · exact absurd (by rw [e]; rfl) c_13
            · exact e
          refine lv_aload_n hx hb dX5_carryOut_29 rfl (lv_at hl 2 rfl) ?_
          obtain ⟨z_14, hz_14⟩ : ∃ zq, m_X5_readsOrder_z z' tx = zq := ⟨_, rfl⟩
          have hP_z_14 : PT z_14 := by rw [← hz_14]; exact PT_readsOrder hp'
          have hq_15 := hP_z_14.1.2
          have hq_16 := hP_z_14.2.2
          obtain ⟨z_17, hz_17⟩ : ∃ zq, m_X5_readsOrder_td z' tx t' = zq := ⟨_, rfl⟩
          have hT_z_17 : TD z_17 := by rw [← hz_17]; exact TD_readsOrder hT' hp'
          obtain ⟨z_18, hz_18⟩ : ∃ zq, m_X5_readsOrder_r z' tx = zq := ⟨_, rfl⟩
          have hM_19 := (c_X5_readsOrder l D k a z' f' kp z_11 sl sv tx t'  hp')
          rw [hz_14, hz_17, hz_18] at hM_19
          refine kVi (As := []) (rest := []) X hW hM_19 yw_X5_readsOrder lk_X5_180 ⟨Nat.le_of_ble_eq_true rfl, Nat.le_of_ble_eq_true rfl⟩ (wr := []) (List.Perm.refl _) (w' := refW k a z_14 f' kp z_11 sl sv tx z_17) (List.Perm.refl _) (k_rcv X hW (ci := 5) (q0 := 0) rfl rfl) rfl hl.1 rfl (Nat.le_of_ble_eq_true rfl) ⟨Nat.zero_le _, Nat.zero_le _⟩ dX5_carryOut_30 (fun H locs hW => ?_)
          refine lv_istore_n (lv' := [(3, .int z_18), (2, .int mo), (1, .int n), (0, .ref (a 0))]) hx hb dX5_carryOut_33 rfl hl (by decide) rfl (fun ls hl => ?_)
          refine lv_aload_n hx hb dX5_carryOut_34 rfl (lv_at hl 3 rfl) ?_
          obtain ⟨z_20, hz_20⟩ : ∃ zq, m_X5_carries_f z_14 f' z_17 = zq := ⟨_, rfl⟩
          have hR_z_20 : RF z_20 := by rw [← hz_20]; exact RF_carries hR'
          have hf_z_20 := hR_z_20.1
          have hq_21 := hf_z_20.1.2
          have hq_22 := hf_z_20.2.1.2
          have hq_23 := hf_z_20.2.2.1.2
          obtain ⟨z_24, hz_24⟩ : ∃ zq, m_X5_carries_r z_14 f' z_17 = zq := ⟨_, rfl⟩
          have hM_25 := (c_X5_carries l D k a z_14 f' kp z_11 sl sv tx z_17  hR' hT_z_17)
          rw [hz_20, hz_24] at hM_25
          refine kVi (As := []) (rest := []) X hW hM_25 yw_X5_carries lk_X5_187 ⟨Nat.le_of_ble_eq_true rfl, Nat.le_of_ble_eq_true rfl⟩ (wr := []) (List.Perm.refl _) (w' := refW k a z_14 z_20 kp z_11 sl sv tx z_17) (List.Perm.refl _) (k_rcv X hW (ci := 5) (q0 := 0) rfl rfl) rfl hl.1 rfl (Nat.le_of_ble_eq_true rfl) ⟨Nat.zero_le _, Nat.zero_le _⟩ dX5_carryOut_35 (fun H locs hW => ?_)
          refine lv_istore (lv' := [(4, .int z_24), (3, .int z_18), (2, .int mo), (1, .int n), (0, .ref (a 0))]) hx hb dX5_carryOut_38 hl (by decide) rfl (fun ls hl => ?_)
          refine lv_iload_n hx hb dX5_carryOut_40 rfl (lv_at hl 3 rfl) ?_
          refine lv_iload hx hb dX5_carryOut_41 (lv_at hl 0 rfl) ?_
          refine lv_if_ge (tgt := 55) hx hb dX5_carryOut_43 (by decide) (fun c_26 => ?_) (fun c_26 => ?_)
          · have c_26 : ¬ (z_24 < 0) := k_gel c_26
            refine lv_iload hx hb dX5_carryOut_55 (lv_at hl 0 rfl) ?_
            refine lv_iadd hx hb dX5_carryOut_57 ?_
            refine lv_istore_n (lv' := [(1, .int (n + z_24)), (4, .int z_24), (3, .int z_18), (2, .int mo), (0, .ref (a 0))]) hx hb dX5_carryOut_58 rfl hl (by decide) rfl (fun ls hl => ?_)
            refine lv_iload hx hb dX5_carryOut_59 (lv_at hl 1 rfl) ?_
            refine lv_if_lt (tgt := 77) hx hb dX5_carryOut_61 (by decide) (fun c_27 => ?_) (fun c_27 => ?_)
            · exact absurd c_27 c_26
            · refine lv_aload_n hx hb dX5_carryOut_64 rfl (lv_at hl 4 rfl) ?_
              refine lv_bipush (v := nI 59) hx hb dX5_carryOut_65 (by decide +kernel) ?_
              obtain ⟨z_28, hz_28⟩ : ∃ zq, m_X5_takesOne_z z_14 tx (nI 59) = zq := ⟨_, rfl⟩
              have hP_z_28 : PT z_28 := by rw [← hz_28]; exact PT_takesOne hP_z_14
              have hq_29 := hP_z_28.1.2
              have hq_30 := hP_z_28.2.2
              obtain ⟨z_31, hz_31⟩ : ∃ zq, m_X5_takesOne_r z_14 tx (nI 59) = zq := ⟨_, rfl⟩
              have hM_32 := (c_X5_takesOne l D k a z_14 z_20 kp z_11 sl sv tx z_17 (nI 59) hP_z_14)
              rw [hz_28, hz_31] at hM_32
              refine kVi (As := [.int (nI 59)]) (rest := []) X hW hM_32 yw_X5_takesOne lk_X5_174 ⟨Nat.le_of_ble_eq_true rfl, Nat.le_of_ble_eq_true rfl⟩ (wr := []) (List.Perm.refl _) (w' := refW k a z_28 z_20 kp z_11 sl sv tx z_17) (List.Perm.refl _) (k_rcv X hW (ci := 5) (q0 := 0) rfl rfl) rfl hl.1 rfl (Nat.le_of_ble_eq_true rfl) ⟨Nat.zero_le _, Nat.zero_le _⟩ dX5_carryOut_67 (fun H locs hW => ?_)
              refine lv_if_eq (tgt := 77) hx hb dX5_carryOut_70 (by decide) (fun c_33 => ?_) (fun c_33 => ?_)
              · refine lv_iconst (v := nI 0) hx hb dX5_carryOut_77 (by decide +kernel) ?_
                refine lv_istore_n (lv' := [(2, .int (nI 0)), (1, .int (n + z_24)), (4, .int z_24), (3, .int z_18), (0, .ref (a 0))]) hx hb dX5_carryOut_78 rfl hl (by decide) rfl (fun ls hl => ?_)
                refine lv_goto (tgt := 25) hx hb dX5_carryOut_79 (by decide) ?_
                subst hz_31
                subst hz_28
                subst hz_24
                subst hz_20
                subst hz_18
                subst hz_17
                subst hz_14
                obtain ⟨hro, hnx⟩ := ftR_ok hok1
                have l1 := RO_lt (tx := tx) hp' hro
                have l2 := (takesOne_at (z := (m_X5_readsOrder_z z' tx)) (tx := tx) (c1 := nI 59) (PT_readsOrder hp')).1
                exact ih _ _ _ _ _ (PT_takesOne (PT_readsOrder hp')) (TD_readsOrder hT' hp') (RF_carries hR') (Or.inl rfl) (by omega) _ _ _ (by rw [hu, lp_cy, if_neg c_13, if_neg c_26, if_pos c_33]) hW (lv_sub hl [0, 1, 4] rfl)
              · refine lv_iconst (v := nI 1) hx hb dX5_carryOut_73 (by decide +kernel) ?_
                refine lv_goto (tgt := 78) hx hb dX5_carryOut_74 (by decide) ?_
                refine lv_istore_n (lv' := [(2, .int (nI 1)), (1, .int (n + z_24)), (4, .int z_24), (3, .int z_18), (0, .ref (a 0))]) hx hb dX5_carryOut_78 rfl hl (by decide) rfl (fun ls hl => ?_)
                refine lv_goto (tgt := 25) hx hb dX5_carryOut_79 (by decide) ?_
                subst hz_31
                subst hz_28
                subst hz_24
                subst hz_20
                subst hz_18
                subst hz_17
                subst hz_14
                obtain ⟨hro, hnx⟩ := ftR_ok hok1
                have l1 := RO_lt (tx := tx) hp' hro
                have l2 := (takesOne_at (z := (m_X5_readsOrder_z z' tx)) (tx := tx) (c1 := nI 59) (PT_readsOrder hp')).1
                exact ih _ _ _ _ _ (PT_takesOne (PT_readsOrder hp')) (TD_readsOrder hT' hp') (RF_carries hR') (Or.inr ⟨rfl, (ftR_mo tx _ _ _ c_33).symm.trans hnx⟩) (by omega) _ _ _ (by rw [hu, lp_cy, if_neg c_13, if_neg c_26, if_neg c_33]) hW (lv_sub hl [0, 1, 4] rfl)
          · have c_26 : z_24 < 0 := k_ngel c_26
            refine lv_iload hx hb dX5_carryOut_46 (lv_at hl 0 rfl) ?_
            refine lv_sipush (v := nI 1000) hx hb dX5_carryOut_48 (by decide +kernel) ?_
            refine lv_iadd hx hb dX5_carryOut_51 ?_
            refine lv_goto (tgt := 57) hx hb dX5_carryOut_52 (by decide) ?_
            refine lv_iadd hx hb dX5_carryOut_57 ?_
            refine lv_istore_n (lv' := [(1, .int (n + (z_24 + (nI 1000)))), (4, .int z_24), (3, .int z_18), (2, .int mo), (0, .ref (a 0))]) hx hb dX5_carryOut_58 rfl hl (by decide) rfl (fun ls hl => ?_)
            refine lv_iload hx hb dX5_carryOut_59 (lv_at hl 1 rfl) ?_
            refine lv_if_lt (tgt := 77) hx hb dX5_carryOut_61 (by decide) (fun c_34 => ?_) (fun c_34 => ?_)
            · refine lv_iconst (v := nI 0) hx hb dX5_carryOut_77 (by decide +kernel) ?_
              refine lv_istore_n (lv' := [(2, .int (nI 0)), (1, .int (n + (z_24 + (nI 1000)))), (4, .int z_24), (3, .int z_18), (0, .ref (a 0))]) hx hb dX5_carryOut_78 rfl hl (by decide) rfl (fun ls hl => ?_)
              refine lv_goto (tgt := 25) hx hb dX5_carryOut_79 (by decide) ?_
              subst hz_24
              subst hz_20
              subst hz_18
              subst hz_17
              subst hz_14
              obtain ⟨hro, hnx⟩ := ftR_ok hok1
              have l1 := RO_lt (tx := tx) hp' hro
              have l2 := (takesOne_at (z := (m_X5_readsOrder_z z' tx)) (tx := tx) (c1 := nI 59) (PT_readsOrder hp')).1
              exact ih _ _ _ _ _ (PT_readsOrder hp') (TD_readsOrder hT' hp') (RF_carries hR') (Or.inl rfl) (by omega) _ _ _ (by rw [hu, lp_cy, if_neg c_13, if_pos c_26]) hW (lv_sub hl [0, 1, 4] rfl)
            · exact absurd c_26 c_34
    have hok0 : lp_ftR tx 81 (upd z_8 8 (nI 0)) (nI 1) = (-6) := by
      have e := hfc z_8 (by subst hz_11; subst hz_8; subst hz_5; subst hz_4; subst hz_1; exact (changes_7 _).trans h7)
      have e2 : m_X5_fault_r z tx = (-6) := by subst hz_11; subst hz_8; subst hz_5; subst hz_4; subst hz_1; exact c_7
      rw [e2] at e; exact e
    exact lp 81 _ _ f (nI 0) (nI 1) (PT_sp hP_z_8 (by decide)) hT_z_4 hR (Or.inr ⟨rfl, hok0⟩) (by have e : tn (upd z_8 8 (nI 0) 8) = 0 := tn_of rfl (by decide); omega) _ _ _ rfl hW (lv_sub hl [0, 1, 2] rfl)
  · refine lv_bipush (v := (-3)) hx hb dX5_carryOut_9 (by decide +kernel) ?_
    exact hQ _ _ _ _ _ _ hW dX5_carryOut_11 (by subst hz_5; subst hz_4; subst hz_1; rw [m_X5_carryOut_r, if_neg c_7]) (by subst hz_5; subst hz_4; subst hz_1; rw [m_X5_carryOut_z, if_neg c_7, m_X5_carryOut_f, if_neg c_7, m_X5_carryOut_td, if_neg c_7, m_X5_carryOut_hi, if_neg c_7])
