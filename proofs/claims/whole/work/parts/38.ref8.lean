theorem RF_ag {f g : Nat → Int32} (h : RF f) (a : AG f g) : RF g := by
  obtain ⟨hw, row, hi⟩ := h
  exact ⟨WF_ag hw a, row, RI_ag hi a⟩
theorem RF_doCome {f : Nat → Int32} {fl : Nat} (h : RF f) (hca : tn (f 5) < 400) : RF (m_X5_doCome_f f fl) := by
  obtain ⟨hw, row, hi⟩ := h
  refine ⟨WF_doCome hw hca, row, ?_⟩
  have hl := hi.le
  have key : ∀ (g : Nat → Int32) (x : Int32), AG f g → RI (upd g 5 x) row := by
    intro g x a
    refine ⟨(pk_un (by decide)).trans ((a 6 (by decide)).trans hi.1), fun i y hy => ?_, hi.2.2⟩
    have := (List.getElem?_eq_some_iff.mp hy).1
    exact (pk_un (by omega)).trans ((a (7 + i) (by omega)).trans (hi.2.1 i y hy))
  rw [m_X5_doCome_f]
  split
  · exact RI_ag (key _ _ (AG_u (AG_u (AG_u (AG_u (AG.rf f) (by omega)) (by omega)) (by omega)) (by omega))) (AG_more (AG.rf _))
  · exact RI_ag (key _ _ (AG_u (AG_u (AG_u (AG_u (AG.rf f) (by omega)) (by omega)) (by omega)) (by omega))) (AG_more (AG.rf _))
theorem doCome_5 {f : Nat → Int32} {fl : Nat} : m_X5_doCome_f f fl 5 = nI (tn (f 5) + 1) := by
  rw [m_X5_doCome_f]
  split
  · exact (AG_more (AG.rf _) 5 (by decide)).trans pk_us
  · exact (AG_more (AG.rf _) 5 (by decide)).trans pk_us
/-- the settings and how many came -/
def AS (f g : Nat → Int32) : Prop := ∀ j, j < 4 ∨ j = 5 → g j = f j
theorem AS.rf (f : Nat → Int32) : AS f f := fun _ _ => rfl
theorem AS.tr {f g h : Nat → Int32} (a : AS f g) (b : AS g h) : AS f h := fun j hj => (b j hj).trans (a j hj)
theorem AS_ag {f g h : Nat → Int32} (a : AS f g) (b : AG g h) : AS f h := fun j hj => (b j (by omega)).trans (a j hj)
theorem AS_4 {f g : Nat → Int32} {x : Int32} (a : AS f g) : AS f (upd g 4 x) := fun j hj => (pk_un (by omega)).trans (a j hj)
theorem AS_call {f g : Nat → Int32} {q : Nat} (a : AS f g) : AS f (m_X5_doCall_f g q) := by
  intro j hj
  rw [m_X5_doCall_f]
  exact (AG_lays (AG_more (AG.rf _)) j (by omega)).trans ((pk_un (by omega)).trans ((pk_un (by omega)).trans (a j hj)))
theorem AS_polls {f g : Nat → Int32} (a : AS f g) : AS f (m_X5_polls_f g) := by
  intro j hj
  have e : lp_shift (tn (g 6) - 1) 1 (lp_polls (tn (g 7)) (tn (g 1)) g) j = g j := by
    rw [shift_at _ _ _ _ (Nat.le_refl 1), if_neg (by omega)]
    exact AG_polls _ _ g j (by omega)
  rw [m_X5_polls_f, m_pollsrest_f2]
  split
  · exact (pk_un (by omega)).trans (e.trans (a j hj))
  · exact (AG_leaves j (by omega)).trans ((pk_un (by omega)).trans ((pk_un (by omega)).trans (e.trans (a j hj))))
theorem AS_tick {f : Nat → Int32} : AS f (m_X5_tick_f f) := by
  rw [m_X5_tick_f]
  by_cases hc_0 : tn (f 6) ≤ 0
  · rw [if_pos hc_0]
    by_cases hc_1 : (m_X5_reason_r f 0) = 0
    · rw [if_pos hc_1]
      by_cases hc_2 : (m_X5_reason_r (m_X5_doCall_f f 0) 1) = 0
      · rw [if_pos hc_2]
        by_cases hc_3 : (m_X5_reason_r (m_X5_doCall_f (m_X5_doCall_f f 0) 1) 2) = 0
        · rw [if_pos hc_3]
          exact (AS_4 (AS_call (AS_call (AS_call (AS.rf f)))))
        · rw [if_neg hc_3]
          exact (AS_4 (AS_call (AS_call (AS.rf f))))
      · rw [if_neg hc_2]
        by_cases hc_3 : (m_X5_reason_r (m_X5_doCall_f f 0) 2) = 0
        · rw [if_pos hc_3]
          exact (AS_4 (AS_call (AS_call (AS.rf f))))
        · rw [if_neg hc_3]
          exact (AS_4 (AS_call (AS.rf f)))
    · rw [if_neg hc_1]
      by_cases hc_2 : (m_X5_reason_r f 1) = 0
      · rw [if_pos hc_2]
        by_cases hc_3 : (m_X5_reason_r (m_X5_doCall_f f 1) 2) = 0
        · rw [if_pos hc_3]
          exact (AS_4 (AS_call (AS_call (AS.rf f))))
        · rw [if_neg hc_3]
          exact (AS_4 (AS_call (AS.rf f)))
      · rw [if_neg hc_2]
        by_cases hc_3 : (m_X5_reason_r f 2) = 0
        · rw [if_pos hc_3]
          exact (AS_4 (AS_call (AS.rf f)))
        · rw [if_neg hc_3]
          exact (AS_4 (AS.rf f))
  · rw [if_neg hc_0]
    by_cases hc_1 : (m_X5_reason_r (m_X5_polls_f f) 0) = 0
    · rw [if_pos hc_1]
      by_cases hc_2 : (m_X5_reason_r (m_X5_doCall_f (m_X5_polls_f f) 0) 1) = 0
      · rw [if_pos hc_2]
        by_cases hc_3 : (m_X5_reason_r (m_X5_doCall_f (m_X5_doCall_f (m_X5_polls_f f) 0) 1) 2) = 0
        · rw [if_pos hc_3]
          exact (AS_4 (AS_call (AS_call (AS_call (AS_polls (AS.rf f))))))
        · rw [if_neg hc_3]
          exact (AS_4 (AS_call (AS_call (AS_polls (AS.rf f)))))
      · rw [if_neg hc_2]
        by_cases hc_3 : (m_X5_reason_r (m_X5_doCall_f (m_X5_polls_f f) 0) 2) = 0
        · rw [if_pos hc_3]
          exact (AS_4 (AS_call (AS_call (AS_polls (AS.rf f)))))
        · rw [if_neg hc_3]
          exact (AS_4 (AS_call (AS_polls (AS.rf f))))
    · rw [if_neg hc_1]
      by_cases hc_2 : (m_X5_reason_r (m_X5_polls_f f) 1) = 0
      · rw [if_pos hc_2]
        by_cases hc_3 : (m_X5_reason_r (m_X5_doCall_f (m_X5_polls_f f) 1) 2) = 0
        · rw [if_pos hc_3]
          exact (AS_4 (AS_call (AS_call (AS_polls (AS.rf f)))))
        · rw [if_neg hc_3]
          exact (AS_4 (AS_call (AS_polls (AS.rf f))))
      · rw [if_neg hc_2]
        by_cases hc_3 : (m_X5_reason_r (m_X5_polls_f f) 2) = 0
        · rw [if_pos hc_3]
          exact (AS_4 (AS_call (AS_polls (AS.rf f))))
        · rw [if_neg hc_3]
          exact (AS_4 (AS_polls (AS.rf f)))
theorem AS_ticks : ∀ (r : Nat) (f : Nat → Int32), AS f (lp_ticks r f) := by
  intro r
  induction r with
  | zero => intro f; exact AS.rf f
  | succ r ih => intro f; exact AS_tick.tr (ih _)
theorem RF_empties {f : Nat → Int32} (h : RF f) : RF (m_X5_empties_f f) := by
  obtain ⟨⟨w5, w6, w1, w7⟩, -⟩ := h
  have key : ∀ g : Nat → Int32, AG f g → RF (upd (upd (upd g 4 (nI 0)) 5 (nI 0)) 6 (nI 0)) := by
    intro g a
    have e1 : upd (upd (upd g 4 (nI 0)) 5 (nI 0)) 6 (nI 0) 1 = f 1 := (pk_un (by decide)).trans ((pk_un (by decide)).trans ((pk_un (by decide)).trans (a 1 (by decide))))
    have e5 : upd (upd (upd g 4 (nI 0)) 5 (nI 0)) 6 (nI 0) 5 = nI 0 := (pk_un (by decide)).trans pk_us
    have e6 : upd (upd (upd g 4 (nI 0)) 5 (nI 0)) 6 (nI 0) 6 = nI 0 := pk_us
    refine ⟨?_, [], e6, fun i x hx => by simp at hx, List.nodup_nil, fun x hx => by simp at hx⟩
    unfold WF
    rw [e1, e5, e6, tn_of rfl (by decide)]
    refine ⟨⟨rfl, by decide⟩, ⟨rfl, by decide⟩, w1, fun j hj => ?_⟩
    have e7 : upd (upd (upd g 4 (nI 0)) 5 (nI 0)) 6 (nI 0) (7 + j) = f (7 + j) := (pk_un (by omega)).trans ((pk_un (by omega)).trans ((pk_un (by omega)).trans (a (7 + j) (by omega))))
    rw [e7]; exact w7 j hj
  rw [m_X5_empties_f]
  refine key _ ?_
  repeat (first | exact AG.rf _ | refine AG_lays ?_)
theorem empties_5 {f : Nat → Int32} : m_X5_empties_f f 5 = nI 0 := by
  rw [m_X5_empties_f]
  exact (pk_un (by decide)).trans pk_us
def lp_tkN (fr : Nat) : Nat → (Nat → Int32) → Nat
  | 0, _ => 0
  | r + 1, f => if m_X5_frameAt_r f fr 2 = 0 then 1 + lp_tkN fr r (m_X5_tick_f f) else 0
def m_tkrest_r (n : Nat) : Int32 := if n ≤ 500 then nI n else (-6)
def m_X5_takenIn_r (f : Nat → Int32) (x : Int32) : Int32 := if m_X5_isFrame_r f x = 0 then (-1) else if m_X5_frameAt_r f (tn x) 2 = 0 then m_tkrest_r (0 + lp_tkN (tn x) 501 f) else (-5)
def m_X5_takenIn_kp (f kp : Nat → Int32) (x : Int32) : Nat → Int32 := if m_X5_isFrame_r f x = 0 then kp else if m_X5_frameAt_r f (tn x) 2 = 0 then f else kp
set_option maxHeartbeats 4000000 in
set_option maxRecDepth 100000 in
theorem c_X5_takenIn (l : Launch) (D : va_G) (k : Nat → ClassId) (a : Nat → Nat) (z : Nat → Int32) (f : Nat → Int32) (kp : Nat → Int32) (hi : Nat → Int32) (sl : Nat → Int32) (sv : Nat → Int32) (tx : Nat → Int32) (td : Nat → Int32) (x : Int32) (hR : RF f) : mI l yX5_takenIn (wsY yX5_takenIn cX5_takenIn 3 (some .int)) 6 D k [.ref (a 0), .int x] (refW k a z f kp hi sl sv tx td) (refW k a z f (m_X5_takenIn_kp f kp x) hi sl sv tx td) (m_X5_takenIn_r f x) := by
  refine mI_intro rfl (Nat.le_of_ble_eq_true rfl) (Or.inl rfl) ?_
  intro p e s m args below meth c A Q ls X hW hl hQ
  have hx := X.hx
  have hb := X.hb
  have hl : lv_has ls 3 [(0, .ref (a 0)), (1, .int x)] := hl
  have hf := hR.1
  have hq_1 := hf.1.2
  have hq_2 := hf.2.1.2
  have hq_3 := hf.2.2.1.2
  refine lv_aload_n hx hb dX5_takenIn_0 rfl (lv_at hl 0 rfl) ?_
  refine lv_iload_n hx hb dX5_takenIn_1 rfl (lv_at hl 1 rfl) ?_
  obtain ⟨z_4, hz_4⟩ : ∃ zq, m_X5_isFrame_r f x = zq := ⟨_, rfl⟩
  have hM_5 := (c_X5_isFrame l D k a z f kp hi sl sv tx td x hf)
  rw [hz_4] at hM_5
  refine kVi (As := [.int x]) (rest := []) X hW hM_5 yw_X5_isFrame lk_X5_126 ⟨Nat.le_of_ble_eq_true rfl, Nat.le_of_ble_eq_true rfl⟩ (wr := []) (List.Perm.refl _) (w' := refW k a z f kp hi sl sv tx td) (List.Perm.refl _) (k_rcv X hW (ci := 5) (q0 := 0) rfl rfl) rfl hl.1 rfl (Nat.le_of_ble_eq_true rfl) ⟨Nat.zero_le _, Nat.zero_le _⟩ dX5_takenIn_2 (fun H locs hW => ?_)
  refine lv_if_ne (tgt := 10) hx hb dX5_takenIn_5 (by decide) (fun c_6 => ?_) (fun c_6 => ?_)
  · obtain ⟨hs_7, ht_7⟩ := in_f (x := x) hf.1.2 (by have e : m_X5_isFrame_r f x = z_4 := hz_4; rw [m_X5_isFrame_r] at e; rw [e]; exact c_6)
    have hu_7 := hf.1.2
    refine lv_aload_n hx hb dX5_takenIn_10 rfl (lv_at hl 0 rfl) ?_
    refine lv_iload_n hx hb dX5_takenIn_11 rfl (lv_at hl 1 rfl) ?_
    refine k_top (y := nI (tn x)) (hs_7) ?_
    refine lv_iconst (v := nI 2) hx hb dX5_takenIn_12 (by decide +kernel) ?_
    obtain ⟨z_8, hz_8⟩ : ∃ zq, m_X5_frameAt_r f (tn x) 2 = zq := ⟨_, rfl⟩
    have hM_9 := (c_X5_frameAt l D k a z f kp hi sl sv tx td (tn x) 2 (by first | decide | omega) (by first | decide | omega))
    rw [hz_8] at hM_9
    refine kVi (As := [.int (nI (tn x)), .int (nI 2)]) (rest := []) X hW hM_9 yw_X5_frameAt lk_X5_45 ⟨Nat.le_of_ble_eq_true rfl, Nat.le_of_ble_eq_true rfl⟩ (wr := []) (List.Perm.refl _) (w' := refW k a z f kp hi sl sv tx td) (List.Perm.refl _) (k_rcv X hW (ci := 5) (q0 := 0) rfl rfl) rfl hl.1 rfl (Nat.le_of_ble_eq_true rfl) ⟨Nat.zero_le _, Nat.zero_le _⟩ dX5_takenIn_13 (fun H locs hW => ?_)
    refine lv_if_eq (tgt := 22) hx hb dX5_takenIn_16 (by decide) (fun c_10 => ?_) (fun c_10 => ?_)
    · refine lv_aload_n hx hb dX5_takenIn_22 rfl (lv_at hl 0 rfl) ?_
      refine kVv (As := []) (rest := []) X hW (c_X5_keeps2 l D k a z f kp hi sl sv tx td) yw_X5_keeps lk_X5_139 ⟨Nat.le_of_ble_eq_true rfl, Nat.le_of_ble_eq_true rfl⟩ (wr := []) (List.Perm.refl _) (w' := refW k a z f f hi sl sv tx td) (List.Perm.refl _) (k_rcv X hW (ci := 5) (q0 := 0) rfl rfl) rfl hl.1 rfl (Nat.le_of_ble_eq_true rfl) ⟨Nat.zero_le _, Nat.zero_le _⟩ dX5_takenIn_23 (fun H locs hW => ?_)
      refine lv_iconst (v := nI 0) hx hb dX5_takenIn_26 (by decide +kernel) ?_
      refine lv_istore_n (lv' := [(2, .int (nI 0)), (0, .ref (a 0)), (1, .int x)]) hx hb dX5_takenIn_27 rfl hl (by decide) rfl (fun ls hl => ?_)
      have kx : ∀ (f1 : Nat → Int32) (n : Nat) (H : Heap) (locs : List Loc) (ls : Array Slot), n ≤ 501 → m_X5_takenIn_r f x = m_tkrest_r n → KW D A s (refW k a z f1 f hi sl sv tx td) H locs → lv_has ls 3 [(2, .int (nI n)), (0, .ref (a 0))] → W p l e (rmD 6) s m args below meth c H locs 0 0 Q (F0 m 54 ls []) := by
        intro f1 n H locs ls hn5 hr hW hl
        have hu : m_X5_takenIn_kp f kp x = f := by subst hz_8; subst hz_4; rw [m_X5_takenIn_kp, if_neg c_6, if_pos c_10]
        refine lv_aload_n hx hb dX5_takenIn_54 rfl (lv_at hl 1 rfl) ?_
        refine kVv (As := []) (rest := []) X hW (c_X5_comesBack2 l D k a z f1 f hi sl sv tx td) yw_X5_comesBack lk_X5_142 ⟨Nat.le_of_ble_eq_true rfl, Nat.le_of_ble_eq_true rfl⟩ (wr := []) (List.Perm.refl _) (w' := refW k a z f f hi sl sv tx td) (List.Perm.refl _) (k_rcv X hW (ci := 5) (q0 := 0) rfl rfl) rfl hl.1 rfl (Nat.le_of_ble_eq_true rfl) ⟨Nat.zero_le _, Nat.zero_le _⟩ dX5_takenIn_55 (fun H locs hW => ?_)
        refine lv_iload_n hx hb dX5_takenIn_58 rfl (lv_at hl 0 rfl) ?_
        refine lv_sipush (v := nI 500) hx hb dX5_takenIn_59 (by decide +kernel) ?_
        refine lv_icmp_le (tgt := 70) hx hb dX5_takenIn_62 (by decide) (fun c_11 => ?_) (fun c_11 => ?_)
        · have c_11 : n ≤ 500 := (nI_leI (a := n) (b := 500) (by omega) (by omega)).mp c_11
          refine lv_iload_n hx hb dX5_takenIn_70 rfl (lv_at hl 0 rfl) ?_
          exact hQ _ _ _ _ _ _ hW dX5_takenIn_71 (by subst hz_8; subst hz_4; rw [hr, m_tkrest_r, if_pos c_11]) (by rw [hu])
        · have c_11 : ¬ (n ≤ 500) := fun h => c_11 ((nI_leI (a := n) (b := 500) (by omega) (by omega)).mpr h)
          refine lv_bipush (v := (-6)) hx hb dX5_takenIn_65 (by decide +kernel) ?_
          refine lv_goto (tgt := 71) hx hb dX5_takenIn_67 (by decide) ?_
          exact hQ _ _ _ _ _ _ hW dX5_takenIn_71 (by subst hz_8; subst hz_4; rw [hr, m_tkrest_r, if_neg c_11]) (by rw [hu])
      have lp : ∀ (r : Nat) (f' : Nat → Int32) (n : Nat), RF f' → ∀ (H : Heap) (locs : List Loc) (ls : Array Slot), n + r = 501 → (∀ y, y = n + lp_tkN (tn x) r f' → m_X5_takenIn_r f x = m_tkrest_r y) → KW D A s (refW k a z f' f hi sl sv tx td) H locs → lv_has ls 3 [(2, .int (nI n)), (0, .ref (a 0)), (1, .int x)] → W p l e (rmD 6) s m args below meth c H locs 0 0 Q (F0 m 28 ls []) := by
        intro r
        induction r with
        | zero =>
          intro f' n hR' H locs ls hir hk hW hl
          refine lv_aload_n hx hb dX5_takenIn_28 rfl (lv_at hl 1 rfl) ?_
          refine lv_iload_n hx hb dX5_takenIn_29 rfl (lv_at hl 2 rfl) ?_
          refine k_top (y := nI (tn x)) (hs_7) ?_
          refine lv_iconst (v := nI 2) hx hb dX5_takenIn_30 (by decide +kernel) ?_
          obtain ⟨z_12, hz_12⟩ : ∃ zq, m_X5_frameAt_r f' (tn x) 2 = zq := ⟨_, rfl⟩
          have hM_13 := (c_X5_frameAt l D k a z f' f hi sl sv tx td (tn x) 2 (by first | decide | omega) (by first | decide | omega))
          rw [hz_12] at hM_13
          refine kVi (As := [.int (nI (tn x)), .int (nI 2)]) (rest := []) X hW hM_13 yw_X5_frameAt lk_X5_45 ⟨Nat.le_of_ble_eq_true rfl, Nat.le_of_ble_eq_true rfl⟩ (wr := []) (List.Perm.refl _) (w' := refW k a z f' f hi sl sv tx td) (List.Perm.refl _) (k_rcv X hW (ci := 5) (q0 := 0) rfl rfl) rfl hl.1 rfl (Nat.le_of_ble_eq_true rfl) ⟨Nat.zero_le _, Nat.zero_le _⟩ dX5_takenIn_31 (fun H locs hW => ?_)
          refine lv_if_ne (tgt := 54) hx hb dX5_takenIn_34 (by decide) (fun c_14 => ?_) (fun c_14 => ?_)
          · subst hz_12
            have hr := hk n (by first | rfl | (rw [lp_tkN, if_neg c_14]; rfl))
            exact kx f' n _ _ _ (by omega) hr hW (lv_sub hl [0, 1] rfl)
          · refine lv_iload_n hx hb dX5_takenIn_37 rfl (lv_at hl 0 rfl) ?_
            refine lv_sipush (v := nI 500) hx hb dX5_takenIn_38 (by decide +kernel) ?_
            refine lv_icmp_gt (tgt := 54) hx hb dX5_takenIn_41 (by decide) (fun c_15 => ?_) (fun c_15 => ?_)
            · have c_15 : 500 < n := (nI_ltI (a := 500) (b := n) (by omega) (by omega)).mp c_15
              subst hz_12
              have hr := hk n (rfl)
              exact kx f' n _ _ _ (by omega) hr hW (lv_sub hl [0, 1] rfl)
            · have c_15 : ¬ (500 < n) := fun h => c_15 ((nI_ltI (a := 500) (b := n) (by omega) (by omega)).mpr h)
              omega
        | succ r ih =>
          intro f' n hR' H locs ls hir hk hW hl
          refine lv_aload_n hx hb dX5_takenIn_28 rfl (lv_at hl 1 rfl) ?_
          refine lv_iload_n hx hb dX5_takenIn_29 rfl (lv_at hl 2 rfl) ?_
          refine k_top (y := nI (tn x)) (hs_7) ?_
          refine lv_iconst (v := nI 2) hx hb dX5_takenIn_30 (by decide +kernel) ?_
          obtain ⟨z_16, hz_16⟩ : ∃ zq, m_X5_frameAt_r f' (tn x) 2 = zq := ⟨_, rfl⟩
          have hM_17 := (c_X5_frameAt l D k a z f' f hi sl sv tx td (tn x) 2 (by first | decide | omega) (by first | decide | omega))
          rw [hz_16] at hM_17
          refine kVi (As := [.int (nI (tn x)), .int (nI 2)]) (rest := []) X hW hM_17 yw_X5_frameAt lk_X5_45 ⟨Nat.le_of_ble_eq_true rfl, Nat.le_of_ble_eq_true rfl⟩ (wr := []) (List.Perm.refl _) (w' := refW k a z f' f hi sl sv tx td) (List.Perm.refl _) (k_rcv X hW (ci := 5) (q0 := 0) rfl rfl) rfl hl.1 rfl (Nat.le_of_ble_eq_true rfl) ⟨Nat.zero_le _, Nat.zero_le _⟩ dX5_takenIn_31 (fun H locs hW => ?_)
          refine lv_if_ne (tgt := 54) hx hb dX5_takenIn_34 (by decide) (fun c_18 => ?_) (fun c_18 => ?_)
          · subst hz_16
            have hr := hk n (by first | rfl | (rw [lp_tkN, if_neg c_18]; rfl))
            exact kx f' n _ _ _ (by omega) hr hW (lv_sub hl [0, 1] rfl)
          · refine lv_iload_n hx hb dX5_takenIn_37 rfl (lv_at hl 0 rfl) ?_
            refine lv_sipush (v := nI 500) hx hb dX5_takenIn_38 (by decide +kernel) ?_
            refine lv_icmp_gt (tgt := 54) hx hb dX5_takenIn_41 (by decide) (fun c_19 => ?_) (fun c_19 => ?_)
            · have c_19 : 500 < n := (nI_ltI (a := 500) (b := n) (by omega) (by omega)).mp c_19
              omega
            · have c_19 : ¬ (500 < n) := fun h => c_19 ((nI_ltI (a := 500) (b := n) (by omega) (by omega)).mpr h)
              refine lv_aload_n hx hb dX5_takenIn_44 rfl (lv_at hl 1 rfl) ?_
              obtain ⟨z_20, hz_20⟩ : ∃ zq, m_X5_tick_f f' = zq := ⟨_, rfl⟩
              have hR_z_20 : RF z_20 := by rw [← hz_20]; exact RF_tick hR'
              have hf_z_20 := hR_z_20.1
              have hq_21 := hf_z_20.1.2
              have hq_22 := hf_z_20.2.1.2
              have hq_23 := hf_z_20.2.2.1.2
              have hM_24 := (c_X5_tick l D k a z f' f hi sl sv tx td  hR')
              rw [hz_20] at hM_24
              refine kVv (As := []) (rest := []) X hW hM_24 yw_X5_tick lk_X5_89 ⟨Nat.le_of_ble_eq_true rfl, Nat.le_of_ble_eq_true rfl⟩ (wr := []) (List.Perm.refl _) (w' := refW k a z z_20 f hi sl sv tx td) (List.Perm.refl _) (k_rcv X hW (ci := 5) (q0 := 0) rfl rfl) rfl hl.1 rfl (Nat.le_of_ble_eq_true rfl) ⟨Nat.zero_le _, Nat.zero_le _⟩ dX5_takenIn_45 (fun H locs hW => ?_)
              refine lv_iinc (v := nI (n + 1)) (lv' := [(2, .int (nI (n + 1))), (0, .ref (a 0)), (1, .int x)]) hx hb dX5_takenIn_48 hl (k := 0) rfl (k_inc _) (by decide) rfl (fun ls hl => ?_)
              refine lv_goto (tgt := 28) hx hb dX5_takenIn_51 (by decide) ?_
              subst hz_20
              subst hz_16
              exact ih _ (n + 1) (RF_tick hR') _ _ _ (by omega) (fun y hy => hk y (by rw [hy, lp_tkN, if_pos c_18, Nat.add_assoc])) hW (lv_sub hl [0, 1, 2] rfl)
      exact lp 501 f 0 hR _ _ _ (by omega) (fun y hy => by subst hy; subst hz_8; subst hz_4; rw [m_X5_takenIn_r, if_neg c_6, if_pos c_10]) hW (lv_sub hl [0, 1, 2] rfl)
    · refine lv_bipush (v := (-5)) hx hb dX5_takenIn_19 (by decide +kernel) ?_
      exact hQ _ _ _ _ _ _ hW dX5_takenIn_21 (by subst hz_8; subst hz_4; rw [m_X5_takenIn_r, if_neg c_6, if_neg c_10]) (by subst hz_8; subst hz_4; rw [m_X5_takenIn_kp, if_neg c_6, if_neg c_10])
  · refine lv_iconst (v := (-1)) hx hb dX5_takenIn_8 (by decide +kernel) ?_
    exact hQ _ _ _ _ _ _ hW dX5_takenIn_9 (by subst hz_4; rw [m_X5_takenIn_r, if_pos c_6]) (by subst hz_4; rw [m_X5_takenIn_kp, if_pos c_6])
def m_X5_would_r (f : Nat → Int32) (x : Int32) (w : Int32) : Int32 := if (m_X5_areTicks_r x) = 0 then (-2) else if (m_X5_in_r ((w).toInt64) 0 3) = 0 then (-2) else if w = 0 then (m_X5_ticks_r f (tn x)) else if w = nI 1 then (m_X5_allOf_r (m_X5_ticks_f f (tn x)) 4) - (m_X5_allOf_r f 4) else if w = nI 2 then (m_X5_allOf_r (m_X5_ticks_f f (tn x)) 7) - (m_X5_allOf_r f 7) else (m_X5_inRings_r (m_X5_ticks_f f (tn x)))
def m_X5_would_kp (f : Nat → Int32) (kp : Nat → Int32) (x : Int32) (w : Int32) : Nat → Int32 := if (m_X5_areTicks_r x) = 0 then kp else if (m_X5_in_r ((w).toInt64) 0 3) = 0 then kp else if w = 0 then f else if w = nI 1 then f else if w = nI 2 then f else f
set_option maxHeartbeats 4000000 in
set_option maxRecDepth 100000 in
theorem c_X5_would (l : Launch) (D : va_G) (k : Nat → ClassId) (a : Nat → Nat) (z : Nat → Int32) (f : Nat → Int32) (kp : Nat → Int32) (hi : Nat → Int32) (sl : Nat → Int32) (sv : Nat → Int32) (tx : Nat → Int32) (td : Nat → Int32) (x : Int32) (w : Int32) (hR : RF f) : mI l yX5_would (wsY yX5_would cX5_would 7 (some .int)) 7 D k [.ref (a 0), .int x, .int w] (refW k a z f kp hi sl sv tx td) (refW k a z f (m_X5_would_kp f kp x w) hi sl sv tx td) (m_X5_would_r f x w) := by
  refine mI_intro rfl (Nat.le_of_ble_eq_true rfl) (Or.inl rfl) ?_
  intro p e s m args below meth c A Q ls X hW hl hQ
  have hx := X.hx
  have hb := X.hb
  have hl : lv_has ls 7 [(0, .ref (a 0)), (1, .int x), (2, .int w)] := hl
  refine lv_iload_n hx hb dX5_would_0 rfl (lv_at hl 1 rfl) ?_
  obtain ⟨z_1, hz_1⟩ : ∃ zq, m_X5_areTicks_r x = zq := ⟨_, rfl⟩
  have hM_2 := (c_X5_areTicks l D k x)
  rw [hz_1] at hM_2
  refine kSi (As := [.int x]) (rest := []) X hW hM_2 yw_X5_areTicks lk_X5_120 ⟨Nat.le_of_ble_eq_true rfl, Nat.le_of_ble_eq_true rfl⟩ rfl hl.1 rfl (Nat.le_of_ble_eq_true rfl) ⟨Nat.zero_le _, Nat.zero_le _⟩ dX5_would_1 (fun H locs hW => ?_)
  refine lv_if_eq (tgt := 19) hx hb dX5_would_4 (by decide) (fun c_3 => ?_) (fun c_3 => ?_)
  · refine lv_bipush (v := (-2)) hx hb dX5_would_19 (by decide +kernel) ?_
    exact hQ _ _ _ _ _ _ hW dX5_would_21 (by subst hz_1; rw [m_X5_would_r, if_pos c_3]) (by subst hz_1; rw [m_X5_would_kp, if_pos c_3])
  · refine lv_iload_n hx hb dX5_would_7 rfl (lv_at hl 2 rfl) ?_
    refine lv_i2l hx hb dX5_would_8 rfl ?_
    refine lv_lconst (v := 0) hx hb dX5_would_9 (by decide +kernel) ?_
    refine lv_ldc2 hx hb X.hown (X.wd kl_X5_145) dX5_would_10 ?_
    obtain ⟨z_4, hz_4⟩ : ∃ zq, m_X5_in_r ((w).toInt64) 0 3 = zq := ⟨_, rfl⟩
    have hM_5 := (c_X5_in l D k ((w).toInt64) 0 3)
    rw [hz_4] at hM_5
    refine kSi (As := [.long ((w).toInt64), .long 0, .long 3]) (rest := []) X hW hM_5 yw_X5_in lk_X5_41 ⟨Nat.le_of_ble_eq_true rfl, Nat.le_of_ble_eq_true rfl⟩ rfl hl.1 rfl (Nat.le_of_ble_eq_true rfl) ⟨Nat.zero_le _, Nat.zero_le _⟩ dX5_would_13 (fun H locs hW => ?_)
    refine lv_if_ne (tgt := 22) hx hb dX5_would_16 (by decide) (fun c_6 => ?_) (fun c_6 => ?_)
    · refine lv_aload_n hx hb dX5_would_22 rfl (lv_at hl 0 rfl) ?_
      refine kVv (As := []) (rest := []) X hW (c_X5_keeps2 l D k a z f kp hi sl sv tx td) yw_X5_keeps lk_X5_139 ⟨Nat.le_of_ble_eq_true rfl, Nat.le_of_ble_eq_true rfl⟩ (wr := []) (List.Perm.refl _) (w' := refW k a z f f hi sl sv tx td) (List.Perm.refl _) (k_rcv X hW (ci := 5) (q0 := 0) rfl rfl) rfl hl.1 rfl (Nat.le_of_ble_eq_true rfl) ⟨Nat.zero_le _, Nat.zero_le _⟩ dX5_would_23 (fun H locs hW => ?_)
      refine lv_aload_n hx hb dX5_would_26 rfl (lv_at hl 0 rfl) ?_
      refine lv_iconst (v := nI 4) hx hb dX5_would_27 (by decide +kernel) ?_
      obtain ⟨z_7, hz_7⟩ : ∃ zq, m_X5_allOf_r f 4 = zq := ⟨_, rfl⟩
      have hM_8 := (c_X5_allOf l D k a z f f hi sl sv tx td 4 (by first | decide | omega))
      rw [hz_7] at hM_8
      refine kVi (As := [.int (nI 4)]) (rest := []) X hW hM_8 yw_X5_allOf lk_X5_86 ⟨Nat.le_of_ble_eq_true rfl, Nat.le_of_ble_eq_true rfl⟩ (wr := []) (List.Perm.refl _) (w' := refW k a z f f hi sl sv tx td) (List.Perm.refl _) (k_rcv X hW (ci := 5) (q0 := 0) rfl rfl) rfl hl.1 rfl (Nat.le_of_ble_eq_true rfl) ⟨Nat.zero_le _, Nat.zero_le _⟩ dX5_would_28 (fun H locs hW => ?_)
      refine lv_istore_n (lv' := [(3, .int z_7), (0, .ref (a 0)), (1, .int x), (2, .int w)]) hx hb dX5_would_31 rfl hl (by decide) rfl (fun ls hl => ?_)
      refine lv_aload_n hx hb dX5_would_32 rfl (lv_at hl 1 rfl) ?_
      refine lv_bipush (v := nI 7) hx hb dX5_would_33 (by decide +kernel) ?_
      obtain ⟨z_9, hz_9⟩ : ∃ zq, m_X5_allOf_r f 7 = zq := ⟨_, rfl⟩
      have hM_10 := (c_X5_allOf l D k a z f f hi sl sv tx td 7 (by first | decide | omega))
      rw [hz_9] at hM_10
      refine kVi (As := [.int (nI 7)]) (rest := []) X hW hM_10 yw_X5_allOf lk_X5_86 ⟨Nat.le_of_ble_eq_true rfl, Nat.le_of_ble_eq_true rfl⟩ (wr := []) (List.Perm.refl _) (w' := refW k a z f f hi sl sv tx td) (List.Perm.refl _) (k_rcv X hW (ci := 5) (q0 := 0) rfl rfl) rfl hl.1 rfl (Nat.le_of_ble_eq_true rfl) ⟨Nat.zero_le _, Nat.zero_le _⟩ dX5_would_35 (fun H locs hW => ?_)
      refine lv_istore (lv' := [(4, .int z_9), (3, .int z_7), (0, .ref (a 0)), (1, .int x), (2, .int w)]) hx hb dX5_would_38 hl (by decide) rfl (fun ls hl => ?_)
      obtain ⟨hs_11, ht_11, hv_11⟩ := at_n (x := x) (by rw [hz_1]; exact c_3)
      refine lv_aload_n hx hb dX5_would_40 rfl (lv_at hl 2 rfl) ?_
      refine lv_iload_n hx hb dX5_would_41 rfl (lv_at hl 3 rfl) ?_
      refine k_top (y := nI (tn x)) (hs_11) ?_
      obtain ⟨z_12, hz_12⟩ : ∃ zq, m_X5_ticks_f f (tn x) = zq := ⟨_, rfl⟩
      have hR_z_12 : RF z_12 := by rw [← hz_12]; exact RF_ticks _ hR
      have hf_z_12 := hR_z_12.1
      have hq_13 := hf_z_12.1.2
      have hq_14 := hf_z_12.2.1.2
      have hq_15 := hf_z_12.2.2.1.2
      obtain ⟨z_16, hz_16⟩ : ∃ zq, m_X5_ticks_r f (tn x) = zq := ⟨_, rfl⟩
      have hM_17 := (c_X5_ticks l D k a z f f hi sl sv tx td (tn x) hR (by omega))
      rw [hz_12, hz_16] at hM_17
      refine kVi (As := [.int (nI (tn x))]) (rest := []) X hW hM_17 yw_X5_ticks lk_X5_123 ⟨Nat.le_of_ble_eq_true rfl, Nat.le_of_ble_eq_true rfl⟩ (wr := []) (List.Perm.refl _) (w' := refW k a z z_12 f hi sl sv tx td) (List.Perm.refl _) (k_rcv X hW (ci := 5) (q0 := 0) rfl rfl) rfl hl.1 rfl (Nat.le_of_ble_eq_true rfl) ⟨Nat.zero_le _, Nat.zero_le _⟩ dX5_would_42 (fun H locs hW => ?_)
      refine lv_istore (lv' := [(5, .int z_16), (4, .int z_9), (3, .int z_7), (0, .ref (a 0)), (1, .int x), (2, .int w)]) hx hb dX5_would_45 hl (by decide) rfl (fun ls hl => ?_)
      refine lv_iload_n hx hb dX5_would_47 rfl (lv_at hl 5 rfl) ?_
      refine lv_if_ne (tgt := 56) hx hb dX5_would_48 (by decide) (fun c_18 => ?_) (fun c_18 => ?_)
      · refine lv_iload_n hx hb dX5_would_56 rfl (lv_at hl 5 rfl) ?_
        refine lv_iconst (v := nI 1) hx hb dX5_would_57 (by decide +kernel) ?_
        refine lv_icmp_ne (tgt := 71) hx hb dX5_would_58 (by decide) (fun c_19 => ?_) (fun c_19 => ?_)
        · refine lv_iload_n hx hb dX5_would_71 rfl (lv_at hl 5 rfl) ?_
          refine lv_iconst (v := nI 2) hx hb dX5_would_72 (by decide +kernel) ?_
          refine lv_icmp_ne (tgt := 88) hx hb dX5_would_73 (by decide) (fun c_20 => ?_) (fun c_20 => ?_)
          · refine lv_aload_n hx hb dX5_would_88 rfl (lv_at hl 3 rfl) ?_
            obtain ⟨z_21, hz_21⟩ : ∃ zq, m_X5_inRings_r z_12 = zq := ⟨_, rfl⟩
            have hM_22 := (c_X5_inRings l D k a z z_12 f hi sl sv tx td  hf_z_12)
            rw [hz_21] at hM_22
            refine kVi (As := []) (rest := []) X hW hM_22 yw_X5_inRings lk_X5_132 ⟨Nat.le_of_ble_eq_true rfl, Nat.le_of_ble_eq_true rfl⟩ (wr := []) (List.Perm.refl _) (w' := refW k a z z_12 f hi sl sv tx td) (List.Perm.refl _) (k_rcv X hW (ci := 5) (q0 := 0) rfl rfl) rfl hl.1 rfl (Nat.le_of_ble_eq_true rfl) ⟨Nat.zero_le _, Nat.zero_le _⟩ dX5_would_89 (fun H locs hW => ?_)
            refine lv_istore (lv' := [(6, .int z_21), (5, .int z_16), (4, .int z_9), (3, .int z_7), (0, .ref (a 0)), (1, .int x), (2, .int w)]) hx hb dX5_would_92 hl (by decide) rfl (fun ls hl => ?_)
            refine lv_aload_n hx hb dX5_would_94 rfl (lv_at hl 4 rfl) ?_
            refine kVv (As := []) (rest := []) X hW (c_X5_comesBack2 l D k a z z_12 f hi sl sv tx td) yw_X5_comesBack lk_X5_142 ⟨Nat.le_of_ble_eq_true rfl, Nat.le_of_ble_eq_true rfl⟩ (wr := []) (List.Perm.refl _) (w' := refW k a z f f hi sl sv tx td) (List.Perm.refl _) (k_rcv X hW (ci := 5) (q0 := 0) rfl rfl) rfl hl.1 rfl (Nat.le_of_ble_eq_true rfl) ⟨Nat.zero_le _, Nat.zero_le _⟩ dX5_would_95 (fun H locs hW => ?_)
            refine lv_iload hx hb dX5_would_98 (lv_at hl 0 rfl) ?_
            exact hQ _ _ _ _ _ _ hW dX5_would_100 (by subst hz_21; subst hz_16; subst hz_12; subst hz_9; subst hz_7; subst hz_4; subst hz_1; rw [m_X5_would_r, if_neg c_3, if_neg c_6, if_neg c_18, if_neg c_19, if_neg c_20]) (by subst hz_21; subst hz_16; subst hz_12; subst hz_9; subst hz_7; subst hz_4; subst hz_1; rw [m_X5_would_kp, if_neg c_3, if_neg c_6, if_neg c_18, if_neg c_19, if_neg c_20])
          · refine lv_aload_n hx hb dX5_would_76 rfl (lv_at hl 3 rfl) ?_
            refine lv_bipush (v := nI 7) hx hb dX5_would_77 (by decide +kernel) ?_
            obtain ⟨z_23, hz_23⟩ : ∃ zq, m_X5_allOf_r z_12 7 = zq := ⟨_, rfl⟩
            have hM_24 := (c_X5_allOf l D k a z z_12 f hi sl sv tx td 7 (by first | decide | omega))
            rw [hz_23] at hM_24
            refine kVi (As := [.int (nI 7)]) (rest := []) X hW hM_24 yw_X5_allOf lk_X5_86 ⟨Nat.le_of_ble_eq_true rfl, Nat.le_of_ble_eq_true rfl⟩ (wr := []) (List.Perm.refl _) (w' := refW k a z z_12 f hi sl sv tx td) (List.Perm.refl _) (k_rcv X hW (ci := 5) (q0 := 0) rfl rfl) rfl hl.1 rfl (Nat.le_of_ble_eq_true rfl) ⟨Nat.zero_le _, Nat.zero_le _⟩ dX5_would_79 (fun H locs hW => ?_)
            refine lv_iload hx hb dX5_would_82 (lv_at hl 1 rfl) ?_
            refine lv_isub hx hb dX5_would_84 ?_
            refine lv_goto (tgt := 92) hx hb dX5_would_85 (by decide) ?_
            refine lv_istore (lv' := [(6, .int (z_23 - z_9)), (5, .int z_16), (4, .int z_9), (3, .int z_7), (0, .ref (a 0)), (1, .int x), (2, .int w)]) hx hb dX5_would_92 hl (by decide) rfl (fun ls hl => ?_)
            refine lv_aload_n hx hb dX5_would_94 rfl (lv_at hl 4 rfl) ?_
            refine kVv (As := []) (rest := []) X hW (c_X5_comesBack2 l D k a z z_12 f hi sl sv tx td) yw_X5_comesBack lk_X5_142 ⟨Nat.le_of_ble_eq_true rfl, Nat.le_of_ble_eq_true rfl⟩ (wr := []) (List.Perm.refl _) (w' := refW k a z f f hi sl sv tx td) (List.Perm.refl _) (k_rcv X hW (ci := 5) (q0 := 0) rfl rfl) rfl hl.1 rfl (Nat.le_of_ble_eq_true rfl) ⟨Nat.zero_le _, Nat.zero_le _⟩ dX5_would_95 (fun H locs hW => ?_)
            refine lv_iload hx hb dX5_would_98 (lv_at hl 0 rfl) ?_
            exact hQ _ _ _ _ _ _ hW dX5_would_100 (by subst hz_23; subst hz_16; subst hz_12; subst hz_9; subst hz_7; subst hz_4; subst hz_1; rw [m_X5_would_r, if_neg c_3, if_neg c_6, if_neg c_18, if_neg c_19, if_pos c_20]) (by subst hz_23; subst hz_16; subst hz_12; subst hz_9; subst hz_7; subst hz_4; subst hz_1; rw [m_X5_would_kp, if_neg c_3, if_neg c_6, if_neg c_18, if_neg c_19, if_pos c_20])
        · refine lv_aload_n hx hb dX5_would_61 rfl (lv_at hl 3 rfl) ?_
          refine lv_iconst (v := nI 4) hx hb dX5_would_62 (by decide +kernel) ?_
          obtain ⟨z_25, hz_25⟩ : ∃ zq, m_X5_allOf_r z_12 4 = zq := ⟨_, rfl⟩
          have hM_26 := (c_X5_allOf l D k a z z_12 f hi sl sv tx td 4 (by first | decide | omega))
          rw [hz_25] at hM_26
          refine kVi (As := [.int (nI 4)]) (rest := []) X hW hM_26 yw_X5_allOf lk_X5_86 ⟨Nat.le_of_ble_eq_true rfl, Nat.le_of_ble_eq_true rfl⟩ (wr := []) (List.Perm.refl _) (w' := refW k a z z_12 f hi sl sv tx td) (List.Perm.refl _) (k_rcv X hW (ci := 5) (q0 := 0) rfl rfl) rfl hl.1 rfl (Nat.le_of_ble_eq_true rfl) ⟨Nat.zero_le _, Nat.zero_le _⟩ dX5_would_63 (fun H locs hW => ?_)
          refine lv_iload_n hx hb dX5_would_66 rfl (lv_at hl 2 rfl) ?_
          refine lv_isub hx hb dX5_would_67 ?_
          refine lv_goto (tgt := 92) hx hb dX5_would_68 (by decide) ?_
          refine lv_istore (lv' := [(6, .int (z_25 - z_7)), (5, .int z_16), (4, .int z_9), (3, .int z_7), (0, .ref (a 0)), (1, .int x), (2, .int w)]) hx hb dX5_would_92 hl (by decide) rfl (fun ls hl => ?_)
          refine lv_aload_n hx hb dX5_would_94 rfl (lv_at hl 4 rfl) ?_
          refine kVv (As := []) (rest := []) X hW (c_X5_comesBack2 l D k a z z_12 f hi sl sv tx td) yw_X5_comesBack lk_X5_142 ⟨Nat.le_of_ble_eq_true rfl, Nat.le_of_ble_eq_true rfl⟩ (wr := []) (List.Perm.refl _) (w' := refW k a z f f hi sl sv tx td) (List.Perm.refl _) (k_rcv X hW (ci := 5) (q0 := 0) rfl rfl) rfl hl.1 rfl (Nat.le_of_ble_eq_true rfl) ⟨Nat.zero_le _, Nat.zero_le _⟩ dX5_would_95 (fun H locs hW => ?_)
          refine lv_iload hx hb dX5_would_98 (lv_at hl 0 rfl) ?_
          exact hQ _ _ _ _ _ _ hW dX5_would_100 (by subst hz_25; subst hz_16; subst hz_12; subst hz_9; subst hz_7; subst hz_4; subst hz_1; rw [m_X5_would_r, if_neg c_3, if_neg c_6, if_neg c_18, if_pos c_19]) (by subst hz_25; subst hz_16; subst hz_12; subst hz_9; subst hz_7; subst hz_4; subst hz_1; rw [m_X5_would_kp, if_neg c_3, if_neg c_6, if_neg c_18, if_pos c_19])
      · refine lv_iload hx hb dX5_would_51 (lv_at hl 0 rfl) ?_
        refine lv_goto (tgt := 92) hx hb dX5_would_53 (by decide) ?_
        refine lv_istore (lv' := [(6, .int z_16), (5, .int z_16), (4, .int z_9), (3, .int z_7), (0, .ref (a 0)), (1, .int x), (2, .int w)]) hx hb dX5_would_92 hl (by decide) rfl (fun ls hl => ?_)
        refine lv_aload_n hx hb dX5_would_94 rfl (lv_at hl 4 rfl) ?_
        refine kVv (As := []) (rest := []) X hW (c_X5_comesBack2 l D k a z z_12 f hi sl sv tx td) yw_X5_comesBack lk_X5_142 ⟨Nat.le_of_ble_eq_true rfl, Nat.le_of_ble_eq_true rfl⟩ (wr := []) (List.Perm.refl _) (w' := refW k a z f f hi sl sv tx td) (List.Perm.refl _) (k_rcv X hW (ci := 5) (q0 := 0) rfl rfl) rfl hl.1 rfl (Nat.le_of_ble_eq_true rfl) ⟨Nat.zero_le _, Nat.zero_le _⟩ dX5_would_95 (fun H locs hW => ?_)
        refine lv_iload hx hb dX5_would_98 (lv_at hl 0 rfl) ?_
        exact hQ _ _ _ _ _ _ hW dX5_would_100 (by subst hz_16; subst hz_12; subst hz_9; subst hz_7; subst hz_4; subst hz_1; rw [m_X5_would_r, if_neg c_3, if_neg c_6, if_pos c_18]) (by subst hz_16; subst hz_12; subst hz_9; subst hz_7; subst hz_4; subst hz_1; rw [m_X5_would_kp, if_neg c_3, if_neg c_6, if_pos c_18])
    · refine lv_bipush (v := (-2)) hx hb dX5_would_19 (by decide +kernel) ?_
      exact hQ _ _ _ _ _ _ hW dX5_would_21 (by subst hz_4; subst hz_1; rw [m_X5_would_r, if_neg c_3, if_pos c_6]) (by subst hz_4; subst hz_1; rw [m_X5_would_kp, if_neg c_3, if_pos c_6])
